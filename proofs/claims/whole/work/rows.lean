section
-- ===== PART A: goes FIRST, ahead of the names: the tables' words, and 'selects' of the private methods out of them =====
/-- a private method of a class that the tables say can be made, by its rows of tables_1 -/
def lw_okq (q : MethodName × Nat) : Prop := (q.1.cls ≠ "java/lang/invoke/MethodHandle" ∧ q.1.cls ≠ "java/lang/invoke/VarHandle") ∧ Cond.instantiable q.1.cls q.2 ∈ tables_1 ∧ Cond.privateMethod q.1 ∈ tables_1 ∧ Cond.instanceMethod q.1 ∈ tables_1
theorem lw_p0 : lw_okq (⟨"java/lang/Throwable", "fillInStackTrace", "(I)Ljava/lang/Throwable;"⟩, 6) := ⟨⟨by decide +kernel, by decide +kernel⟩, List.mem_of_getElem? (i := 195) (by decide +kernel), List.mem_of_getElem? (i := 193) (by decide +kernel), List.mem_of_getElem? (i := 194) (by decide +kernel)⟩
theorem lw_p1 : lw_okq (⟨"TwinWrites", "room", "()I"⟩, 15) := ⟨⟨by decide +kernel, by decide +kernel⟩, List.mem_of_getElem? (i := 13) (by decide +kernel), List.mem_of_getElem? (i := 242) (by decide +kernel), List.mem_of_getElem? (i := 243) (by decide +kernel)⟩
theorem lw_p2 : lw_okq (⟨"TwinWrites", "cleanAllAndMark", "()I"⟩, 15) := ⟨⟨by decide +kernel, by decide +kernel⟩, List.mem_of_getElem? (i := 13) (by decide +kernel), List.mem_of_getElem? (i := 246) (by decide +kernel), List.mem_of_getElem? (i := 247) (by decide +kernel)⟩
theorem lw_p3 : lw_okq (⟨"TwinWrites", "cleanDirty", "(II)I"⟩, 15) := ⟨⟨by decide +kernel, by decide +kernel⟩, List.mem_of_getElem? (i := 13) (by decide +kernel), List.mem_of_getElem? (i := 250) (by decide +kernel), List.mem_of_getElem? (i := 251) (by decide +kernel)⟩
theorem lw_p4 : lw_okq (⟨"TwinWrites", "logWaiting", "()I"⟩, 15) := ⟨⟨by decide +kernel, by decide +kernel⟩, List.mem_of_getElem? (i := 13) (by decide +kernel), List.mem_of_getElem? (i := 254) (by decide +kernel), List.mem_of_getElem? (i := 255) (by decide +kernel)⟩
theorem lw_p5 : lw_okq (⟨"TwinWrites", "powerHolds", "()Z"⟩, 15) := ⟨⟨by decide +kernel, by decide +kernel⟩, List.mem_of_getElem? (i := 13) (by decide +kernel), List.mem_of_getElem? (i := 258) (by decide +kernel), List.mem_of_getElem? (i := 259) (by decide +kernel)⟩
theorem lw_p6 : lw_okq (⟨"TwinWrites", "writePage", "(LTwinWrites$Place;II[I)Z"⟩, 15) := ⟨⟨by decide +kernel, by decide +kernel⟩, List.mem_of_getElem? (i := 13) (by decide +kernel), List.mem_of_getElem? (i := 273) (by decide +kernel), List.mem_of_getElem? (i := 274) (by decide +kernel)⟩
theorem lw_p7 : lw_okq (⟨"TwinWrites", "writeDirtyHome", "(II)Z"⟩, 15) := ⟨⟨by decide +kernel, by decide +kernel⟩, List.mem_of_getElem? (i := 13) (by decide +kernel), List.mem_of_getElem? (i := 281) (by decide +kernel), List.mem_of_getElem? (i := 282) (by decide +kernel)⟩
theorem lw_p8 : lw_okq (⟨"TwinWrites", "lose", "()I"⟩, 15) := ⟨⟨by decide +kernel, by decide +kernel⟩, List.mem_of_getElem? (i := 13) (by decide +kernel), List.mem_of_getElem? (i := 285) (by decide +kernel), List.mem_of_getElem? (i := 286) (by decide +kernel)⟩
theorem lw_p9 : lw_okq (⟨"TwinWrites", "goDown", "()V"⟩, 15) := ⟨⟨by decide +kernel, by decide +kernel⟩, List.mem_of_getElem? (i := 13) (by decide +kernel), List.mem_of_getElem? (i := 289) (by decide +kernel), List.mem_of_getElem? (i := 290) (by decide +kernel)⟩
theorem lw_p10 : lw_okq (⟨"TwinWrites", "bring", "(I)I"⟩, 15) := ⟨⟨by decide +kernel, by decide +kernel⟩, List.mem_of_getElem? (i := 13) (by decide +kernel), List.mem_of_getElem? (i := 297) (by decide +kernel), List.mem_of_getElem? (i := 298) (by decide +kernel)⟩
theorem lw_p11 : lw_okq (⟨"TwinWrites", "frameOf", "(I)I"⟩, 15) := ⟨⟨by decide +kernel, by decide +kernel⟩, List.mem_of_getElem? (i := 13) (by decide +kernel), List.mem_of_getElem? (i := 301) (by decide +kernel), List.mem_of_getElem? (i := 302) (by decide +kernel)⟩
theorem lw_p12 : lw_okq (⟨"TwinWrites", "frameToFill", "()I"⟩, 15) := ⟨⟨by decide +kernel, by decide +kernel⟩, List.mem_of_getElem? (i := 13) (by decide +kernel), List.mem_of_getElem? (i := 305) (by decide +kernel), List.mem_of_getElem? (i := 306) (by decide +kernel)⟩
theorem lw_p13 : lw_okq (⟨"TwinWrites", "changeWords", "(LTwinWrites$Frame;IIII)V"⟩, 15) := ⟨⟨by decide +kernel, by decide +kernel⟩, List.mem_of_getElem? (i := 13) (by decide +kernel), List.mem_of_getElem? (i := 313) (by decide +kernel), List.mem_of_getElem? (i := 314) (by decide +kernel)⟩
theorem lw_p14 : lw_okq (⟨"TwinWrites", "mendHomes", "()Z"⟩, 15) := ⟨⟨by decide +kernel, by decide +kernel⟩, List.mem_of_getElem? (i := 13) (by decide +kernel), List.mem_of_getElem? (i := 359) (by decide +kernel), List.mem_of_getElem? (i := 360) (by decide +kernel)⟩
theorem lw_p15 : lw_okq (⟨"TwinWrites", "slotToMendFrom", "(I)I"⟩, 15) := ⟨⟨by decide +kernel, by decide +kernel⟩, List.mem_of_getElem? (i := 13) (by decide +kernel), List.mem_of_getElem? (i := 367) (by decide +kernel), List.mem_of_getElem? (i := 368) (by decide +kernel)⟩
def lw_privs_1 : List (MethodName × Nat) := [(⟨"java/lang/Throwable", "fillInStackTrace", "(I)Ljava/lang/Throwable;"⟩, 6), (⟨"TwinWrites", "room", "()I"⟩, 15), (⟨"TwinWrites", "cleanAllAndMark", "()I"⟩, 15), (⟨"TwinWrites", "cleanDirty", "(II)I"⟩, 15), (⟨"TwinWrites", "logWaiting", "()I"⟩, 15), (⟨"TwinWrites", "powerHolds", "()Z"⟩, 15), (⟨"TwinWrites", "writePage", "(LTwinWrites$Place;II[I)Z"⟩, 15), (⟨"TwinWrites", "writeDirtyHome", "(II)Z"⟩, 15), (⟨"TwinWrites", "lose", "()I"⟩, 15), (⟨"TwinWrites", "goDown", "()V"⟩, 15), (⟨"TwinWrites", "bring", "(I)I"⟩, 15), (⟨"TwinWrites", "frameOf", "(I)I"⟩, 15), (⟨"TwinWrites", "frameToFill", "()I"⟩, 15), (⟨"TwinWrites", "changeWords", "(LTwinWrites$Frame;IIII)V"⟩, 15), (⟨"TwinWrites", "mendHomes", "()Z"⟩, 15), (⟨"TwinWrites", "slotToMendFrom", "(I)I"⟩, 15)]
theorem lw_r1 : ∀ q ∈ lw_privs_1, lw_okq q := List.forall_mem_cons.mpr ⟨lw_p0, List.forall_mem_cons.mpr ⟨lw_p1, List.forall_mem_cons.mpr ⟨lw_p2, List.forall_mem_cons.mpr ⟨lw_p3, List.forall_mem_cons.mpr ⟨lw_p4, List.forall_mem_cons.mpr ⟨lw_p5, List.forall_mem_cons.mpr ⟨lw_p6, List.forall_mem_cons.mpr ⟨lw_p7, List.forall_mem_cons.mpr ⟨lw_p8, List.forall_mem_cons.mpr ⟨lw_p9, List.forall_mem_cons.mpr ⟨lw_p10, List.forall_mem_cons.mpr ⟨lw_p11, List.forall_mem_cons.mpr ⟨lw_p12, List.forall_mem_cons.mpr ⟨lw_p13, List.forall_mem_cons.mpr ⟨lw_p14, List.forall_mem_cons.mpr ⟨lw_p15, fun _ h => absurd h List.not_mem_nil⟩⟩⟩⟩⟩⟩⟩⟩⟩⟩⟩⟩⟩⟩⟩⟩
theorem lw_p16 : lw_okq (⟨"TwinWrites", "redoLogged", "()I"⟩, 15) := ⟨⟨by decide +kernel, by decide +kernel⟩, List.mem_of_getElem? (i := 13) (by decide +kernel), List.mem_of_getElem? (i := 371) (by decide +kernel), List.mem_of_getElem? (i := 372) (by decide +kernel)⟩
theorem lw_p17 : lw_okq (⟨"TwinWrites", "recordValue", "(II)I"⟩, 15) := ⟨⟨by decide +kernel, by decide +kernel⟩, List.mem_of_getElem? (i := 13) (by decide +kernel), List.mem_of_getElem? (i := 397) (by decide +kernel), List.mem_of_getElem? (i := 398) (by decide +kernel)⟩
theorem lw_p18 : lw_okq (⟨"TwinWrites", "markValue", "(II)I"⟩, 15) := ⟨⟨by decide +kernel, by decide +kernel⟩, List.mem_of_getElem? (i := 13) (by decide +kernel), List.mem_of_getElem? (i := 406) (by decide +kernel), List.mem_of_getElem? (i := 407) (by decide +kernel)⟩
theorem lw_p19 : lw_okq (⟨"TwinWritesModel", "refuses", "(ZI)Z"⟩, 29) := ⟨⟨by decide +kernel, by decide +kernel⟩, List.mem_of_getElem? (i := 432) (by decide +kernel), List.mem_of_getElem? (i := 538) (by decide +kernel), List.mem_of_getElem? (i := 539) (by decide +kernel)⟩
theorem lw_p20 : lw_okq (⟨"TwinWritesModel", "room", "()I"⟩, 29) := ⟨⟨by decide +kernel, by decide +kernel⟩, List.mem_of_getElem? (i := 432) (by decide +kernel), List.mem_of_getElem? (i := 542) (by decide +kernel), List.mem_of_getElem? (i := 543) (by decide +kernel)⟩
theorem lw_p21 : lw_okq (⟨"TwinWritesModel", "check", "()I"⟩, 29) := ⟨⟨by decide +kernel, by decide +kernel⟩, List.mem_of_getElem? (i := 432) (by decide +kernel), List.mem_of_getElem? (i := 546) (by decide +kernel), List.mem_of_getElem? (i := 547) (by decide +kernel)⟩
theorem lw_p22 : lw_okq (⟨"TwinWritesModel", "clean", "(I)Z"⟩, 29) := ⟨⟨by decide +kernel, by decide +kernel⟩, List.mem_of_getElem? (i := 432) (by decide +kernel), List.mem_of_getElem? (i := 550) (by decide +kernel), List.mem_of_getElem? (i := 551) (by decide +kernel)⟩
theorem lw_p23 : lw_okq (⟨"TwinWritesModel", "logWaiting", "()Z"⟩, 29) := ⟨⟨by decide +kernel, by decide +kernel⟩, List.mem_of_getElem? (i := 432) (by decide +kernel), List.mem_of_getElem? (i := 554) (by decide +kernel), List.mem_of_getElem? (i := 555) (by decide +kernel)⟩
theorem lw_p24 : lw_okq (⟨"TwinWritesModel", "mayWrite", "()Z"⟩, 29) := ⟨⟨by decide +kernel, by decide +kernel⟩, List.mem_of_getElem? (i := 432) (by decide +kernel), List.mem_of_getElem? (i := 558) (by decide +kernel), List.mem_of_getElem? (i := 559) (by decide +kernel)⟩
theorem lw_p25 : lw_okq (⟨"TwinWritesModel", "goDown", "()V"⟩, 29) := ⟨⟨by decide +kernel, by decide +kernel⟩, List.mem_of_getElem? (i := 432) (by decide +kernel), List.mem_of_getElem? (i := 562) (by decide +kernel), List.mem_of_getElem? (i := 563) (by decide +kernel)⟩
theorem lw_p26 : lw_okq (⟨"TwinWritesModel", "writeBeside", "(II)Z"⟩, 29) := ⟨⟨by decide +kernel, by decide +kernel⟩, List.mem_of_getElem? (i := 432) (by decide +kernel), List.mem_of_getElem? (i := 566) (by decide +kernel), List.mem_of_getElem? (i := 567) (by decide +kernel)⟩
theorem lw_p27 : lw_okq (⟨"TwinWritesModel", "writeHome", "(IIIZ)Z"⟩, 29) := ⟨⟨by decide +kernel, by decide +kernel⟩, List.mem_of_getElem? (i := 432) (by decide +kernel), List.mem_of_getElem? (i := 570) (by decide +kernel), List.mem_of_getElem? (i := 571) (by decide +kernel)⟩
theorem lw_p28 : lw_okq (⟨"TwinWritesModel", "bring", "(I)I"⟩, 29) := ⟨⟨by decide +kernel, by decide +kernel⟩, List.mem_of_getElem? (i := 432) (by decide +kernel), List.mem_of_getElem? (i := 574) (by decide +kernel), List.mem_of_getElem? (i := 575) (by decide +kernel)⟩
theorem lw_p29 : lw_okq (⟨"TwinWritesModel", "mend", "()Z"⟩, 29) := ⟨⟨by decide +kernel, by decide +kernel⟩, List.mem_of_getElem? (i := 432) (by decide +kernel), List.mem_of_getElem? (i := 602) (by decide +kernel), List.mem_of_getElem? (i := 603) (by decide +kernel)⟩
theorem lw_p30 : lw_okq (⟨"TwinWritesModel", "isHomeWhole", "(I)Z"⟩, 29) := ⟨⟨by decide +kernel, by decide +kernel⟩, List.mem_of_getElem? (i := 432) (by decide +kernel), List.mem_of_getElem? (i := 606) (by decide +kernel), List.mem_of_getElem? (i := 607) (by decide +kernel)⟩
theorem lw_p31 : lw_okq (⟨"TwinWritesModel", "isSlotWhole", "(I)Z"⟩, 29) := ⟨⟨by decide +kernel, by decide +kernel⟩, List.mem_of_getElem? (i := 432) (by decide +kernel), List.mem_of_getElem? (i := 610) (by decide +kernel), List.mem_of_getElem? (i := 611) (by decide +kernel)⟩
def lw_privs_2 : List (MethodName × Nat) := [(⟨"TwinWrites", "redoLogged", "()I"⟩, 15), (⟨"TwinWrites", "recordValue", "(II)I"⟩, 15), (⟨"TwinWrites", "markValue", "(II)I"⟩, 15), (⟨"TwinWritesModel", "refuses", "(ZI)Z"⟩, 29), (⟨"TwinWritesModel", "room", "()I"⟩, 29), (⟨"TwinWritesModel", "check", "()I"⟩, 29), (⟨"TwinWritesModel", "clean", "(I)Z"⟩, 29), (⟨"TwinWritesModel", "logWaiting", "()Z"⟩, 29), (⟨"TwinWritesModel", "mayWrite", "()Z"⟩, 29), (⟨"TwinWritesModel", "goDown", "()V"⟩, 29), (⟨"TwinWritesModel", "writeBeside", "(II)Z"⟩, 29), (⟨"TwinWritesModel", "writeHome", "(IIIZ)Z"⟩, 29), (⟨"TwinWritesModel", "bring", "(I)I"⟩, 29), (⟨"TwinWritesModel", "mend", "()Z"⟩, 29), (⟨"TwinWritesModel", "isHomeWhole", "(I)Z"⟩, 29), (⟨"TwinWritesModel", "isSlotWhole", "(I)Z"⟩, 29)]
theorem lw_r2 : ∀ q ∈ lw_privs_2, lw_okq q := List.forall_mem_cons.mpr ⟨lw_p16, List.forall_mem_cons.mpr ⟨lw_p17, List.forall_mem_cons.mpr ⟨lw_p18, List.forall_mem_cons.mpr ⟨lw_p19, List.forall_mem_cons.mpr ⟨lw_p20, List.forall_mem_cons.mpr ⟨lw_p21, List.forall_mem_cons.mpr ⟨lw_p22, List.forall_mem_cons.mpr ⟨lw_p23, List.forall_mem_cons.mpr ⟨lw_p24, List.forall_mem_cons.mpr ⟨lw_p25, List.forall_mem_cons.mpr ⟨lw_p26, List.forall_mem_cons.mpr ⟨lw_p27, List.forall_mem_cons.mpr ⟨lw_p28, List.forall_mem_cons.mpr ⟨lw_p29, List.forall_mem_cons.mpr ⟨lw_p30, List.forall_mem_cons.mpr ⟨lw_p31, fun _ h => absurd h List.not_mem_nil⟩⟩⟩⟩⟩⟩⟩⟩⟩⟩⟩⟩⟩⟩⟩⟩
def lw_privs : List (MethodName × Nat) := lw_privs_1 ++ (lw_privs_2)
def lw_tbl : List Cond := k2_sels lw_privs ++ tables_1
theorem lw_privs_ok : ∀ q ∈ lw_privs, lw_okq q := by
  show ∀ q ∈ lw_privs_1 ++ (lw_privs_2), lw_okq q
  exact List.forall_mem_append.mpr ⟨lw_r1, lw_r2⟩
/-! ===== BEGIN words of one list among another's, by their places ===== -/
theorem goodIn_r {big : List Cond} (ws : List Cond) (ps : List Nat) (hp : ws = ps.filterMap (fun i => big[i]?)) (h : ws.all goodWord = true) : GoodIn big ws := by
  intro w hw
  have h1 := List.all_eq_true.mp h w hw
  rw [hp] at hw
  obtain ⟨i, -, hi⟩ := List.mem_filterMap.mp hw
  have hm : w ∈ big := by first | exact List.mem_of_getElem? hi | exact List.getElem?_mem hi
  exact ⟨hm, good_of_word h1⟩
theorem goodIn_app {big a b : List Cond} (ha : GoodIn big a) (hb : GoodIn big b) : GoodIn big (a ++ b) := fun w h => (List.mem_append.mp h).elim (ha w) (hb w)
theorem goodIn_ca {big a b : List Cond} {c : Cond} (ha : GoodIn big (c :: a)) (hb : GoodIn big b) : GoodIn big (c :: (a ++ b)) := fun w h => (List.mem_cons.mp h).elim (fun e => ha w (List.mem_cons.mpr (Or.inl e))) (fun h => (List.mem_append.mp h).elim (fun h => ha w (List.mem_cons.mpr (Or.inr h))) (hb w))
theorem goodIn_sub {big ws : List Cond} (hm : ∀ w ∈ ws, w ∈ big) (h : ws.all goodWord = true) : GoodIn big ws := fun w hw => ⟨hm w hw, good_of_word (List.all_eq_true.mp h w hw)⟩
/-! ===== END ===== -/

/-! ===== BEGIN exceptions that leave a method, and their catching by the caller (launches without stack traces) ===== -/
section VXA
/-! The laws vx_back, vx_callV, vx_callS, vx_callSW, vx_throw0, vx_throwS follow proofs of the library, with one case more: JvmDerived/Free/Laws.lean (Back.of_free), Shelf42/LK1.lean (callV, callS), Shelf/KitTraced.lean (throwNew0V, throwNewS). -/
/-- where a method has thrown q: the class by its name, the cell, what was written, the world -/
def vx_T (XC : String → State → State → Prop) (st : State) (q : Addr) (t : State) (mc ms : Nat) (free : Addr → Prop) : Prop :=
  ∃ (E : String) (ce : Cell) (L : List Loc), XC E st t ∧ t.heap[q]? = some ce ∧ ce.vm = .none ∧ st.vm.findClass E = some ce.cls ∧ st.WarmedH t.vm ∧ st.sameButNew ({ t with vm := st.vm } : State) L mc ms ∧ ∀ z ∈ L, free z.base
def vx_Q (Qc : Array Value → State → Outcome → State → Prop) (XC : String → State → State → Prop) (mc ms : Nat) (free : Addr → Prop) : Array Value → State → Outcome → State → Prop := fun a st o t =>
  (Qc a st o t ∧ ∃ L, FrameEnd st o t L mc ms ∧ ∀ q ∈ L, free q.base) ∨ ∃ q, o = .threw q ∧ vx_T XC st q t mc ms free
/-- a callee that returns or throws -/
def vx_Met (l : Launch) (y : MethodName) (ws : List Cond) (rm : Room) (Pc : Array Value → State → Prop) (Qc : Array Value → State → Outcome → State → Prop) (XC : String → State → State → Prop) (mc ms : Nat) (free : Addr → Prop) : Prop :=
  MetFree l y (headSpec ws rm) Pc (fun _ _ _ _ _ => True) (vx_Q Qc XC mc ms free)
def vx_Post (XC : String → State → State → Prop) (mc ms : Nat) (free : Addr → Prop) : Pt → Array Value → Addr → Pt → Prop := fun A a q B =>
  ∃ (g : JFrame) (mk : MethodId) (t : State) (L : List Loc) (E : String) (ce : Cell), B.U.heap = t.heap ∧ B.U.vm = t.vm ∧ XC E (A.U.calling g mk a) t ∧ t.heap[q]? = some ce ∧ ce.vm = .none ∧ A.U.vm.findClass E = some ce.cls ∧ B.locs = A.locs ++ L ∧ (∀ z ∈ L, free z.base) ∧ B.cells = A.cells + mc ∧ B.slots = A.slots + ms
def vx_Back (l : Launch) (R : Room) (p : Program) (e : Env) (below : List Frame) (s : State) (sargs : Array Value) (y : MethodName) (len W9 : Nat)
    (Pre : Pt → Array Value → Prop) (Post : Pt → Array Value → Option Value → Pt → Prop) (PostX : Pt → Array Value → Addr → Pt → Prop) : Prop :=
  ∀ (m : MethodId) (meth : Method) (c : Code) (A : Pt) (g : JFrame) (ig : Instr) (mk : MethodId) (a : Array Value),
    Stand p l e R s m sargs below meth c A.U A.locs A.cells A.slots → g.method = m → g.locals.size = c.maxLocals → decode c.code g.pc = .ok (ig, len) →
    2 * g.monitorRoom + (g.stack.map fun v => v.category).sum ≤ W9 → A.U.methodNamed? y = some mk → Pre A a →
    (∃ (v : Option Value) (B : Pt), Stand p l e R s m sargs below meth c B.U B.locs B.cells B.slots ∧ Post A a v B ∧
      Steps p.tables e below (doInvoke e (A.U.setTop g) [] mk a).1 (B.U.setTop { g with pc := g.pc + len, stack := v.toList ++ g.stack })) ∨
    (∃ (q : Addr) (B : Pt), Stand p l e R s m sargs below meth c B.U B.locs B.cells B.slots ∧ PostX A a q B ∧
      Steps p.tables e below (doInvoke e (A.U.setTop g) [] mk a).1 ((B.U.setTop g).pushFrame (.throwing q)))
section Payer
variable {l : Launch} {R : Room} {p : Program} {e : Env} {below : List Frame} {s : State} {sargs : Array Value} {y : MethodName} {len W9 : Nat}
theorem vx_back {ws : List Cond} {rm : Room} {Pc : Array Value → State → Prop} {Qc : Array Value → State → Outcome → State → Prop} {XC : String → State → State → Prop} {mc ms : Nat} {free : Addr → Prop} {bytes : ByteArray} {maxL : Nat} {ret : Option FieldType}
    (hM : vx_Met l y ws rm Pc Qc XC mc ms free) (hblind : FrameBlind Pc) (hrc : rm.cells = mc) (hrs : rm.slots = ms)
    (hframes : rm.frames + 1 ≤ R.frames) (hlocals : W9 + (maxL + 11) + rm.locals ≤ R.locals)
    (hws : ∀ w ∈ ws, ∀ a' U, s.WarmedH U.vm → w.before a' U = true) (hcode : Cond.code y bytes maxL ret ∈ ws) (hinit : ∀ a' U, s.WarmedH U.vm → (Cond.initialized y.cls).before a' U = true) :
    vx_Back l R p e below s sargs y len W9 (PreOf R mc ms Pc) (PostOf Qc mc ms free) (vx_Post XC mc ms free) := by
  intro m meth c A g ig mk a X hg hsize hdg hW hn hp
  have h1 : (headSpec ws rm).pre.before a A.U = true := atoms_intro fun w hw => hws w hw _ _ X.warmed
  have h2 : (Cond.code y bytes maxL ret).before a A.U = true := hws _ hcode _ _ X.warmed
  have h3 : (Cond.initialized y.cls).before a A.U = true := hinit _ _ X.warmed
  have h4 : A.cells + (headSpec ws rm).room.cells ≤ R.cells := by rw [show (headSpec ws rm).room.cells = mc from hrc]; exact hp.1
  have h5 : A.slots + (headSpec ws rm).room.slots ≤ R.slots := by rw [show (headSpec ws rm).room.slots = ms from hrs]; exact hp.2.1
  have hPc : Pc a (A.U.calling g mk a) := hblind _ _ _ _ hp.2.2
  obtain ⟨U, Ls, c0, s0⟩ := A
  dsimp only [Pt.U, Pt.locs, Pt.cells, Pt.slots] at h1 h2 h3 h4 h5 X hn hPc ⊢
  obtain ⟨methY, cY, hmY, hcY, -, hlY, -, -, -, -⟩ := Cond.code_spec hn h2
  obtain ⟨kY, hkY, -⟩ := className_of_methodNamed hn
  have hinitY : kY.init = .initialized := Cond.initialized_spec (findClass_of_methodNamed hn) hkY h3
  have h : At U g.method c below := by rw [hg]; exact X.here
  have hlocals9 : W9 + (maxL + 11) + (headSpec ws rm).room.locals ≤ R.locals := hlocals
  have happ : (headSpec ws rm).appliesLoose y e.platform (U.calling g mk a) = true :=
    Spec.appliesLoose_calling (g := g) h hdg hn hkY hinitY
      (X.room_calling (g := g) (R' := (headSpec ws rm).room) hsize hmY hcY hframes (by rw [hlY]; omega) h4 h5) h1
  obtain ⟨mid, hmid⟩ := h.above
  have hfr : (U.setTop g).frames = (.java g :: mid) ++ below := by rw [State.frames_setTop' g h.top, hmid]; rfl
  obtain ⟨o, s₂, hsteps, -, hend, hq⟩ := Steps.callFree hM p X.admits X.cas X.clock (acts := []) hfr happ hPc trivial
  have hq' : vx_Q Qc XC mc ms free a (U.calling g mk a) o s₂ := hq
  rw [State.frames_setTop' g h.top] at hend
  obtain ⟨g₀, hg0⟩ := Option.isSome_iff_exists.mp h.top
  obtain ⟨r, hr⟩ := State.topJava?_eq_some.mp hg0
  have hr' : (({ U with heap := s₂.heap, slotsUsed := s₂.slotsUsed } : State).setVm s₂.vm).frames = .java g₀ :: r := hr
  rcases hq' with ⟨hqc, L, hfe, hL⟩ | ⟨q, rfl, E, ce, L, hx, hce, hcv, hcl, hW₂, hsm, hL⟩
  · obtain ⟨⟨v, rfl⟩, hW₂, e2, q2, q3, q4, q5, q6⟩ := id hfe
    have e3 : s₂ = ({ (U.calling g mk a).setFrames s₂.frames with heap := s₂.heap, slotsUsed := s₂.slotsUsed } : State).setVm s₂.vm := by
      have : s₂ = ({ s₂ with vm := (U.calling g mk a).vm } : State).setVm s₂.vm := rfl
      rw [e2] at this
      exact this
    obtain ⟨c₂, i₂, len₂, hc₂, hd₂, hf₂⟩ := hend
    have hW' : U.WarmedH s₂.vm := hW₂
    have hcc : c₂ = c := by
      have h1 : s₂.code? g.method = U.code? g.method := by
        rw [State.code?_eq, State.code?_eq, hW'.alike.method?]
      exact Option.some.inj (hc₂.symm.trans (h1.trans h.code))
    subst hcc
    have hlen : len₂ = len := by rw [hdg] at hd₂; cases hd₂; rfl
    subst hlen
    have hs₂ : s₂ = (({ U with heap := s₂.heap, slotsUsed := s₂.slotsUsed } : State).setVm s₂.vm).setTop { g with pc := g.pc + len₂, stack := v.toList ++ g.stack } := by
      refine e3.trans ?_
      rw [hf₂, State.calling_eq h.top, State.setFrames_setFrames, State.setTop_of_frames _ hr', hr]
      rfl
    have hsame : U.sameButNew ({ U with heap := s₂.heap, slotsUsed := s₂.slotsUsed } : State) L mc ms := by
      refine ⟨?_, q2, q3, q4, q5, q6⟩
      obtain ⟨t, ht, -⟩ := State.frames_cons hr
      show ({ U with heap := s₂.heap, slotsUsed := s₂.slotsUsed } : State) = { U.setFrames U.frames with heap := s₂.heap, slotsUsed := s₂.slotsUsed }
      rw [State.setFrames_self ht]
    subst hg
    refine Or.inl ⟨v, ⟨(({ U with heap := s₂.heap, slotsUsed := s₂.slotsUsed } : State).setVm s₂.vm), Ls ++ L, c0 + mc, s0 + ms⟩,
      ⟨X.admits, X.cas, X.clock, X.frames, X.room, X.hears, X.method, X.code, (X.here.setHeapUsed s₂.heap s₂.slotsUsed).setVm hW'.alike, X.tail, State.WarmedH.trans X.warmed hW', X.limits, X.bytes, X.same.trans (hsame.setVm s.vm)⟩,
      ⟨g, mk, s₂, L, rfl, rfl, hqc, rfl, hL, rfl, rfl⟩, ?_⟩
    show Steps p.tables e below _ ((({ U with heap := s₂.heap, slotsUsed := s₂.slotsUsed } : State).setVm s₂.vm).setTop { g with pc := g.pc + len₂, stack := v.toList ++ g.stack })
    rw [← hs₂]
    exact hsteps
  · obtain ⟨e2, q2, q3, q4, q5, q6⟩ := id hsm
    have e3 : s₂ = ({ (U.calling g mk a).setFrames s₂.frames with heap := s₂.heap, slotsUsed := s₂.slotsUsed } : State).setVm s₂.vm := by
      have : s₂ = ({ s₂ with vm := (U.calling g mk a).vm } : State).setVm s₂.vm := rfl
      rw [e2] at this
      exact this
    have hf₂ : s₂.frames = .throwing q :: .java g :: U.frames.tail := hend
    have hW' : U.WarmedH s₂.vm := hW₂
    have hs₂ : s₂ = ((({ U with heap := s₂.heap, slotsUsed := s₂.slotsUsed } : State).setVm s₂.vm).setTop g).pushFrame (.throwing q) := by
      refine e3.trans ?_
      rw [hf₂, State.calling_eq h.top, State.setFrames_setFrames, State.pushFrame, State.frames_setTop _ hr', State.setTop_of_frames _ hr', State.setFrames_setFrames, hr]
      rfl
    have hsame : U.sameButNew ({ U with heap := s₂.heap, slotsUsed := s₂.slotsUsed } : State) L mc ms := by
      refine ⟨?_, q2, q3, q4, q5, q6⟩
      obtain ⟨t, ht, -⟩ := State.frames_cons hr
      show ({ U with heap := s₂.heap, slotsUsed := s₂.slotsUsed } : State) = { U.setFrames U.frames with heap := s₂.heap, slotsUsed := s₂.slotsUsed }
      rw [State.setFrames_self ht]
    subst hg
    refine Or.inr ⟨q, ⟨(({ U with heap := s₂.heap, slotsUsed := s₂.slotsUsed } : State).setVm s₂.vm), Ls ++ L, c0 + mc, s0 + ms⟩,
      ⟨X.admits, X.cas, X.clock, X.frames, X.room, X.hears, X.method, X.code, (X.here.setHeapUsed s₂.heap s₂.slotsUsed).setVm hW'.alike, X.tail, State.WarmedH.trans X.warmed hW', X.limits, X.bytes, X.same.trans (hsame.setVm s.vm)⟩,
      ⟨g, mk, s₂, L, E, ce, rfl, rfl, hx, hce, hcv, hcl, rfl, hL, rfl, rfl⟩, ?_⟩
    show Steps p.tables e below _ (((({ U with heap := s₂.heap, slotsUsed := s₂.slotsUsed } : State).setVm s₂.vm).setTop g).pushFrame (.throwing q))
    rw [← hs₂]
    exact hsteps
end Payer
section Calls
variable {p : Program} {l : Launch} {e : Env} {R : Room} {s : State} {m : MethodId} {args : Array Value} {below : List Frame} {meth : Method} {c : Code} {T : State} {locs : List Loc} {cells slots : Nat}
theorem vx_callV (X : Stand p l e R s m args below meth c T locs cells slots) (hexec : p.tables.exec = Jvm.exec) {own C : String} {index : Nat} {y : MethodName} {bytes : ByteArray} {maxL : Nat} {ret : Option FieldType}
    (hown : s.vm.findClass own = some m.cls) (hlink : (Cond.methodLink own index y).before args s = true) (hinst : (Cond.instanceMethod y).before args s = true) (hsel : (Cond.selects C y y).before args s = true)
    (hcode : (Cond.code y bytes maxL ret).before args s = true) (hy : y.cls ≠ "java/lang/invoke/MethodHandle" ∧ y.cls ≠ "java/lang/invoke/VarHandle")
    {W9 : Nat} {Pre : Pt → Array Value → Prop} {Post : Pt → Array Value → Option Value → Pt → Prop} {PostX : Pt → Array Value → Addr → Pt → Prop} (hK : vx_Back l R p e below s args y 3 W9 Pre Post PostX)
    {b : Addr} {cellB : Cell} (hcell : T.heap[b]? = some cellB) (hobj : cellB.vm.isStatics = false) (hcls : s.vm.findClass C = some cellB.cls)
    {g : JFrame} (hg : g.method = m) (hsize : g.locals.size = c.maxLocals) {argsL rest : List Value} (hlen : ∀ sig, parseMethodDescriptor y.desc = some sig → argsL.length = sig.parameters.length)
    (hstack : g.stack = argsL.reverse ++ .ref b :: rest) (hW : 2 * g.monitorRoom + (rest.map fun v => v.category).sum ≤ W9) (hdg : decode c.code g.pc = .ok (.invokevirtual index, 3))
    (hpre : ∀ vm₁, s.WarmedH vm₁ → Pre ⟨T.setVm vm₁, locs, cells, slots⟩ (Value.ref b :: argsL).toArray) :
    (∃ (v : Option Value) (vm₁ : Vm) (B : Pt), s.WarmedH vm₁ ∧ Stand p l e R s m args below meth c B.U B.locs B.cells B.slots ∧ Post ⟨T.setVm vm₁, locs, cells, slots⟩ (Value.ref b :: argsL).toArray v B ∧
      ∀ target, Steps p.tables e below (B.U.setTop { g with pc := g.pc + 3, stack := v.toList ++ rest }) target → Steps p.tables e below (T.setTop g) target) ∨
    (∃ (q : Addr) (vm₁ : Vm) (B : Pt), s.WarmedH vm₁ ∧ Stand p l e R s m args below meth c B.U B.locs B.cells B.slots ∧ PostX ⟨T.setVm vm₁, locs, cells, slots⟩ (Value.ref b :: argsL).toArray q B ∧
      Steps p.tables e below (T.setTop g) ((B.U.setTop { g with stack := rest }).pushFrame (.throwing q))) := by
  obtain ⟨mk, methM, hnamed, hmethM, hstM, habM⟩ := Cond.instanceMethod_spec hinst
  obtain ⟨methM', cM, hmethM', -, -, -, -, -, -, hsigM⟩ := Cond.code_spec hnamed hcode
  cases hmethM.symm.trans hmethM'
  obtain ⟨c2, r2, m2, q1, q2, q3, q4, kP, hkP, hkPi⟩ := Cond.selects_spec hsel
  cases hcls.symm.trans q1
  cases (State.methodFound?_of_named hnamed hy).symm.trans q2
  cases hnamed.symm.trans q3
  have hselP : selectMethod e.platform s.vm cellB.cls mk = .method mk := by rw [Launch.admits_selectMethod X.admits]; exact q4
  obtain ⟨vm₁, X₁, hstep₁⟩ := X.invokevirtual hexec hown hlink hnamed hmethM hstM hkP hkPi hy (a := b) (cell := cellB) hcell
    (fun z h => by rw [h] at hobj; cases hobj) hselP hmethM habM hkP hkPi (g := g) hg (argsL := argsL) (rest := rest) (hlen _ hsigM) hstack hdg
  rcases hK m meth c ⟨T.setVm vm₁, locs, cells, slots⟩ { g with stack := rest } (.invokevirtual index) mk (Value.ref b :: argsL).toArray X₁ hg hsize hdg hW (X₁.named hnamed) (hpre vm₁ X₁.warmed) with ⟨v, B, X', hpost, hsteps⟩ | ⟨q, B, X', hpost, hsteps⟩
  · exact Or.inl ⟨v, vm₁, B, X₁.warmed, X', hpost, fun target h => hstep₁ _ fun acts => by rw [doInvoke_state]; exact hsteps.trans h⟩
  · exact Or.inr ⟨q, vm₁, B, X₁.warmed, X', hpost, hstep₁ _ fun acts => by rw [doInvoke_state]; exact hsteps⟩
theorem vx_callS (X : Stand p l e R s m args below meth c T locs cells slots) (hexec : p.tables.exec = Jvm.exec) {own : String} {index : Nat} {y : MethodName} {bytes : ByteArray} {maxL : Nat} {ret : Option FieldType}
    (hown : s.vm.findClass own = some m.cls) (hlink : (Cond.methodLink own index y).before args s = true) (hstat : (Cond.static y).before args s = true) (hinit : (Cond.initialized y.cls).before args s = true)
    (hcode : (Cond.code y bytes maxL ret).before args s = true) (hy : y.cls ≠ "java/lang/invoke/MethodHandle" ∧ y.cls ≠ "java/lang/invoke/VarHandle")
    {W9 : Nat} {Pre : Pt → Array Value → Prop} {Post : Pt → Array Value → Option Value → Pt → Prop} {PostX : Pt → Array Value → Addr → Pt → Prop} (hK : vx_Back l R p e below s args y 3 W9 Pre Post PostX)
    {g : JFrame} (hg : g.method = m) (hsize : g.locals.size = c.maxLocals) {argsL rest : List Value} (hlen : ∀ sig, parseMethodDescriptor y.desc = some sig → argsL.length = sig.parameters.length)
    (hstack : g.stack = argsL.reverse ++ rest) (hW : 2 * g.monitorRoom + (rest.map fun v => v.category).sum ≤ W9) (hdg : decode c.code g.pc = .ok (.invokestatic index, 3))
    (hpre : ∀ vm₁, s.WarmedH vm₁ → Pre ⟨T.setVm vm₁, locs, cells, slots⟩ argsL.toArray) :
    (∃ (v : Option Value) (vm₁ : Vm) (B : Pt), s.WarmedH vm₁ ∧ Stand p l e R s m args below meth c B.U B.locs B.cells B.slots ∧ Post ⟨T.setVm vm₁, locs, cells, slots⟩ argsL.toArray v B ∧
      ∀ target, Steps p.tables e below (B.U.setTop { g with pc := g.pc + 3, stack := v.toList ++ rest }) target → Steps p.tables e below (T.setTop g) target) ∨
    (∃ (q : Addr) (vm₁ : Vm) (B : Pt), s.WarmedH vm₁ ∧ Stand p l e R s m args below meth c B.U B.locs B.cells B.slots ∧ PostX ⟨T.setVm vm₁, locs, cells, slots⟩ argsL.toArray q B ∧
      Steps p.tables e below (T.setTop g) ((B.U.setTop { g with stack := rest }).pushFrame (.throwing q))) := by
  obtain ⟨mk, hnamed⟩ := Cond.code_named hcode
  obtain ⟨methM, cM, hmethM, -, -, -, -, -, -, hsigM⟩ := Cond.code_spec hnamed hcode
  have hstatic : methM.isStatic = true := Cond.static_spec hnamed hmethM hstat
  obtain ⟨kP, hkP, -⟩ := className_of_methodNamed hnamed
  have hinitP : kP.init = .initialized := Cond.initialized_spec (findClass_of_methodNamed hnamed) hkP hinit
  obtain ⟨vm₁, X₁, hstep₁⟩ := X.invokestatic hexec hown hlink hnamed hmethM hstatic hkP hinitP hy (g := g) hg (argsL := argsL) (rest := rest) (hlen _ hsigM) hstack hdg
  rcases hK m meth c ⟨T.setVm vm₁, locs, cells, slots⟩ { g with stack := rest } (.invokestatic index) mk argsL.toArray X₁ hg hsize hdg hW (X₁.named hnamed) (hpre vm₁ X₁.warmed) with ⟨v, B, X', hpost, hsteps⟩ | ⟨q, B, X', hpost, hsteps⟩
  · exact Or.inl ⟨v, vm₁, B, X₁.warmed, X', hpost, fun target h => hstep₁ _ fun acts => by rw [doInvoke_state]; exact hsteps.trans h⟩
  · exact Or.inr ⟨q, vm₁, B, X₁.warmed, X', hpost, hstep₁ _ fun acts => by rw [doInvoke_state]; exact hsteps⟩
end Calls
theorem vx_cls {s : State} {T : State} {vm₁ : Vm} {E : String} {k : ClassId} (hW : s.WarmedH vm₁) (h : (T.setVm vm₁).vm.findClass E = some k) : s.vm.findClass E = some k := by
  have h1 : vm₁.findClass E = some k := h
  rw [hW.alike.findClass] at h1
  exact h1
/-- the method's frame g, with q thrown over it -/
def vx_W (p : Program) (l : Launch) (e : Env) (R : Room) (s : State) (m : MethodId) (args : Array Value) (below : List Frame) (meth : Method) (c : Code) (H : Heap) (locs : List Loc) (cells slots : Nat) (Q : State → Prop) (g : JFrame) (q : Addr) : Prop :=
  ∀ T : State, T.heap = H → Stand p l e R s m args below meth c T locs cells slots → ∃ t, Steps p.tables e below ((T.setTop g).pushFrame (.throwing q)) t ∧ Q t
def vx_Run (p : Program) (l : Launch) (e : Env) (R : Room) (s : State) (m : MethodId) (args : Array Value) (below : List Frame) (meth : Method) (c : Code) (H : Heap) (locs : List Loc) (cells slots mc ms : Nat) (g : JFrame) (rest : List Value) (Qa : State → Outcome → State → Prop) (XC : String → State → State → Prop) (free : Addr → Prop) : Prop :=
  ∀ T : State, T.heap = H → Stand p l e R s m args below meth c T locs cells slots →
    (∃ (v : Option Value) (st₀ t T' : State) (L : List Loc), st₀.heap = H ∧ Stand p l e R s m args below meth c T' (locs ++ L) (cells + mc) (slots + ms) ∧ (∀ q ∈ L, free q.base) ∧ T'.heap = t.heap ∧ T'.vm = t.vm ∧ Qa st₀ (.returned v) t ∧
      Goes p e below T g T' { g with pc := g.pc + 3, stack := v.toList ++ rest }) ∨
    (∃ (q : Addr) (st₀ t T' : State) (L : List Loc) (E : String) (ce : Cell), st₀.heap = H ∧ Stand p l e R s m args below meth c T' (locs ++ L) (cells + mc) (slots + ms) ∧ (∀ z ∈ L, free z.base) ∧ T'.heap = t.heap ∧ T'.vm = t.vm ∧ XC E st₀ t ∧ t.heap[q]? = some ce ∧ ce.vm = .none ∧ s.vm.findClass E = some ce.cls ∧
      Steps p.tables e below (T.setTop g) ((T'.setTop { g with stack := rest }).pushFrame (.throwing q)))
def vx_X {S : Type} (px : S → Prop) (B : String → S → State → Prop) (A : Nat → Prop) : String → State → State → Prop := fun E st t => ∃ u : S, px u ∧ B E u t ∧ va_F A st t
section Runs
variable {p : Program} {l : Launch} {e : Env} {R : Room} {s : State} {m : MethodId} {args : Array Value} {below : List Frame} {meth : Method} {c : Code} {H : Heap} {locs : List Loc} {cells slots : Nat}
variable {y : MethodName} {bytes cc : ByteArray} {maxL nL mc ms n index : Nat} {ret : Option FieldType} {ws : List Cond} {rm : Room} {Pc : Array Value → State → Prop} {Qc : Array Value → State → Outcome → State → Prop} {XC : String → State → State → Prop} {free : Addr → Prop} {Ts : List Cond} {own C : String} {b : Addr} {As rest : List Value} {g : JFrame}
theorem vx_callBack (cb : CallB R s args own index y bytes maxL ret ws rm mc ms n) (hM : vx_Met l y ws rm Pc Qc XC mc ms free) (hbl : FrameBlind Pc) : vx_Back l R p e below s args y 3 8 (PreOf R mc ms Pc) (PostOf Qc mc ms free) (vx_Post XC mc ms free) := by
  obtain ⟨hrc, hrs, hfr, hlo, hws, hcw, -, hini, -⟩ := cb
  exact vx_back (bytes := bytes) (maxL := maxL) (ret := ret) hM hbl hrc hrs hfr hlo hws hcw (fun a' U hW => word_at hW (Or.inl (by first | rfl | simp [Cond.onTables, Cond.keeps, Cond.steady])) hini)
theorem vx_runV (S : CallFix p m c cc nL s args Ts own) (hM : vx_Met l y ws rm Pc Qc XC mc ms free) (cw : CallW R s args own C index y bytes maxL ret ws rm mc ms n) (hp : PreV s H C b Pc As)
    (hg : g.method = m) (hn : As.length = n) (hsize : g.locals.size = nL) (hstack : g.stack = As.reverse ++ .ref b :: rest) (hW : 2 * g.monitorRoom + (rest.map fun v => v.category).sum ≤ 8) (hdg : decode cc g.pc = .ok (.invokevirtual index, 3)) (hf : cells + mc ≤ R.cells ∧ slots + ms ≤ R.slots) :
    vx_Run p l e R s m args below meth c H locs cells slots mc ms g rest (Qc (Value.ref b :: As).toArray) XC free := by
  have hK : vx_Back l R p e below s args y 3 8 (PreOf R mc ms Pc) (PostOf Qc mc ms free) (vx_Post XC mc ms free) := vx_callBack cw.1 hM hp.1
  obtain ⟨⟨-, -, -, -, -, -, hcode, -, hy, hlen, hl⟩, hin, hse⟩ := cw
  obtain ⟨hx, hb, hml, ho, -⟩ := S
  obtain ⟨-, ⟨cellB, hcB, hoB, hclB⟩, hPc⟩ := hp
  intro T hT X
  rcases vx_callV X hx (C := C) (bytes := bytes) (maxL := maxL) (ret := ret) ho hl hin hse hcode hy hK (by rw [hT]; exact hcB) hoB hclB hg (hsize.trans hml.symm) (argsL := As) (rest := rest) (fun sig h => hn.trans (hlen sig h)) hstack hW (by rw [hb]; exact hdg)
    (fun vm₁ hW₁ => ⟨hf.1, hf.2, hPc (T.setVm vm₁) hT hW₁⟩) with ⟨v, vm₁, ⟨U', l2, c2, s2⟩, hW₁, X', ⟨g', mk, t, L, e1, e2, hq, h1, hL, h2, h3⟩, st⟩ | ⟨q, vm₁, ⟨U', l2, c2, s2⟩, hW₁, X', ⟨g', mk, t, L, E, ce, e1, e2, hq, hce, hcv, hcl, h1, hL, h2, h3⟩, st⟩
  · dsimp only [Pt.U, Pt.locs, Pt.cells, Pt.slots] at X' e1 e2 h1 h2 h3 st
    subst h1; subst h2; subst h3
    exact Or.inl ⟨v, (T.setVm vm₁).calling g' mk (Value.ref b :: As).toArray, t, U', L, hT, X', hL, e1, e2, hq, st⟩
  · dsimp only [Pt.U, Pt.locs, Pt.cells, Pt.slots] at X' e1 e2 h1 h2 h3 st hcl
    subst h1; subst h2; subst h3
    exact Or.inr ⟨q, (T.setVm vm₁).calling g' mk (Value.ref b :: As).toArray, t, U', L, E, ce, hT, X', hL, e1, e2, hq, hce, hcv, vx_cls hW₁ hcl, st⟩
theorem vx_runS (S : CallFix p m c cc nL s args Ts own) (hM : vx_Met l y ws rm Pc Qc XC mc ms free) (cw : CallB R s args own index y bytes maxL ret ws rm mc ms n ∧ (Cond.static y).before args s = true) (hp : PreS s H Pc As)
    (hg : g.method = m) (hn : As.length = n) (hsize : g.locals.size = nL) (hstack : g.stack = As.reverse ++ rest) (hW : 2 * g.monitorRoom + (rest.map fun v => v.category).sum ≤ 8) (hdg : decode cc g.pc = .ok (.invokestatic index, 3)) (hf : cells + mc ≤ R.cells ∧ slots + ms ≤ R.slots) :
    vx_Run p l e R s m args below meth c H locs cells slots mc ms g rest (Qc As.toArray) XC free := by
  have hK : vx_Back l R p e below s args y 3 8 (PreOf R mc ms Pc) (PostOf Qc mc ms free) (vx_Post XC mc ms free) := vx_callBack cw.1 hM hp.1
  obtain ⟨⟨-, -, -, -, -, -, hcode, hini, hy, hlen, hl⟩, hstt⟩ := cw
  obtain ⟨hx, hb, hml, ho, -⟩ := S
  intro T hT X
  rcases vx_callS X hx (bytes := bytes) (maxL := maxL) (ret := ret) ho hl hstt hini hcode hy hK hg (hsize.trans hml.symm) (argsL := As) (rest := rest) (fun sig h => hn.trans (hlen sig h)) hstack hW (by rw [hb]; exact hdg)
    (fun vm₁ hW₁ => ⟨hf.1, hf.2, hp.2 (T.setVm vm₁) hT hW₁⟩) with ⟨v, vm₁, ⟨U', l2, c2, s2⟩, hW₁, X', ⟨g', mk, t, L, e1, e2, hq, h1, hL, h2, h3⟩, st⟩ | ⟨q, vm₁, ⟨U', l2, c2, s2⟩, hW₁, X', ⟨g', mk, t, L, E, ce, e1, e2, hq, hce, hcv, hcl, h1, hL, h2, h3⟩, st⟩
  · dsimp only [Pt.U, Pt.locs, Pt.cells, Pt.slots] at X' e1 e2 h1 h2 h3 st
    subst h1; subst h2; subst h3
    exact Or.inl ⟨v, (T.setVm vm₁).calling g' mk As.toArray, t, U', L, hT, X', hL, e1, e2, hq, st⟩
  · dsimp only [Pt.U, Pt.locs, Pt.cells, Pt.slots] at X' e1 e2 h1 h2 h3 st hcl
    subst h1; subst h2; subst h3
    exact Or.inr ⟨q, (T.setVm vm₁).calling g' mk As.toArray, t, U', L, E, ce, hT, X', hL, e1, e2, hq, hce, hcv, vx_cls hW₁ hcl, st⟩
end Runs
section Rows
variable {p : Program} {l : Launch} {e : Env} {R : Room} {s : State} {m : MethodId} {args : Array Value} {below : List Frame} {meth : Method} {c : Code} {H : Heap} {locs : List Loc} {cells slots : Nat} {Q : State → Prop}
variable {mc ms : Nat} {free : Addr → Prop} {A0 A1 : Nat → Prop} {H0 : Heap} {a : Array Value} {pc : Nat} {ls : Array Slot} {st0 rest : List Value}
theorem vx_keep {st₀ t T' : State} {L : List Loc} (h0 : st₀.heap = H) (e1 : T'.heap = t.heap) (hS : va_S A0 H0 H locs) (hA : ∀ q, q < H.size → A1 q → A0 q) (hf : ∀ q, free q → A0 q) (hL : ∀ q ∈ L, free q.base) (hF : va_F A1 st₀ t) :
    H.size ≤ T'.heap.size ∧ (∀ q : Nat, q < H.size → ¬ A1 q → T'.heap[q]? = H[q]?) ∧ va_S A0 H0 T'.heap (locs ++ L) := by
  obtain ⟨hz, hk⟩ := hF
  rw [h0] at hz hk
  exact ⟨by rw [e1]; exact hz, fun q h1 h2 => by rw [e1]; exact hk q h1 h2,
    ⟨Nat.le_trans hS.1 (by rw [e1]; exact hz), fun q h1 h2 => by rw [e1, hk q (Nat.lt_of_lt_of_le h1 hS.1) (fun z => h2 (hA q (Nat.lt_of_lt_of_le h1 hS.1) z))]; exact hS.2.1 q h1 h2, fun q hq => by
      rcases List.mem_append.mp hq with h | h
      · exact hS.2.2 q h
      · exact hf _ (hL q h)⟩⟩
theorem vx_calli {S SX : Type} {post : Int32 → S → Prop} {px : SX → Prop} {B : S → State → Prop} {BX : String → SX → State → Prop} {AX : Nat → Prop} (hr : vx_Run p l e R s m args below meth c H locs cells slots mc ms (F0 m pc ls st0) rest (va_Qi post B A1 a) (vx_X px BX AX) free) (hS : va_S A0 H0 H locs) (hA : ∀ q, q < H.size → A1 q → A0 q) (hf : ∀ q, free q → A0 q) (hAX : ∀ q, q < H.size → AX q → A0 q)
    (kx : ∀ (E : String) (ce : Cell) (q9 : Addr) (u : SX) (t : State) (H1 : Heap) (locs1 : List Loc), t.heap = H1 → s.vm.Alike t.vm → px u → BX E u t → H.size ≤ H1.size → (∀ q : Nat, q < H.size → ¬ AX q → H1[q]? = H[q]?) → va_S A0 H0 H1 locs1 → H1[q9]? = some ce → ce.vm = .none → s.vm.findClass E = some ce.cls → vx_W p l e R s m args below meth c H1 locs1 (cells + mc) (slots + ms) Q (F0 m pc ls rest) q9)
    (kk : ∀ (r : Int32) (u : S) (t : State) (H1 : Heap) (locs1 : List Loc), t.heap = H1 → s.vm.Alike t.vm → post r u → B u t → H.size ≤ H1.size → (∀ q : Nat, q < H.size → ¬ A1 q → H1[q]? = H[q]?) → va_S A0 H0 H1 locs1 → W p l e R s m args below meth c H1 locs1 (cells + mc) (slots + ms) Q (F0 m (pc + 3) ls (.int r :: rest))) : W p l e R s m args below meth c H locs cells slots Q (F0 m pc ls st0) := by
  intro T hT X
  rcases hr T hT X with ⟨v, st₀, t, T', L, h0, X', hL, e1, e2, ⟨⟨r, u, hv, hp, hb⟩, hF⟩, st⟩ | ⟨q, st₀, t, T', L, E, ce, h0, X', hL, e1, e2, ⟨u, hp, hb, hF⟩, hce, hcv, hcl, st⟩
  · cases hv
    obtain ⟨k1, k2, k3⟩ := vx_keep h0 e1 hS hA hf hL hF
    obtain ⟨t2, a1, b1⟩ := kk r u t T'.heap (locs ++ L) e1.symm (by rw [← e2]; exact X'.warmed.alike) hp hb k1 k2 k3 T' rfl X'
    exact ⟨t2, st t2 a1, b1⟩
  · obtain ⟨k1, k2, k3⟩ := vx_keep h0 e1 hS hAX hf hL hF
    obtain ⟨t2, a1, b1⟩ := kx E ce q u t T'.heap (locs ++ L) e1.symm (by rw [← e2]; exact X'.warmed.alike) hp hb k1 k2 k3 (by rw [e1]; exact hce) hcv hcl T' rfl X'
    exact ⟨t2, st.trans a1, b1⟩
theorem vx_calll {S SX : Type} {post : Int64 → S → Prop} {px : SX → Prop} {B : S → State → Prop} {BX : String → SX → State → Prop} {AX : Nat → Prop} (hr : vx_Run p l e R s m args below meth c H locs cells slots mc ms (F0 m pc ls st0) rest (va_Ql post B A1 a) (vx_X px BX AX) free) (hS : va_S A0 H0 H locs) (hA : ∀ q, q < H.size → A1 q → A0 q) (hf : ∀ q, free q → A0 q) (hAX : ∀ q, q < H.size → AX q → A0 q)
    (kx : ∀ (E : String) (ce : Cell) (q9 : Addr) (u : SX) (t : State) (H1 : Heap) (locs1 : List Loc), t.heap = H1 → s.vm.Alike t.vm → px u → BX E u t → H.size ≤ H1.size → (∀ q : Nat, q < H.size → ¬ AX q → H1[q]? = H[q]?) → va_S A0 H0 H1 locs1 → H1[q9]? = some ce → ce.vm = .none → s.vm.findClass E = some ce.cls → vx_W p l e R s m args below meth c H1 locs1 (cells + mc) (slots + ms) Q (F0 m pc ls rest) q9)
    (kk : ∀ (r : Int64) (u : S) (t : State) (H1 : Heap) (locs1 : List Loc), t.heap = H1 → s.vm.Alike t.vm → post r u → B u t → H.size ≤ H1.size → (∀ q : Nat, q < H.size → ¬ A1 q → H1[q]? = H[q]?) → va_S A0 H0 H1 locs1 → W p l e R s m args below meth c H1 locs1 (cells + mc) (slots + ms) Q (F0 m (pc + 3) ls (.long r :: rest))) : W p l e R s m args below meth c H locs cells slots Q (F0 m pc ls st0) := by
  intro T hT X
  rcases hr T hT X with ⟨v, st₀, t, T', L, h0, X', hL, e1, e2, ⟨⟨r, u, hv, hp, hb⟩, hF⟩, st⟩ | ⟨q, st₀, t, T', L, E, ce, h0, X', hL, e1, e2, ⟨u, hp, hb, hF⟩, hce, hcv, hcl, st⟩
  · cases hv
    obtain ⟨k1, k2, k3⟩ := vx_keep h0 e1 hS hA hf hL hF
    obtain ⟨t2, a1, b1⟩ := kk r u t T'.heap (locs ++ L) e1.symm (by rw [← e2]; exact X'.warmed.alike) hp hb k1 k2 k3 T' rfl X'
    exact ⟨t2, st t2 a1, b1⟩
  · obtain ⟨k1, k2, k3⟩ := vx_keep h0 e1 hS hAX hf hL hF
    obtain ⟨t2, a1, b1⟩ := kx E ce q u t T'.heap (locs ++ L) e1.symm (by rw [← e2]; exact X'.warmed.alike) hp hb k1 k2 k3 (by rw [e1]; exact hce) hcv hcl T' rfl X'
    exact ⟨t2, st.trans a1, b1⟩
theorem vx_callf {S SX : Type} {post : UInt32 → S → Prop} {px : SX → Prop} {B : S → State → Prop} {BX : String → SX → State → Prop} {AX : Nat → Prop} (hr : vx_Run p l e R s m args below meth c H locs cells slots mc ms (F0 m pc ls st0) rest (va_Qf post B A1 a) (vx_X px BX AX) free) (hS : va_S A0 H0 H locs) (hA : ∀ q, q < H.size → A1 q → A0 q) (hf : ∀ q, free q → A0 q) (hAX : ∀ q, q < H.size → AX q → A0 q)
    (kx : ∀ (E : String) (ce : Cell) (q9 : Addr) (u : SX) (t : State) (H1 : Heap) (locs1 : List Loc), t.heap = H1 → s.vm.Alike t.vm → px u → BX E u t → H.size ≤ H1.size → (∀ q : Nat, q < H.size → ¬ AX q → H1[q]? = H[q]?) → va_S A0 H0 H1 locs1 → H1[q9]? = some ce → ce.vm = .none → s.vm.findClass E = some ce.cls → vx_W p l e R s m args below meth c H1 locs1 (cells + mc) (slots + ms) Q (F0 m pc ls rest) q9)
    (kk : ∀ (r : UInt32) (u : S) (t : State) (H1 : Heap) (locs1 : List Loc), t.heap = H1 → s.vm.Alike t.vm → post r u → B u t → H.size ≤ H1.size → (∀ q : Nat, q < H.size → ¬ A1 q → H1[q]? = H[q]?) → va_S A0 H0 H1 locs1 → W p l e R s m args below meth c H1 locs1 (cells + mc) (slots + ms) Q (F0 m (pc + 3) ls (.float r :: rest))) : W p l e R s m args below meth c H locs cells slots Q (F0 m pc ls st0) := by
  intro T hT X
  rcases hr T hT X with ⟨v, st₀, t, T', L, h0, X', hL, e1, e2, ⟨⟨r, u, hv, hp, hb⟩, hF⟩, st⟩ | ⟨q, st₀, t, T', L, E, ce, h0, X', hL, e1, e2, ⟨u, hp, hb, hF⟩, hce, hcv, hcl, st⟩
  · cases hv
    obtain ⟨k1, k2, k3⟩ := vx_keep h0 e1 hS hA hf hL hF
    obtain ⟨t2, a1, b1⟩ := kk r u t T'.heap (locs ++ L) e1.symm (by rw [← e2]; exact X'.warmed.alike) hp hb k1 k2 k3 T' rfl X'
    exact ⟨t2, st t2 a1, b1⟩
  · obtain ⟨k1, k2, k3⟩ := vx_keep h0 e1 hS hAX hf hL hF
    obtain ⟨t2, a1, b1⟩ := kx E ce q u t T'.heap (locs ++ L) e1.symm (by rw [← e2]; exact X'.warmed.alike) hp hb k1 k2 k3 (by rw [e1]; exact hce) hcv hcl T' rfl X'
    exact ⟨t2, st.trans a1, b1⟩
theorem vx_calld {S SX : Type} {post : UInt64 → S → Prop} {px : SX → Prop} {B : S → State → Prop} {BX : String → SX → State → Prop} {AX : Nat → Prop} (hr : vx_Run p l e R s m args below meth c H locs cells slots mc ms (F0 m pc ls st0) rest (va_Qd post B A1 a) (vx_X px BX AX) free) (hS : va_S A0 H0 H locs) (hA : ∀ q, q < H.size → A1 q → A0 q) (hf : ∀ q, free q → A0 q) (hAX : ∀ q, q < H.size → AX q → A0 q)
    (kx : ∀ (E : String) (ce : Cell) (q9 : Addr) (u : SX) (t : State) (H1 : Heap) (locs1 : List Loc), t.heap = H1 → s.vm.Alike t.vm → px u → BX E u t → H.size ≤ H1.size → (∀ q : Nat, q < H.size → ¬ AX q → H1[q]? = H[q]?) → va_S A0 H0 H1 locs1 → H1[q9]? = some ce → ce.vm = .none → s.vm.findClass E = some ce.cls → vx_W p l e R s m args below meth c H1 locs1 (cells + mc) (slots + ms) Q (F0 m pc ls rest) q9)
    (kk : ∀ (r : UInt64) (u : S) (t : State) (H1 : Heap) (locs1 : List Loc), t.heap = H1 → s.vm.Alike t.vm → post r u → B u t → H.size ≤ H1.size → (∀ q : Nat, q < H.size → ¬ A1 q → H1[q]? = H[q]?) → va_S A0 H0 H1 locs1 → W p l e R s m args below meth c H1 locs1 (cells + mc) (slots + ms) Q (F0 m (pc + 3) ls (.double r :: rest))) : W p l e R s m args below meth c H locs cells slots Q (F0 m pc ls st0) := by
  intro T hT X
  rcases hr T hT X with ⟨v, st₀, t, T', L, h0, X', hL, e1, e2, ⟨⟨r, u, hv, hp, hb⟩, hF⟩, st⟩ | ⟨q, st₀, t, T', L, E, ce, h0, X', hL, e1, e2, ⟨u, hp, hb, hF⟩, hce, hcv, hcl, st⟩
  · cases hv
    obtain ⟨k1, k2, k3⟩ := vx_keep h0 e1 hS hA hf hL hF
    obtain ⟨t2, a1, b1⟩ := kk r u t T'.heap (locs ++ L) e1.symm (by rw [← e2]; exact X'.warmed.alike) hp hb k1 k2 k3 T' rfl X'
    exact ⟨t2, st t2 a1, b1⟩
  · obtain ⟨k1, k2, k3⟩ := vx_keep h0 e1 hS hAX hf hL hF
    obtain ⟨t2, a1, b1⟩ := kx E ce q u t T'.heap (locs ++ L) e1.symm (by rw [← e2]; exact X'.warmed.alike) hp hb k1 k2 k3 (by rw [e1]; exact hce) hcv hcl T' rfl X'
    exact ⟨t2, st.trans a1, b1⟩
theorem vx_callv {S SX : Type} {post : S → Prop} {px : SX → Prop} {B : S → State → Prop} {BX : String → SX → State → Prop} {AX : Nat → Prop} (hr : vx_Run p l e R s m args below meth c H locs cells slots mc ms (F0 m pc ls st0) rest (va_Qv post B A1 a) (vx_X px BX AX) free) (hS : va_S A0 H0 H locs) (hA : ∀ q, q < H.size → A1 q → A0 q) (hf : ∀ q, free q → A0 q) (hAX : ∀ q, q < H.size → AX q → A0 q)
    (kx : ∀ (E : String) (ce : Cell) (q9 : Addr) (u : SX) (t : State) (H1 : Heap) (locs1 : List Loc), t.heap = H1 → s.vm.Alike t.vm → px u → BX E u t → H.size ≤ H1.size → (∀ q : Nat, q < H.size → ¬ AX q → H1[q]? = H[q]?) → va_S A0 H0 H1 locs1 → H1[q9]? = some ce → ce.vm = .none → s.vm.findClass E = some ce.cls → vx_W p l e R s m args below meth c H1 locs1 (cells + mc) (slots + ms) Q (F0 m pc ls rest) q9)
    (kk : ∀ (u : S) (t : State) (H1 : Heap) (locs1 : List Loc), t.heap = H1 → s.vm.Alike t.vm → post u → B u t → H.size ≤ H1.size → (∀ q : Nat, q < H.size → ¬ A1 q → H1[q]? = H[q]?) → va_S A0 H0 H1 locs1 → W p l e R s m args below meth c H1 locs1 (cells + mc) (slots + ms) Q (F0 m (pc + 3) ls (rest))) : W p l e R s m args below meth c H locs cells slots Q (F0 m pc ls st0) := by
  intro T hT X
  rcases hr T hT X with ⟨v, st₀, t, T', L, h0, X', hL, e1, e2, ⟨⟨u, hv, hp, hb⟩, hF⟩, st⟩ | ⟨q, st₀, t, T', L, E, ce, h0, X', hL, e1, e2, ⟨u, hp, hb, hF⟩, hce, hcv, hcl, st⟩
  · cases hv
    obtain ⟨k1, k2, k3⟩ := vx_keep h0 e1 hS hA hf hL hF
    obtain ⟨t2, a1, b1⟩ := kk u t T'.heap (locs ++ L) e1.symm (by rw [← e2]; exact X'.warmed.alike) hp hb k1 k2 k3 T' rfl X'
    exact ⟨t2, st t2 a1, b1⟩
  · obtain ⟨k1, k2, k3⟩ := vx_keep h0 e1 hS hAX hf hL hF
    obtain ⟨t2, a1, b1⟩ := kx E ce q u t T'.heap (locs ++ L) e1.symm (by rw [← e2]; exact X'.warmed.alike) hp hb k1 k2 k3 (by rw [e1]; exact hce) hcv hcl T' rfl X'
    exact ⟨t2, st.trans a1, b1⟩
end Rows
section Ends
variable {p : Program} {l : Launch} {e : Env} {R : Room} {s : State} {m : MethodId} {args : Array Value} {below : List Frame} {meth : Method} {c : Code} {H : Heap} {locs : List Loc} {cells slots : Nat} {Q : State → Prop}
variable {mc ms : Nat} {free : Addr → Prop} {A0 A1 : Nat → Prop} {H0 : Heap} {a : Array Value} {ls : Array Slot} {st0 rest : List Value}
variable {Qc : Array Value → State → Outcome → State → Prop} {XC : String → State → State → Prop}
/-- what a body that may throw owes at its end -/
def vx_MQ (below : List Frame) (Qc : Array Value → State → Outcome → State → Prop) (XC : String → State → State → Prop) (a : Array Value) (s : State) (mc ms : Nat) (free : Addr → Prop) : State → Prop := fun t =>
  ∃ o, t.status = .running ∧ Ended t below o ∧ vx_Q Qc XC mc ms free a s o t
theorem vx_ret {g : JFrame} {mc ms : Nat} (k : W p l e R s m args below meth c H locs cells slots (MQ below Qc args s mc ms free) g) : W p l e R s m args below meth c H locs cells slots (vx_MQ below Qc XC args s mc ms free) g := by
  intro T hT X
  obtain ⟨t, a1, o, b1, b2, b3, b4⟩ := k T hT X
  exact ⟨t, a1, o, b1, b2, Or.inl ⟨b3, b4⟩⟩
/-- not caught here: it goes on to the caller -/
theorem vx_widen {g : JFrame} {q : Addr} {k n : Nat} (h1 : cells ≤ k) (h2 : slots ≤ n) (kk : vx_W p l e R s m args below meth c H locs k n Q g q) : vx_W p l e R s m args below meth c H locs cells slots Q g q := fun T hT X => kk T hT (stand_widen X h1 h2)
theorem vx_out {pc : Nat} {E : String} {ce : Cell} {q : Addr} {mc ms : Nat} (hout : ∀ x ∈ c.exceptionTable.toList, covers x pc = false) (hlocks : meth.locks = false) (hcell : H[q]? = some ce) (hv : ce.vm = .none) (hcl : s.vm.findClass E = some ce.cls)
    (hx : ∀ t : State, t.heap = H → s.vm.Alike t.vm → XC E s t) (hf : ∀ z ∈ locs, free z.base) (hc : cells ≤ mc) (hs : slots ≤ ms) :
    vx_W p l e R s m args below meth c H locs cells slots (vx_MQ below Qc XC args s mc ms free) (F0 m pc ls rest) q := by
  intro T hT X
  obtain ⟨st1, hrun, hend, hW, hsm⟩ := X.leaveThrown q (g := F0 m pc ls rest) rfl rfl rfl hout hlocks
  have hcell9 : (T.setFrames (.throwing q :: below)).heap[q]? = some ce := by
    show T.heap[q]? = some ce
    rw [hT]; exact hcell
  exact ⟨_, st1, .threw q, hrun, hend, Or.inr ⟨q, rfl, E, ce, locs, hx _ hT hW.alike, hcell9, hv, hcl, hW, hsm.mono hc hs, hf⟩⟩
theorem vx_frame {U : State} {k n : Nat} (h : s.sameButNew ({ U with vm := s.vm } : State) locs k n) : s.heap.size ≤ U.heap.size ∧ ∀ q : Nat, q < s.heap.size → (∀ z ∈ locs, z.base ≠ q) → U.heap[q]? = s.heap[q]? := by
  obtain ⟨-, h2, -, -, -, h6⟩ := h
  refine ⟨h2, fun q hq hz => ?_⟩
  obtain ⟨c9, e1, e2, e3, e4⟩ := h6 q _ (Array.getElem?_eq_getElem hq)
  have hs : c9.slots = (s.heap[q]).slots := Array.ext_getElem? fun i => e4 i fun hm => hz _ hm rfl
  have h9 : c9 = s.heap[q] := by
    rw [hs] at e2
    exact e2
  have e5 : U.heap[q]? = some c9 := e1
  rw [e5, h9, Array.getElem?_eq_getElem hq]
/-- the words of a throw but the four that speak of the heap -/
def vx_no (w : Cond) : Bool := decide (w ≠ .isRef (.static Bundle.tN "UNASSIGNED_STACK" Bundle.steD)) && decide (w ≠ .isRef (.static Bundle.tN "SUPPRESSED_SENTINEL" Bundle.listD)) && decide (w ≠ .laysStatic Bundle.tN "UNASSIGNED_STACK" Bundle.steD) && decide (w ≠ .laysStatic Bundle.tN "SUPPRESSED_SENTINEL" Bundle.listD)
def vx_at0 (own : String) (ic : Nat) (X : String) (names : List String) : List Cond := (Bundle.ownAtoms0 own ic X names).filter vx_no
def vx_atS (own : String) (ic : Nat) (X : String) (names : List String) : List Cond := (Bundle.ownAtoms own ic X names).filter vx_no
/-- a word that the tables alone decide, or a good one -/
def vx_ot (w : Cond) : Bool := w.onTables || goodWord w
theorem vx_ot_at {args a' : Array Value} {s U : State} {w : Cond} (hW : s.WarmedH U.vm) (hvm : s.vm = U.vm) (hg : vx_ot w = true) (h : w.before args s = true) : w.before a' U = true := by
  simp only [vx_ot, Bool.or_eq_true] at hg
  rcases hg with hg | hg
  · exact va_tabs hg hvm h
  · exact word_at hW (good_of_word hg) h
/-- a list's words: the good ones out of the method's own list, the others by premises of their own -/
theorem vx_hat {args : Array Value} {s : State} {L B : List Cond} (h1 : ∀ w ∈ L.filter goodWord, w.before args s = true) (h2 : ∀ w ∈ L.filter (fun w => !goodWord w), w ∈ B) (h3 : ∀ w ∈ B, w.before args s = true) : ∀ w ∈ L, w.before args s = true := by
  intro w hw
  by_cases g : goodWord w = true
  · exact h1 w (List.mem_filter.mpr ⟨hw, g⟩)
  · refine h3 w (h2 w (List.mem_filter.mpr ⟨hw, ?_⟩))
    show (!goodWord w) = true
    cases hgw : goodWord w
    · rfl
    · exact absurd hgw g
theorem vx_c {args : Array Value} {s : State} {w : Cond} {B : List Cond} (h : w.before args s = true) (t : ∀ w ∈ B, w.before args s = true) : ∀ w' ∈ w :: B, w'.before args s = true := fun w' h' => (List.mem_cons.mp h').elim (fun e => by rw [e]; exact h) (t w')
theorem vx_n {args : Array Value} {s : State} : ∀ w ∈ ([] : List Cond), w.before args s = true := fun _ h => nomatch h
theorem vx_own {args : Array Value} {s : State} {L : List Cond} (h1 : ∀ w ∈ L.filter vx_no, w.before args s = true)
    (hU : (Cond.isRef (.static Bundle.tN "UNASSIGNED_STACK" Bundle.steD)).before args s = true) (hN : (Cond.isRef (.static Bundle.tN "SUPPRESSED_SENTINEL" Bundle.listD)).before args s = true)
    (lU : (Cond.laysStatic Bundle.tN "UNASSIGNED_STACK" Bundle.steD).before args s = true) (lN : (Cond.laysStatic Bundle.tN "SUPPRESSED_SENTINEL" Bundle.listD).before args s = true) : ∀ w ∈ L, w.before args s = true := by
  intro w hw
  by_cases e1 : w = .isRef (.static Bundle.tN "UNASSIGNED_STACK" Bundle.steD)
  · rw [e1]; exact hU
  · by_cases e2 : w = .isRef (.static Bundle.tN "SUPPRESSED_SENTINEL" Bundle.listD)
    · rw [e2]; exact hN
    · by_cases e3 : w = .laysStatic Bundle.tN "UNASSIGNED_STACK" Bundle.steD
      · rw [e3]; exact lU
      · by_cases e4 : w = .laysStatic Bundle.tN "SUPPRESSED_SENTINEL" Bundle.listD
        · rw [e4]; exact lN
        · exact h1 w (List.mem_filter.mpr ⟨hw, by unfold vx_no; rw [decide_eq_true e1, decide_eq_true e2, decide_eq_true e3, decide_eq_true e4]; rfl⟩)
/-- where a static field lies, its class's statics cell in H -/
def vx_L (C n d : String) (A : Nat → Prop) (U : State) (H : Heap) : Prop := ∃ (c : ClassId) (k : Class) (i : Nat) (f : Field) (a : Nat) (cell : Cell), U.vm.findClass C = some c ∧ U.fieldFound? C n d = some (c, k, i, f) ∧ f.isStatic = true ∧ k.statics = some a ∧ H[a]? = some cell ∧ cell.vm.isStatics = true ∧ cell.cls = c ∧ f.slot < cell.slots.size ∧ k.staticTypes[f.slot]? = some f.type ∧ ¬ A a
theorem vx_L.moved {C n d : String} {A : Nat → Prop} {u U : State} {H : Heap} (hvm : u.vm.Alike U.vm) (h : vx_L C n d A u H) : vx_L C n d A U H := by
  obtain ⟨c, k, i, f, a, cell, h1, h2, h3, h4, h5, h6, h7, h8, h9, h10⟩ := h
  obtain ⟨k', hi', he⟩ := State.fieldFound?_setVm hvm h2
  exact ⟨c, k', i, f, a, cell, by rw [hvm.findClass]; exact h1, hi', h3, by rw [he]; exact h4, h5, h6, h7, h8, by rw [he]; exact h9, h10⟩
theorem vx_L.kept {C n d : String} {A : Nat → Prop} {U : State} {H H1 : Heap} (h : vx_L C n d A U H) (hq : ∀ a : Nat, a < H.size → ¬ A a → H1[a]? = H[a]?) : vx_L C n d A U H1 := by
  obtain ⟨c, k, i, f, a, cell, h1, h2, h3, h4, h5, h6, h7, h8, h9, h10⟩ := h
  exact ⟨c, k, i, f, a, cell, h1, h2, h3, h4, by rw [hq a (Array.getElem?_eq_some_iff.mp h5).1 h10]; exact h5, h6, h7, h8, h9, h10⟩
theorem vx_L.narrow {C n d : String} {A B : Nat → Prop} {U : State} {H : Heap} (h : vx_L C n d A U H) (hAB : ∀ q, B q → A q) : vx_L C n d B U H := by
  obtain ⟨c, k, i, f, a, cell, h1, h2, h3, h4, h5, h6, h7, h8, h9, h10⟩ := h
  exact ⟨c, k, i, f, a, cell, h1, h2, h3, h4, h5, h6, h7, h8, h9, fun z => h10 (hAB _ z)⟩
theorem vx_L.word {C n d : String} {A : Nat → Prop} {s : State} {args : Array Value} (h : vx_L C n d A s s.heap) : (Cond.laysStatic C n d).before args s = true := by
  obtain ⟨c, k, i, f, a, cell, h1, h2, h3, h4, h5, h6, h7, h8, h9, -⟩ := h
  show (Cond.laysStatic C n d).holds args s none s [] = true
  exact Cond.laysStatic_of h1 h2 h3 h4 h5 h6 h7 h8 h9
/-- .. and what it holds: null or some reference -/
def vx_Zq (C n d : String) (A : Nat → Prop) (U : State) (H : Heap) : Prop := va_Zq C n d A U H ∧ vx_L C n d A U H
theorem vx_Zq.moved {C n d : String} {A : Nat → Prop} {u U : State} {H : Heap} (hvm : u.vm.Alike U.vm) (h : vx_Zq C n d A u H) : vx_Zq C n d A U H := ⟨va_Zq.moved hvm h.1, vx_L.moved hvm h.2⟩
theorem vx_Zq.kept {C n d : String} {A : Nat → Prop} {U : State} {H H1 : Heap} (h : vx_Zq C n d A U H) (hq : ∀ a : Nat, a < H.size → ¬ A a → H1[a]? = H[a]?) : vx_Zq C n d A U H1 := ⟨va_Zq.kept h.1 hq, vx_L.kept h.2 hq⟩
theorem vx_Zq.narrow {C n d : String} {A B : Nat → Prop} {U : State} {H : Heap} (h : vx_Zq C n d A U H) (hAB : ∀ q, B q → A q) : vx_Zq C n d B U H := ⟨va_Zq.narrow h.1 hAB, vx_L.narrow h.2 hAB⟩
theorem vx_Zqof {args : Array Value} {s : State} {C n d : String} {A : Nat → Prop} (hl : (Cond.laysStatic C n d).before args s = true) (hini : (Cond.initialized C).before args s = true) (h : (Cond.isRef (.static C n d)).before args s = true) (hA : ∀ a : Nat, a < s.heap.size → ¬ A a) : vx_Zq C n d A s s.heap := by
  refine ⟨va_Zqof hl hini h hA, ?_⟩
  obtain ⟨c, k, i, f, a, cell, h1, h2, h3, h4, h5, h6, h7, h8, h9⟩ := Cond.laysStatic_spec hl
  exact ⟨c, k, i, f, a, cell, h1, h2, h3, h4, h5, h6, h7, h8, h9, hA a (Array.getElem?_eq_some_iff.mp h5).1⟩
theorem vx_isRef {C n d : String} {v : Value} {A : Nat → Prop} {s : State} {args : Array Value} (h : va_Z C n d v A s s.heap) (hv : v.isRef = true) : (Cond.isRef (.static C n d)).before args s = true := by
  obtain ⟨cf, kf, fi, f, a, cell, h1, h2, h3, h4, h5, h6, h7, -⟩ := h
  have he : (Term.static C n d).eval args s none [] s = some v := by
    simp [Term.eval, State.fieldNamed?, h1, h2, h4, h5, h6, h7]
  simp only [Cond.before, Cond.holds, Cond.value, he]
  cases v <;> simp_all [Value.isRef]
theorem vx_isRefq {C n d : String} {A : Nat → Prop} {s : State} {args : Array Value} (h : va_Zq C n d A s s.heap) : (Cond.isRef (.static C n d)).before args s = true := by
  rcases h with h | ⟨t, h⟩
  · exact vx_isRef h rfl
  · exact vx_isRef h rfl
/-- the same frame, seen from here: as if the method were called anew in this heap -/
theorem vx_rebase {T : State} (X : Stand p l e R s m args below meth c T locs cells slots) {R' : Room} (hf : R'.frames ≤ R.frames) (hl : R'.locals ≤ R.locals) (hc : cells + R'.cells ≤ R.cells) (hs : slots + R'.slots ≤ R.slots) :
    Stand p l e R' ((T.setVm s.vm).setFrames (.invoking m args :: below)) m args below meth c T [] 0 0 := by
  have htop : (T.setVm s.vm).topJava?.isSome := X.here.top
  have hF : ((T.setVm s.vm).setFrames (.invoking m args :: below)).frames = .invoking m args :: below := State.frames_setFrames _ (State.cur_lt_of_top htop)
  obtain ⟨g₀, hg0⟩ := Option.isSome_iff_exists.mp htop
  obtain ⟨r, hr⟩ := State.topJava?_eq_some.mp hg0
  have hl9 : e.platform.stackLimits (T.setVm s.vm).me = e.platform.stackLimits s.me := X.limits
  have hb9 : (T.setVm s.vm).me.stackBytes = s.me.stackBytes := X.bytes
  refine ⟨X.admits, X.cas, X.clock, hF, ?_, X.hears, X.method, X.code, X.here, X.tail, X.warmed, ?_, ?_, ?_⟩
  · have h := X.room
    have hU : ((T.setVm s.vm).setFrames (.invoking m args :: below)).localsInUse = s.localsInUse := by
      rw [State.localsInUse_invoking hF (meth := meth) (c := c) X.method X.code, State.localsInUse_invoking X.frames X.method X.code]
    simp only [State.hasRoom, Bool.and_eq_true, decide_eq_true_eq] at h ⊢
    obtain ⟨⟨⟨⟨h1, h2, h3, h4, h5, h6⟩, h7⟩, h8⟩, h9⟩ := h
    rw [X.frames, List.length_cons] at h2 h3
    have q1 := X.heapSize
    have q2 := X.used
    simp only [hF, hU, List.length_cons, State.stackLimits_setFrames, State.stackBytes_setFrames, hl9, hb9]
    refine ⟨⟨⟨⟨by omega, by omega, by omega, by omega, by omega, h6⟩, ?_⟩, ?_⟩, X.book⟩
    · show T.heap.size + R'.cells ≤ e.platform.maxCells
      omega
    · show T.slotsUsed + R'.slots ≤ e.platform.maxSlots
      omega
  · rw [State.stackLimits_setFrames]; rfl
  · rw [State.stackBytes_setFrames]; rfl
  · refine ⟨?_, Nat.le_refl _, Nat.le_refl _, ?_, ?_, fun a c9 h9 => ⟨c9, h9, rfl, rfl, fun _ _ => rfl⟩⟩
    · obtain ⟨t, ht, -⟩ := State.frames_cons hr
      show T.setVm s.vm = { ((T.setVm s.vm).setFrames (.invoking m args :: below)).setFrames (T.setVm s.vm).frames with heap := T.heap, slotsUsed := T.slotsUsed }
      rw [State.setFrames_setFrames, State.setFrames_self ht]
      rfl
    · show T.slotsUsed = T.slotsUsed + ((T.heap.toList.drop T.heap.size).map (·.slots.size)).sum
      rw [List.drop_eq_nil_of_le (Nat.le_of_eq Array.length_toList)]
      rfl
    · show ((T.heap.toList.drop T.heap.size).map (·.slots.size)).sum ≤ 0
      rw [List.drop_eq_nil_of_le (Nat.le_of_eq Array.length_toList)]
      exact Nat.le_refl _
/-- 'throw new E()': new; dup; invokespecial; athrow -/
theorem vx_throw0 {cc : ByteArray} {pc : Nat} (hexec : p.tables.exec = Jvm.exec) (hb : c.code = cc) (hl : l.stackTraces = false) {own cls : String} {names : List String} {ik ic mc ms : Nat} {A : Nat → Prop}
    (hown : s.vm.findClass own = some m.cls) (hcls : Bundle.fit cls = true) (hnames : ∀ n ∈ names, Bundle.fit n = true)
    (hk : (Cond.classLink own ik cls).before args s = true) (hini : (Cond.initialized cls).before args s = true) (hat : ∀ w ∈ vx_at0 own ic cls names, w.before args s = true)
    (hgood : ∀ w ∈ Cond.classLink own ik cls :: Cond.initialized cls :: vx_at0 own ic cls names, vx_ot w = true)
    (hU : vx_Zq Bundle.tN "UNASSIGNED_STACK" Bundle.steD A s s.heap) (hN : vx_Zq Bundle.tN "SUPPRESSED_SENTINEL" Bundle.listD A s s.heap) (hS : va_S A s.heap H locs) (hsize : ls.size = c.maxLocals)
    (d0 : decode cc pc = .ok (.new ik, 3)) (d3 : decode cc (pc + 3) = .ok (.dup, 1)) (d4 : decode cc (pc + 4) = .ok (.invokespecial ic, 3)) (d7 : decode cc (pc + 7) = .ok (.athrow, 1))
    (hout : ∀ x ∈ c.exceptionTable.toList, covers x (pc + 7) = false)
    (hRframes : names.length + 3 < R.frames) (hRlocals : (rest.map fun v => v.category).sum + (13 * (names.length + 1) + 42) ≤ R.locals) (hRcells : cells + 1 ≤ R.cells) (hRslots : slots + 6 ≤ R.slots) (hlocks : meth.locks = false)
    (hx : ∀ t : State, s.vm.Alike t.vm → H.size ≤ t.heap.size → (∀ q : Nat, q < H.size → t.heap[q]? = H[q]?) → XC cls s t)
    (hf : ∀ z ∈ locs, free z.base) (hc : cells + 1 ≤ mc) (hs : slots + 6 ≤ ms) :
    W p l e R s m args below meth c H locs cells slots (vx_MQ below Qc XC args s mc ms free) (F0 m pc ls rest) := by
  intro T hT X
  have htr : e.platform.stackTraces = false := (show e.platform.stackTraces = l.stackTraces by rw [X.admits.platform]).trans hl
  have Y := vx_rebase X (R' := { frames := R.frames, locals := R.locals, cells := 1, slots := 6 }) (Nat.le_refl _) (Nat.le_refl _) hRcells hRslots
  obtain ⟨s', hA⟩ : ∃ z, z = (T.setVm s.vm).setFrames (.invoking m args :: below) := ⟨_, rfl⟩
  rw [← hA] at Y
  have hvm : s'.vm = s.vm := by rw [hA]; rfl
  have hhp : s'.heap = H := by rw [hA]; exact hT
  have hW0 : s.WarmedH s'.vm := by rw [hvm]; exact State.WarmedH.refl s
  have hat' : ∀ w ∈ vx_at0 own ic cls names, w.before args s' = true := fun w hw => vx_ot_at hW0 hvm.symm (hgood w (List.mem_cons_of_mem _ (List.mem_cons_of_mem _ hw))) (hat w hw)
  have hk' : (Cond.classLink own ik cls).before args s' = true := vx_ot_at hW0 hvm.symm (hgood _ List.mem_cons_self) hk
  have hini' : (Cond.initialized cls).before args s' = true := vx_ot_at hW0 hvm.symm (hgood _ (List.mem_cons_of_mem _ List.mem_cons_self)) hini
  have hU' : vx_Zq Bundle.tN "UNASSIGNED_STACK" Bundle.steD A s' s'.heap := by rw [hhp]; exact vx_Zq.moved hW0.alike (hU.kept hS.2.1)
  have hN' : vx_Zq Bundle.tN "SUPPRESSED_SENTINEL" Bundle.listD A s' s'.heap := by rw [hhp]; exact vx_Zq.moved hW0.alike (hN.kept hS.2.1)
  have h : ∀ w ∈ Bundle.ownAtoms0 own ic cls names, w.before args s' = true := vx_own hat' (vx_isRefq hU'.1) (vx_isRefq hN'.1) hU'.2.word hN'.2.word
  have hown' : s'.vm.findClass own = some m.cls := by rw [hvm]; exact hown
  have hins : (Cond.instantiable cls 6).before args s' = true := h _ (by simp [Bundle.ownAtoms0])
  obtain ⟨vm₁, cX, kX, hfX, hkX, -, -, X₁, st1⟩ := Y.newCold hexec (own := own) (C := cls) (index := ik) (n := 6) hown' hk' hins hini'
    (g := F0 m pc ls rest) rfl (by rw [hb]; exact d0) (Nat.le_refl _) (Nat.le_refl _)
  generalize hT1 : (T.setVm vm₁).pushCell { cls := cX, slots := kX.instanceTypes.map defaultValue, vm := .none } = T1 at X₁ st1
  have hcat : (Value.ref T.heap.size).category = 1 := rfl
  have hcellA : T1.heap[T.heap.size]? = some (freshCell cX kX) := by rw [← hT1]; exact State.heap_pushCell_size _ _
  have d3' : decode c.code (pc + 3) = .ok (.dup, 1) := by rw [hb]; exact d3
  obtain ⟨U, hsteps, hrun, hend, hW, hsame, ce, hce, hO⟩ := X₁.ctorThrow0 hexec htr (own := own) (cls := cls) (names := names) (ic := ic) hown' hcls hnames h (fun x hx => nomatch hx) hfX hkX hcellA (by rw [hhp, hT]; exact Nat.le_refl _)
    (g := { method := m, pc := pc + 4, locals := ls, stack := .ref T.heap.size :: .ref T.heap.size :: rest, locked := none }) rfl hsize rfl rfl (rest := rest) rfl
    (by rw [hb]; exact d4) (by rw [hb]; exact d7) hout hRframes (by simp only [List.map_cons, List.sum_cons, hcat]; omega) hlocks
  obtain ⟨f1, f2⟩ := vx_frame hsame
  rw [hhp] at f1 f2
  have hWs : s.WarmedH U.vm := State.WarmedH.trans hW0 hW
  have hcl : s.vm.findClass cls = some ce.cls := by
    have h9 := hO.cls
    rw [hvm] at h9
    exact h9
  have hall : s.sameButNew ({ U with vm := s.vm } : State) locs mc ms := by
    subst hA
    obtain ⟨e1, e2⟩ := hsame
    rw [State.setFrames_setFrames] at e1
    have h2 : (T.setVm s.vm).sameButNew ({ U with vm := s.vm } : State) [] (0 + 1) (0 + 6) := ⟨e1, e2⟩
    have h3 := X.same.trans h2
    rw [List.append_nil] at h3
    exact h3.mono hc hs
  refine ⟨U, ?_, .threw T.heap.size, hrun, hend, Or.inr ⟨T.heap.size, rfl, cls, ce, locs, hx U hWs.alike f1 (fun q hq => f2 q hq (fun z hz => nomatch hz)), hce, hO.vm, hcl, hWs, hall, hf⟩⟩
  refine st1 _ ?_
  show Steps p.tables e below (T1.setTop { method := m, pc := pc + 3, locals := ls, stack := .ref T.heap.size :: rest, locked := none }) _
  jvm_step X₁.here [X₁.here.top, hexec, d3', Value.category]
  exact hsteps
/-- 'throw new E("text")': new; dup; ldc; invokespecial; athrow -/
theorem vx_throwS {cc : ByteArray} {pc : Nat} (hexec : p.tables.exec = Jvm.exec) (hb : c.code = cc) (hl : l.stackTraces = false) {own cls text : String} {names : List String} {ik is ic mc ms sa : Nat} {A : Nat → Prop}
    (hown : s.vm.findClass own = some m.cls) (hcls : Bundle.fit cls = true) (hnames : ∀ n ∈ names, Bundle.fit n = true)
    (hk : (Cond.classLink own ik cls).before args s = true) (hini : (Cond.initialized cls).before args s = true) (hstr : vk_R own is text sa s) (hat : ∀ w ∈ vx_atS own ic cls names, w.before args s = true)
    (hgood : ∀ w ∈ Cond.classLink own ik cls :: Cond.initialized cls :: vx_atS own ic cls names, vx_ot w = true)
    (hU : vx_Zq Bundle.tN "UNASSIGNED_STACK" Bundle.steD A s s.heap) (hN : vx_Zq Bundle.tN "SUPPRESSED_SENTINEL" Bundle.listD A s s.heap) (hS : va_S A s.heap H locs) (hsize : ls.size = c.maxLocals)
    (d0 : decode cc pc = .ok (.new ik, 3)) (d3 : decode cc (pc + 3) = .ok (.dup, 1)) (d4 : decode cc (pc + 4) = .ok (.ldc is, 2)) (d6 : decode cc (pc + 6) = .ok (.invokespecial ic, 3)) (d9 : decode cc (pc + 9) = .ok (.athrow, 1))
    (hout : ∀ x ∈ c.exceptionTable.toList, covers x (pc + 9) = false)
    (hRframes : names.length + 3 < R.frames) (hRlocals : (rest.map fun v => v.category).sum + (13 * (names.length + 1) + 43) ≤ R.locals) (hRcells : cells + 1 ≤ R.cells) (hRslots : slots + 6 ≤ R.slots) (hlocks : meth.locks = false)
    (hx : ∀ t : State, s.vm.Alike t.vm → H.size ≤ t.heap.size → (∀ q : Nat, q < H.size → t.heap[q]? = H[q]?) → XC cls s t)
    (hf : ∀ z ∈ locs, free z.base) (hc : cells + 1 ≤ mc) (hs : slots + 6 ≤ ms) :
    W p l e R s m args below meth c H locs cells slots (vx_MQ below Qc XC args s mc ms free) (F0 m pc ls rest) := by
  intro T hT X
  have htr : e.platform.stackTraces = false := (show e.platform.stackTraces = l.stackTraces by rw [X.admits.platform]).trans hl
  have Y := vx_rebase X (R' := { frames := R.frames, locals := R.locals, cells := 1, slots := 6 }) (Nat.le_refl _) (Nat.le_refl _) hRcells hRslots
  obtain ⟨s', hA⟩ : ∃ z, z = (T.setVm s.vm).setFrames (.invoking m args :: below) := ⟨_, rfl⟩
  rw [← hA] at Y
  have hvm : s'.vm = s.vm := by rw [hA]; rfl
  have hhp : s'.heap = H := by rw [hA]; exact hT
  have hW0 : s.WarmedH s'.vm := by rw [hvm]; exact State.WarmedH.refl s
  have hat' : ∀ w ∈ vx_atS own ic cls names, w.before args s' = true := fun w hw => vx_ot_at hW0 hvm.symm (hgood w (List.mem_cons_of_mem _ (List.mem_cons_of_mem _ hw))) (hat w hw)
  have hk' : (Cond.classLink own ik cls).before args s' = true := vx_ot_at hW0 hvm.symm (hgood _ List.mem_cons_self) hk
  have hini' : (Cond.initialized cls).before args s' = true := vx_ot_at hW0 hvm.symm (hgood _ (List.mem_cons_of_mem _ List.mem_cons_self)) hini
  have hU' : vx_Zq Bundle.tN "UNASSIGNED_STACK" Bundle.steD A s' s'.heap := by rw [hhp]; exact vx_Zq.moved hW0.alike (hU.kept hS.2.1)
  have hN' : vx_Zq Bundle.tN "SUPPRESSED_SENTINEL" Bundle.listD A s' s'.heap := by rw [hhp]; exact vx_Zq.moved hW0.alike (hN.kept hS.2.1)
  have h : ∀ w ∈ Bundle.ownAtoms own ic cls names, w.before args s' = true := vx_own hat' (vx_isRefq hU'.1) (vx_isRefq hN'.1) hU'.2.word hN'.2.word
  have hown' : s'.vm.findClass own = some m.cls := by rw [hvm]; exact hown
  have hins : (Cond.instantiable cls 6).before args s' = true := h _ (by simp [Bundle.ownAtoms])
  obtain ⟨vm₁, cX, kX, hfX, hkX, -, -, X₁, st1⟩ := Y.newCold hexec (own := own) (C := cls) (index := ik) (n := 6) hown' hk' hins hini'
    (g := F0 m pc ls rest) rfl (by rw [hb]; exact d0) (Nat.le_refl _) (Nat.le_refl _)
  generalize hT1 : (T.setVm vm₁).pushCell { cls := cX, slots := kX.instanceTypes.map defaultValue, vm := .none } = T1 at X₁ st1
  have hcat : (Value.ref T.heap.size).category = 1 := rfl
  have hcellA : T1.heap[T.heap.size]? = some (freshCell cX kX) := by rw [← hT1]; exact State.heap_pushCell_size _ _
  have d3' : decode c.code (pc + 3) = .ok (.dup, 1) := by rw [hb]; exact d3
  have d4' : decode c.code (pc + 4) = .ok (.ldc is, 2) := by rw [hb]; exact d4
  have hstr' : vk_R own is text sa s' := vk_R.warm hW0 hstr
  obtain ⟨U, hsteps, hrun, hend, hW, hsame, ce, hce, hO⟩ := X₁.ctorThrowS hexec htr (own := own) (cls := cls) (names := names) (ic := ic) hown' hcls hnames h (fun x hx => nomatch hx) hfX hkX hcellA (by rw [hhp, hT]; exact Nat.le_refl _) (msg := .ref sa) rfl
    (g := { method := m, pc := pc + 6, locals := ls, stack := .ref sa :: .ref T.heap.size :: .ref T.heap.size :: rest, locked := none }) rfl hsize rfl rfl (rest := rest) rfl
    (by rw [hb]; exact d6) (by rw [hb]; exact d9) hout hRframes (by simp only [List.map_cons, List.sum_cons, hcat]; omega) hlocks
  obtain ⟨f1, f2⟩ := vx_frame hsame
  rw [hhp] at f1 f2
  have hWs : s.WarmedH U.vm := State.WarmedH.trans hW0 hW
  have hcl : s.vm.findClass cls = some ce.cls := by
    have h9 := hO.cls
    rw [hvm] at h9
    exact h9
  have hall : s.sameButNew ({ U with vm := s.vm } : State) locs mc ms := by
    subst hA
    obtain ⟨e1, e2⟩ := hsame
    rw [State.setFrames_setFrames] at e1
    have h2 : (T.setVm s.vm).sameButNew ({ U with vm := s.vm } : State) [] (0 + 1) (0 + 6) := ⟨e1, e2⟩
    have h3 := X.same.trans h2
    rw [List.append_nil] at h3
    exact h3.mono hc hs
  refine ⟨U, ?_, .threw T.heap.size, hrun, hend, Or.inr ⟨T.heap.size, rfl, cls, ce, locs, hx U hWs.alike f1 (fun q hq => f2 q hq (fun z hz => nomatch hz)), hce, hO.vm, hcl, hWs, hall, hf⟩⟩
  refine st1 _ ?_
  show Steps p.tables e below (T1.setTop { method := m, pc := pc + 3, locals := ls, stack := .ref T.heap.size :: rest, locked := none }) _
  jvm_step X₁.here [X₁.here.top, hexec, d3', Value.category]
  exact X₁.ldcString hexec (own := own) (text := text) (index := is) (a := sa) hown' hstr'.1 hstr'.2
    (g := { method := m, pc := pc + 4, locals := ls, stack := .ref T.heap.size :: .ref T.heap.size :: rest, locked := none }) rfl d4' _ hsteps
/-- 'throw new E("text")', the text by a wide index -/
theorem vx_throwSW {cc : ByteArray} {pc : Nat} (hexec : p.tables.exec = Jvm.exec) (hb : c.code = cc) (hl : l.stackTraces = false) {own cls text : String} {names : List String} {ik is ic mc ms sa : Nat} {A : Nat → Prop}
    (hown : s.vm.findClass own = some m.cls) (hcls : Bundle.fit cls = true) (hnames : ∀ n ∈ names, Bundle.fit n = true)
    (hk : (Cond.classLink own ik cls).before args s = true) (hini : (Cond.initialized cls).before args s = true) (hstr : vk_R own is text sa s) (hat : ∀ w ∈ vx_atS own ic cls names, w.before args s = true)
    (hgood : ∀ w ∈ Cond.classLink own ik cls :: Cond.initialized cls :: vx_atS own ic cls names, vx_ot w = true)
    (hU : vx_Zq Bundle.tN "UNASSIGNED_STACK" Bundle.steD A s s.heap) (hN : vx_Zq Bundle.tN "SUPPRESSED_SENTINEL" Bundle.listD A s s.heap) (hS : va_S A s.heap H locs) (hsize : ls.size = c.maxLocals)
    (d0 : decode cc pc = .ok (.new ik, 3)) (d3 : decode cc (pc + 3) = .ok (.dup, 1)) (d4 : decode cc (pc + 4) = .ok (.ldc_w is, 3)) (d7 : decode cc (pc + 7) = .ok (.invokespecial ic, 3)) (d10 : decode cc (pc + 10) = .ok (.athrow, 1))
    (hout : ∀ x ∈ c.exceptionTable.toList, covers x (pc + 10) = false)
    (hRframes : names.length + 3 < R.frames) (hRlocals : (rest.map fun v => v.category).sum + (13 * (names.length + 1) + 43) ≤ R.locals) (hRcells : cells + 1 ≤ R.cells) (hRslots : slots + 6 ≤ R.slots) (hlocks : meth.locks = false)
    (hx : ∀ t : State, s.vm.Alike t.vm → H.size ≤ t.heap.size → (∀ q : Nat, q < H.size → t.heap[q]? = H[q]?) → XC cls s t)
    (hf : ∀ z ∈ locs, free z.base) (hc : cells + 1 ≤ mc) (hs : slots + 6 ≤ ms) :
    W p l e R s m args below meth c H locs cells slots (vx_MQ below Qc XC args s mc ms free) (F0 m pc ls rest) := by
  intro T hT X
  have htr : e.platform.stackTraces = false := (show e.platform.stackTraces = l.stackTraces by rw [X.admits.platform]).trans hl
  have Y := vx_rebase X (R' := { frames := R.frames, locals := R.locals, cells := 1, slots := 6 }) (Nat.le_refl _) (Nat.le_refl _) hRcells hRslots
  obtain ⟨s', hA⟩ : ∃ z, z = (T.setVm s.vm).setFrames (.invoking m args :: below) := ⟨_, rfl⟩
  rw [← hA] at Y
  have hvm : s'.vm = s.vm := by rw [hA]; rfl
  have hhp : s'.heap = H := by rw [hA]; exact hT
  have hW0 : s.WarmedH s'.vm := by rw [hvm]; exact State.WarmedH.refl s
  have hat' : ∀ w ∈ vx_atS own ic cls names, w.before args s' = true := fun w hw => vx_ot_at hW0 hvm.symm (hgood w (List.mem_cons_of_mem _ (List.mem_cons_of_mem _ hw))) (hat w hw)
  have hk' : (Cond.classLink own ik cls).before args s' = true := vx_ot_at hW0 hvm.symm (hgood _ List.mem_cons_self) hk
  have hini' : (Cond.initialized cls).before args s' = true := vx_ot_at hW0 hvm.symm (hgood _ (List.mem_cons_of_mem _ List.mem_cons_self)) hini
  have hU' : vx_Zq Bundle.tN "UNASSIGNED_STACK" Bundle.steD A s' s'.heap := by rw [hhp]; exact vx_Zq.moved hW0.alike (hU.kept hS.2.1)
  have hN' : vx_Zq Bundle.tN "SUPPRESSED_SENTINEL" Bundle.listD A s' s'.heap := by rw [hhp]; exact vx_Zq.moved hW0.alike (hN.kept hS.2.1)
  have h : ∀ w ∈ Bundle.ownAtoms own ic cls names, w.before args s' = true := vx_own hat' (vx_isRefq hU'.1) (vx_isRefq hN'.1) hU'.2.word hN'.2.word
  have hown' : s'.vm.findClass own = some m.cls := by rw [hvm]; exact hown
  have hins : (Cond.instantiable cls 6).before args s' = true := h _ (by simp [Bundle.ownAtoms])
  obtain ⟨vm₁, cX, kX, hfX, hkX, -, -, X₁, st1⟩ := Y.newCold hexec (own := own) (C := cls) (index := ik) (n := 6) hown' hk' hins hini'
    (g := F0 m pc ls rest) rfl (by rw [hb]; exact d0) (Nat.le_refl _) (Nat.le_refl _)
  generalize hT1 : (T.setVm vm₁).pushCell { cls := cX, slots := kX.instanceTypes.map defaultValue, vm := .none } = T1 at X₁ st1
  have hcat : (Value.ref T.heap.size).category = 1 := rfl
  have hcellA : T1.heap[T.heap.size]? = some (freshCell cX kX) := by rw [← hT1]; exact State.heap_pushCell_size _ _
  have d3' : decode c.code (pc + 3) = .ok (.dup, 1) := by rw [hb]; exact d3
  have d4' : decode c.code (pc + 4) = .ok (.ldc_w is, 3) := by rw [hb]; exact d4
  have hstr' : vk_R own is text sa s' := vk_R.warm hW0 hstr
  obtain ⟨U, hsteps, hrun, hend, hW, hsame, ce, hce, hO⟩ := X₁.ctorThrowS hexec htr (own := own) (cls := cls) (names := names) (ic := ic) hown' hcls hnames h (fun x hx => nomatch hx) hfX hkX hcellA (by rw [hhp, hT]; exact Nat.le_refl _) (msg := .ref sa) rfl
    (g := { method := m, pc := pc + 7, locals := ls, stack := .ref sa :: .ref T.heap.size :: .ref T.heap.size :: rest, locked := none }) rfl hsize rfl rfl (rest := rest) rfl
    (by rw [hb]; exact d7) (by rw [hb]; exact d10) hout hRframes (by simp only [List.map_cons, List.sum_cons, hcat]; omega) hlocks
  obtain ⟨f1, f2⟩ := vx_frame hsame
  rw [hhp] at f1 f2
  have hWs : s.WarmedH U.vm := State.WarmedH.trans hW0 hW
  have hcl : s.vm.findClass cls = some ce.cls := by
    have h9 := hO.cls
    rw [hvm] at h9
    exact h9
  have hall : s.sameButNew ({ U with vm := s.vm } : State) locs mc ms := by
    subst hA
    obtain ⟨e1, e2⟩ := hsame
    rw [State.setFrames_setFrames] at e1
    have h2 : (T.setVm s.vm).sameButNew ({ U with vm := s.vm } : State) [] (0 + 1) (0 + 6) := ⟨e1, e2⟩
    have h3 := X.same.trans h2
    rw [List.append_nil] at h3
    exact h3.mono hc hs
  refine ⟨U, ?_, .threw T.heap.size, hrun, hend, Or.inr ⟨T.heap.size, rfl, cls, ce, locs, hx U hWs.alike f1 (fun q hq => f2 q hq (fun z hz => nomatch hz)), hce, hO.vm, hcl, hWs, hall, hf⟩⟩
  refine st1 _ ?_
  show Steps p.tables e below (T1.setTop { method := m, pc := pc + 3, locals := ls, stack := .ref T.heap.size :: rest, locked := none }) _
  jvm_step X₁.here [X₁.here.top, hexec, d3', Value.category]
  exact X₁.ldcStringW hexec (own := own) (text := text) (index := is) (a := sa) hown' hstr'.1 hstr'.2
    (g := { method := m, pc := pc + 4, locals := ls, stack := .ref T.heap.size :: .ref T.heap.size :: rest, locked := none }) rfl d4' _ hsteps
end Ends
section Bodies
variable {l : Launch}
theorem vx_ofW {y : MethodName} {ws ws' : List Cond} {rm : Room} {Pc : Array Value → State → Prop} {Qc : Array Value → State → Outcome → State → Prop} {XC : String → State → State → Prop} {mc ms : Nat} {free : Addr → Prop} {cc : ByteArray} {maxL : Nat} {ret : Option FieldType}
    (hy : plainName y.cls = true) (hw : ws = Cond.code y cc maxL ret :: ws')
    (body : ∀ p e s m args below meth c s₁, BodyLoose p l y (headSpec ws rm) cc maxL ret e s m args below meth c s₁ → c.maxLocals = maxL → (∀ x ∈ c.exceptionTable.toList, False) → Pc args s →
      W p l e (headSpec ws rm).room s m args below meth c s.heap [] 0 0 (vx_MQ below Qc XC args s mc ms free) (entryFrame m args maxL)) : vx_Met l y ws rm Pc Qc XC mc ms free := by
  refine MetFree.of_bodyS (code := cc) (maxLocals := maxL) (ret := ret) hy ?_ ?_
  · intro args s m h hn
    obtain ⟨meth, c, h1, h2, h3, h4, h5, h6, -, -⟩ := Cond.code_spec hn (atoms_spec (ws := ws) h _ (by rw [hw]; exact List.mem_cons_self))
    exact ⟨meth, c, h1, h2, h3, h4, h5, h6⟩
  · intro p e s m args below meth c s₁ B hml hP _
    have hh0 : s₁.heap = s.heap := by rw [B.state]; rfl
    have ht : ∀ x ∈ c.exceptionTable.toList, False := by
      obtain ⟨meth9, c9, h1, h2, -, -, -, -, h7, -⟩ := Cond.code_spec B.named (atoms_spec (ws := ws) B.pre _ (by rw [hw]; exact List.mem_cons_self))
      cases Option.some.inj (h1.symm.trans B.method)
      cases Option.some.inj (h2.symm.trans (Stand.of_body B).code)
      intro x hx
      rw [Array.isEmpty_iff.mp h7] at hx
      cases hx
    obtain ⟨t, a1, o, b1, b2, b3⟩ := body p e s m args below meth c s₁ B hml ht hP s₁ hh0 (Stand.of_body B)
    exact ⟨t, o, a1, b1, b2, b3⟩
/-- the table of a body with handlers -/
theorem vx_table {p : Program} {x y : MethodName} {S : Spec} {cc bytes : ByteArray} {maxL maxL' : Nat} {ret ret' : Option FieldType} {e : Env} {s s₁ : State} {m : MethodId} {args : Array Value} {below : List Frame} {meth : Method} {c : Code} {hh : List (Nat × Nat × Nat × Nat)}
    (B : BodyLoose p l y S cc maxL ret e s m args below meth c s₁) (h : (Cond.codeWith y bytes maxL' ret' hh).before args s = true) : c.exceptionTable.toList = tableOf hh := by
  obtain ⟨m9, meth9, c9, hn9, h1, h2, -, -, h6, -⟩ := Cond.codeWith_spec h
  cases Option.some.inj (hn9.symm.trans B.named)
  cases Option.some.inj (h1.symm.trans B.method)
  cases Option.some.inj (h2.symm.trans (Stand.of_body B).code)
  rw [← h6, table_eq]
end Bodies
end VXA
/-! ===== END ===== -/
/-! ===== BEGIN a static call of a method with an exception table ===== -/
section VXS
variable {p : Program} {l : Launch} {e : Env} {R : Room} {s : State} {m : MethodId} {args : Array Value} {below : List Frame} {meth : Method} {c : Code} {T : State} {H : Heap} {locs : List Loc} {cells slots : Nat}
abbrev vx_CSW (R : Room) (s : State) (args : Array Value) (own : String) (index : Nat) (y : MethodName) (bytes : ByteArray) (maxL : Nat) (ret : Option FieldType) (hh : List (Nat × Nat × Nat × Nat)) (ws : List Cond) (rm : Room) (mc ms n : Nat) : Prop :=
  (rm.cells = mc ∧ rm.slots = ms ∧ rm.frames + 1 ≤ R.frames ∧ 8 + (maxL + 11) + rm.locals ≤ R.locals ∧ (∀ w ∈ ws, ∀ (a' : Array Value) (U : State), s.WarmedH U.vm → w.before a' U = true) ∧ Cond.codeWith y bytes maxL ret hh ∈ ws) ∧
  (Cond.codeWith y bytes maxL ret hh).before args s = true ∧ (Cond.initialized y.cls).before args s = true ∧ (y.cls ≠ "java/lang/invoke/MethodHandle" ∧ y.cls ≠ "java/lang/invoke/VarHandle") ∧
  (∀ sig, parseMethodDescriptor y.desc = some sig → n = sig.parameters.length) ∧ (Cond.methodLink own index y).before args s = true ∧ (Cond.static y).before args s = true
theorem vx_cwSW {own : String} {index maxL mc ms : Nat} {y : MethodName} {bytes : ByteArray} {ret : Option FieldType} {hh : List (Nat × Nat × Nat × Nat)} {Ts ws ws' : List Cond} {rm : Room} (n : Nat) (ht : ∀ w ∈ Ts, w.before args s = true) (hT : GoodIn Ts (va_wsS own index y ws)) (hw : ws = Cond.codeWith y bytes maxL ret hh :: ws') (hrc : rm.cells = mc) (hrs : rm.slots = ms)
    (hd : y.cls ≠ "java/lang/invoke/MethodHandle" ∧ y.cls ≠ "java/lang/invoke/VarHandle" ∧ (parseMethodDescriptor y.desc).map (fun d => d.parameters.length) = some n) (hR : rm.frames + 1 ≤ R.frames ∧ 8 + (maxL + 11) + rm.locals ≤ R.locals) :
    vx_CSW R s args own index y bytes maxL ret hh ws rm mc ms n := by
  have ok : ∀ w ∈ va_wsS own index y ws, w.before args s = true := fun w h => ht w (hT w h).1
  have hG : GoodIn Ts ws := fun w h => hT w (by unfold va_wsS; exact List.mem_append_right _ h)
  have hc : Cond.codeWith y bytes maxL ret hh ∈ ws := by rw [hw]; exact List.mem_cons_self
  refine ⟨⟨hrc, hrs, hR.1, hR.2, pay_in ht hG, hc⟩, ht _ (hG _ hc).1, ok _ (by simp [va_wsS]), ⟨hd.1, hd.2.1⟩, fun sig h => ?_, ok _ (by simp [va_wsS]), ok _ (by simp [va_wsS])⟩
  have h2 := hd.2.2
  rw [h] at h2
  exact (Option.some.inj h2).symm
theorem vx_callSW (X : Stand p l e R s m args below meth c T locs cells slots) (hexec : p.tables.exec = Jvm.exec) {own : String} {index : Nat} {y : MethodName} {bytes : ByteArray} {maxL : Nat} {ret : Option FieldType} {hh : List (Nat × Nat × Nat × Nat)}
    (hown : s.vm.findClass own = some m.cls) (hlink : (Cond.methodLink own index y).before args s = true) (hstat : (Cond.static y).before args s = true) (hinit : (Cond.initialized y.cls).before args s = true)
    (hcode : (Cond.codeWith y bytes maxL ret hh).before args s = true) (hy : y.cls ≠ "java/lang/invoke/MethodHandle" ∧ y.cls ≠ "java/lang/invoke/VarHandle")
    {W9 : Nat} {Pre : Pt → Array Value → Prop} {Post : Pt → Array Value → Option Value → Pt → Prop} (hK : Back l R p e below s args y 3 W9 Pre Post)
    {g : JFrame} (hg : g.method = m) (hsize : g.locals.size = c.maxLocals) {argsL rest : List Value} (hlen : ∀ sig, parseMethodDescriptor y.desc = some sig → argsL.length = sig.parameters.length)
    (hstack : g.stack = argsL.reverse ++ rest) (hW : 2 * g.monitorRoom + (rest.map fun v => v.category).sum ≤ W9) (hdg : decode c.code g.pc = .ok (.invokestatic index, 3))
    (hpre : ∀ vm₁, s.WarmedH vm₁ → Pre ⟨T.setVm vm₁, locs, cells, slots⟩ argsL.toArray) :
    ∃ (v : Option Value) (vm₁ : Vm) (B : Pt), s.WarmedH vm₁ ∧ Stand p l e R s m args below meth c B.U B.locs B.cells B.slots ∧ Post ⟨T.setVm vm₁, locs, cells, slots⟩ argsL.toArray v B ∧
      ∀ target, Steps p.tables e below (B.U.setTop { g with pc := g.pc + 3, stack := v.toList ++ rest }) target → Steps p.tables e below (T.setTop g) target := by
  obtain ⟨mk, methM, cM, hnamed, hmethM, -, -, -, -, -, -, hsigM⟩ := Cond.codeWith_spec hcode
  have hstatic : methM.isStatic = true := Cond.static_spec hnamed hmethM hstat
  obtain ⟨kP, hkP, -⟩ := className_of_methodNamed hnamed
  have hinitP : kP.init = .initialized := Cond.initialized_spec (findClass_of_methodNamed hnamed) hkP hinit
  obtain ⟨vm₁, X₁, hstep₁⟩ := X.invokestatic hexec hown hlink hnamed hmethM hstatic hkP hinitP hy (g := g) hg (argsL := argsL) (rest := rest) (hlen _ hsigM) hstack hdg
  obtain ⟨v, B, X', hpost, hsteps⟩ := hK m meth c ⟨T.setVm vm₁, locs, cells, slots⟩ { g with stack := rest } (.invokestatic index) mk argsL.toArray X₁ hg hsize hdg hW (X₁.named hnamed) (hpre vm₁ X₁.warmed)
  exact ⟨v, vm₁, B, X₁.warmed, X', hpost, fun target h => hstep₁ _ fun acts => by rw [doInvoke_state]; exact hsteps.trans h⟩
theorem vx_runSW {y : MethodName} {bytes cc : ByteArray} {maxL nL mc ms n index : Nat} {ret : Option FieldType} {hh : List (Nat × Nat × Nat × Nat)} {ws : List Cond} {rm : Room} {Pc : Array Value → State → Prop} {Qc : Array Value → State → Outcome → State → Prop} {free : Addr → Prop} {Ts : List Cond} {own : String} {As rest : List Value} {g : JFrame}
    (S : CallFix p m c cc nL s args Ts own) (hM : Met l y ws rm Pc Qc mc ms free) (cw : vx_CSW R s args own index y bytes maxL ret hh ws rm mc ms n) (hp : PreS s H Pc As)
    (hg : g.method = m) (hn : As.length = n) (hsize : g.locals.size = nL) (hstack : g.stack = As.reverse ++ rest) (hW : 2 * g.monitorRoom + (rest.map fun v => v.category).sum ≤ 8) (hdg : decode cc g.pc = .ok (.invokestatic index, 3)) (hf : cells + mc ≤ R.cells ∧ slots + ms ≤ R.slots) :
    va_Run p l e R s m args below meth c H locs cells slots mc ms g rest (Qc As.toArray) (free) := by
  obtain ⟨⟨hrc, hrs, hfr, hlo, hws, hcw⟩, hcode, hini, hy, hlen, hl, hstt⟩ := cw
  have hK : Back l R p e below s args y 3 8 (PreOf R mc ms Pc) (PostOf Qc mc ms free) := va_backW (hh := hh) (bytes := bytes) (maxL := maxL) (ret := ret) hM hp.1 hrc hrs hfr hlo hws hcw (fun a' U hW => word_at hW (Or.inl (by first | rfl | simp [Cond.onTables, Cond.keeps, Cond.steady])) hini)
  obtain ⟨hx, hb, hml, ho, -⟩ := S
  intro T hT X
  obtain ⟨v, vm₁, ⟨U', l2, c2, s2⟩, hW₁, X', ⟨g', mk, t, L, e1, e2, hq, h1, hL, h2, h3⟩, st⟩ := vx_callSW X hx (hh := hh) (bytes := bytes) (maxL := maxL) (ret := ret) ho hl hstt hini hcode hy hK hg (hsize.trans hml.symm) (argsL := As) (rest := rest) (fun sig h => hn.trans (hlen sig h)) hstack hW (by rw [hb]; exact hdg)
    (fun vm₁ hW₁ => ⟨hf.1, hf.2, hp.2 (T.setVm vm₁) hT hW₁⟩)
  dsimp only [Pt.U, Pt.locs, Pt.cells, Pt.slots] at X' e1 e2 h1 h2 h3 st
  subst h1; subst h2; subst h3
  exact ⟨v, (T.setVm vm₁).calling g' mk As.toArray, t, U', L, hT, X', hL, e1, e2, hq, st⟩
/-- a thing of a world lies in the heap -/
theorem vx_lt {D : va_G} {cl : List vw_C} {ws : va_W} {H1 : Heap} (h : va_P D cl ws H1) {k : Nat} {q : Nat × va_E} (hk : ws[k]? = some q) : q.1 < H1.size := (h k q hk).lt
end VXS
/-! ===== END ===== -/
/-! ===== BEGIN methods with a table of their own: called by a name, returning or throwing ===== -/
section VXH
/-! vx_backW, vx_callVX, vx_callSX, vx_callVW, vx_runVW, vx_runVX, vx_runSX, vx_ofWH follow the same proofs as their sisters above (Free/Laws.lean, Shelf42/LK1.lean); vx_outP calls Shelf42/NT130.lean (outThrough). -/
section
variable {l : Launch} {R : Room} {p : Program} {e : Env} {below : List Frame} {s : State} {sargs : Array Value} {y : MethodName} {len W9 : Nat}
theorem vx_backW {ws : List Cond} {rm : Room} {Pc : Array Value → State → Prop} {Qc : Array Value → State → Outcome → State → Prop} {XC : String → State → State → Prop} {mc ms : Nat} {free : Addr → Prop} {bytes : ByteArray} {maxL : Nat} {ret : Option FieldType} {hh : List (Nat × Nat × Nat × Nat)}
    (hM : vx_Met l y ws rm Pc Qc XC mc ms free) (hblind : FrameBlind Pc) (hrc : rm.cells = mc) (hrs : rm.slots = ms)
    (hframes : rm.frames + 1 ≤ R.frames) (hlocals : W9 + (maxL + 11) + rm.locals ≤ R.locals)
    (hws : ∀ w ∈ ws, ∀ a' U, s.WarmedH U.vm → w.before a' U = true) (hcode : Cond.codeWith y bytes maxL ret hh ∈ ws) (hinit : ∀ a' U, s.WarmedH U.vm → (Cond.initialized y.cls).before a' U = true) :
    vx_Back l R p e below s sargs y len W9 (PreOf R mc ms Pc) (PostOf Qc mc ms free) (vx_Post XC mc ms free) := by
  intro m meth c A g ig mk a X hg hsize hdg hW hn hp
  have h1 : (headSpec ws rm).pre.before a A.U = true := atoms_intro fun w hw => hws w hw _ _ X.warmed
  have h2 : (Cond.codeWith y bytes maxL ret hh).before a A.U = true := hws _ hcode _ _ X.warmed
  have h3 : (Cond.initialized y.cls).before a A.U = true := hinit _ _ X.warmed
  have h4 : A.cells + (headSpec ws rm).room.cells ≤ R.cells := by rw [show (headSpec ws rm).room.cells = mc from hrc]; exact hp.1
  have h5 : A.slots + (headSpec ws rm).room.slots ≤ R.slots := by rw [show (headSpec ws rm).room.slots = ms from hrs]; exact hp.2.1
  have hPc : Pc a (A.U.calling g mk a) := hblind _ _ _ _ hp.2.2
  obtain ⟨U, Ls, c0, s0⟩ := A
  dsimp only [Pt.U, Pt.locs, Pt.cells, Pt.slots] at h1 h2 h3 h4 h5 X hn hPc ⊢
  obtain ⟨m9, methY, cY, hn9, hmY, hcY, -, hlY, -⟩ := Cond.codeWith_spec h2
  cases Option.some.inj (hn9.symm.trans hn)
  obtain ⟨kY, hkY, -⟩ := className_of_methodNamed hn
  have hinitY : kY.init = .initialized := Cond.initialized_spec (findClass_of_methodNamed hn) hkY h3
  have h : At U g.method c below := by rw [hg]; exact X.here
  have hlocals9 : W9 + (maxL + 11) + (headSpec ws rm).room.locals ≤ R.locals := hlocals
  have happ : (headSpec ws rm).appliesLoose y e.platform (U.calling g mk a) = true :=
    Spec.appliesLoose_calling (g := g) h hdg hn hkY hinitY
      (X.room_calling (g := g) (R' := (headSpec ws rm).room) hsize hmY hcY hframes (by rw [hlY]; omega) h4 h5) h1
  obtain ⟨mid, hmid⟩ := h.above
  have hfr : (U.setTop g).frames = (.java g :: mid) ++ below := by rw [State.frames_setTop' g h.top, hmid]; rfl
  obtain ⟨o, s₂, hsteps, -, hend, hq⟩ := Steps.callFree hM p X.admits X.cas X.clock (acts := []) hfr happ hPc trivial
  have hq' : vx_Q Qc XC mc ms free a (U.calling g mk a) o s₂ := hq
  rw [State.frames_setTop' g h.top] at hend
  obtain ⟨g₀, hg0⟩ := Option.isSome_iff_exists.mp h.top
  obtain ⟨r, hr⟩ := State.topJava?_eq_some.mp hg0
  have hr' : (({ U with heap := s₂.heap, slotsUsed := s₂.slotsUsed } : State).setVm s₂.vm).frames = .java g₀ :: r := hr
  rcases hq' with ⟨hqc, L, hfe, hL⟩ | ⟨q, rfl, E, ce, L, hx, hce, hcv, hcl, hW₂, hsm, hL⟩
  · obtain ⟨⟨v, rfl⟩, hW₂, e2, q2, q3, q4, q5, q6⟩ := id hfe
    have e3 : s₂ = ({ (U.calling g mk a).setFrames s₂.frames with heap := s₂.heap, slotsUsed := s₂.slotsUsed } : State).setVm s₂.vm := by
      have : s₂ = ({ s₂ with vm := (U.calling g mk a).vm } : State).setVm s₂.vm := rfl
      rw [e2] at this
      exact this
    obtain ⟨c₂, i₂, len₂, hc₂, hd₂, hf₂⟩ := hend
    have hW' : U.WarmedH s₂.vm := hW₂
    have hcc : c₂ = c := by
      have h1 : s₂.code? g.method = U.code? g.method := by
        rw [State.code?_eq, State.code?_eq, hW'.alike.method?]
      exact Option.some.inj (hc₂.symm.trans (h1.trans h.code))
    subst hcc
    have hlen : len₂ = len := by rw [hdg] at hd₂; cases hd₂; rfl
    subst hlen
    have hs₂ : s₂ = (({ U with heap := s₂.heap, slotsUsed := s₂.slotsUsed } : State).setVm s₂.vm).setTop { g with pc := g.pc + len₂, stack := v.toList ++ g.stack } := by
      refine e3.trans ?_
      rw [hf₂, State.calling_eq h.top, State.setFrames_setFrames, State.setTop_of_frames _ hr', hr]
      rfl
    have hsame : U.sameButNew ({ U with heap := s₂.heap, slotsUsed := s₂.slotsUsed } : State) L mc ms := by
      refine ⟨?_, q2, q3, q4, q5, q6⟩
      obtain ⟨t, ht, -⟩ := State.frames_cons hr
      show ({ U with heap := s₂.heap, slotsUsed := s₂.slotsUsed } : State) = { U.setFrames U.frames with heap := s₂.heap, slotsUsed := s₂.slotsUsed }
      rw [State.setFrames_self ht]
    subst hg
    refine Or.inl ⟨v, ⟨(({ U with heap := s₂.heap, slotsUsed := s₂.slotsUsed } : State).setVm s₂.vm), Ls ++ L, c0 + mc, s0 + ms⟩,
      ⟨X.admits, X.cas, X.clock, X.frames, X.room, X.hears, X.method, X.code, (X.here.setHeapUsed s₂.heap s₂.slotsUsed).setVm hW'.alike, X.tail, State.WarmedH.trans X.warmed hW', X.limits, X.bytes, X.same.trans (hsame.setVm s.vm)⟩,
      ⟨g, mk, s₂, L, rfl, rfl, hqc, rfl, hL, rfl, rfl⟩, ?_⟩
    show Steps p.tables e below _ ((({ U with heap := s₂.heap, slotsUsed := s₂.slotsUsed } : State).setVm s₂.vm).setTop { g with pc := g.pc + len₂, stack := v.toList ++ g.stack })
    rw [← hs₂]
    exact hsteps
  · obtain ⟨e2, q2, q3, q4, q5, q6⟩ := id hsm
    have e3 : s₂ = ({ (U.calling g mk a).setFrames s₂.frames with heap := s₂.heap, slotsUsed := s₂.slotsUsed } : State).setVm s₂.vm := by
      have : s₂ = ({ s₂ with vm := (U.calling g mk a).vm } : State).setVm s₂.vm := rfl
      rw [e2] at this
      exact this
    have hf₂ : s₂.frames = .throwing q :: .java g :: U.frames.tail := hend
    have hW' : U.WarmedH s₂.vm := hW₂
    have hs₂ : s₂ = ((({ U with heap := s₂.heap, slotsUsed := s₂.slotsUsed } : State).setVm s₂.vm).setTop g).pushFrame (.throwing q) := by
      refine e3.trans ?_
      rw [hf₂, State.calling_eq h.top, State.setFrames_setFrames, State.pushFrame, State.frames_setTop _ hr', State.setTop_of_frames _ hr', State.setFrames_setFrames, hr]
      rfl
    have hsame : U.sameButNew ({ U with heap := s₂.heap, slotsUsed := s₂.slotsUsed } : State) L mc ms := by
      refine ⟨?_, q2, q3, q4, q5, q6⟩
      obtain ⟨t, ht, -⟩ := State.frames_cons hr
      show ({ U with heap := s₂.heap, slotsUsed := s₂.slotsUsed } : State) = { U.setFrames U.frames with heap := s₂.heap, slotsUsed := s₂.slotsUsed }
      rw [State.setFrames_self ht]
    subst hg
    refine Or.inr ⟨q, ⟨(({ U with heap := s₂.heap, slotsUsed := s₂.slotsUsed } : State).setVm s₂.vm), Ls ++ L, c0 + mc, s0 + ms⟩,
      ⟨X.admits, X.cas, X.clock, X.frames, X.room, X.hears, X.method, X.code, (X.here.setHeapUsed s₂.heap s₂.slotsUsed).setVm hW'.alike, X.tail, State.WarmedH.trans X.warmed hW', X.limits, X.bytes, X.same.trans (hsame.setVm s.vm)⟩,
      ⟨g, mk, s₂, L, E, ce, rfl, rfl, hx, hce, hcv, hcl, rfl, hL, rfl, rfl⟩, ?_⟩
    show Steps p.tables e below _ (((({ U with heap := s₂.heap, slotsUsed := s₂.slotsUsed } : State).setVm s₂.vm).setTop g).pushFrame (.throwing q))
    rw [← hs₂]
    exact hsteps
end
variable {p : Program} {l : Launch} {e : Env} {R : Room} {s : State} {m : MethodId} {args : Array Value} {below : List Frame} {meth : Method} {c : Code} {T : State} {H : Heap} {locs : List Loc} {cells slots : Nat}
theorem vx_callVX (X : Stand p l e R s m args below meth c T locs cells slots) (hexec : p.tables.exec = Jvm.exec) {own C : String} {index : Nat} {y : MethodName} {bytes : ByteArray} {maxL : Nat} {ret : Option FieldType} {hh : List (Nat × Nat × Nat × Nat)}
    (hown : s.vm.findClass own = some m.cls) (hlink : (Cond.methodLink own index y).before args s = true) (hinst : (Cond.instanceMethod y).before args s = true) (hsel : (Cond.selects C y y).before args s = true)
    (hcode : (Cond.codeWith y bytes maxL ret hh).before args s = true) (hy : y.cls ≠ "java/lang/invoke/MethodHandle" ∧ y.cls ≠ "java/lang/invoke/VarHandle")
    {W9 : Nat} {Pre : Pt → Array Value → Prop} {Post : Pt → Array Value → Option Value → Pt → Prop} {PostX : Pt → Array Value → Addr → Pt → Prop} (hK : vx_Back l R p e below s args y 3 W9 Pre Post PostX)
    {b : Addr} {cellB : Cell} (hcell : T.heap[b]? = some cellB) (hobj : cellB.vm.isStatics = false) (hcls : s.vm.findClass C = some cellB.cls)
    {g : JFrame} (hg : g.method = m) (hsize : g.locals.size = c.maxLocals) {argsL rest : List Value} (hlen : ∀ sig, parseMethodDescriptor y.desc = some sig → argsL.length = sig.parameters.length)
    (hstack : g.stack = argsL.reverse ++ .ref b :: rest) (hW : 2 * g.monitorRoom + (rest.map fun v => v.category).sum ≤ W9) (hdg : decode c.code g.pc = .ok (.invokevirtual index, 3))
    (hpre : ∀ vm₁, s.WarmedH vm₁ → Pre ⟨T.setVm vm₁, locs, cells, slots⟩ (Value.ref b :: argsL).toArray) :
    (∃ (v : Option Value) (vm₁ : Vm) (B : Pt), s.WarmedH vm₁ ∧ Stand p l e R s m args below meth c B.U B.locs B.cells B.slots ∧ Post ⟨T.setVm vm₁, locs, cells, slots⟩ (Value.ref b :: argsL).toArray v B ∧
      ∀ target, Steps p.tables e below (B.U.setTop { g with pc := g.pc + 3, stack := v.toList ++ rest }) target → Steps p.tables e below (T.setTop g) target) ∨
    (∃ (q : Addr) (vm₁ : Vm) (B : Pt), s.WarmedH vm₁ ∧ Stand p l e R s m args below meth c B.U B.locs B.cells B.slots ∧ PostX ⟨T.setVm vm₁, locs, cells, slots⟩ (Value.ref b :: argsL).toArray q B ∧
      Steps p.tables e below (T.setTop g) ((B.U.setTop { g with stack := rest }).pushFrame (.throwing q))) := by
  obtain ⟨mk, methM, hnamed, hmethM, hstM, habM⟩ := Cond.instanceMethod_spec hinst
  obtain ⟨m8, methM', cM, hn8, hmethM', -, -, -, -, -, -, hsigM⟩ := Cond.codeWith_spec hcode
  cases Option.some.inj (hn8.symm.trans hnamed)
  cases hmethM.symm.trans hmethM'
  obtain ⟨c2, r2, m2, q1, q2, q3, q4, kP, hkP, hkPi⟩ := Cond.selects_spec hsel
  cases hcls.symm.trans q1
  cases (State.methodFound?_of_named hnamed hy).symm.trans q2
  cases hnamed.symm.trans q3
  have hselP : selectMethod e.platform s.vm cellB.cls mk = .method mk := by rw [Launch.admits_selectMethod X.admits]; exact q4
  obtain ⟨vm₁, X₁, hstep₁⟩ := X.invokevirtual hexec hown hlink hnamed hmethM hstM hkP hkPi hy (a := b) (cell := cellB) hcell
    (fun z h => by rw [h] at hobj; cases hobj) hselP hmethM habM hkP hkPi (g := g) hg (argsL := argsL) (rest := rest) (hlen _ hsigM) hstack hdg
  rcases hK m meth c ⟨T.setVm vm₁, locs, cells, slots⟩ { g with stack := rest } (.invokevirtual index) mk (Value.ref b :: argsL).toArray X₁ hg hsize hdg hW (X₁.named hnamed) (hpre vm₁ X₁.warmed) with ⟨v, B, X', hpost, hsteps⟩ | ⟨q, B, X', hpost, hsteps⟩
  · exact Or.inl ⟨v, vm₁, B, X₁.warmed, X', hpost, fun target h => hstep₁ _ fun acts => by rw [doInvoke_state]; exact hsteps.trans h⟩
  · exact Or.inr ⟨q, vm₁, B, X₁.warmed, X', hpost, hstep₁ _ fun acts => by rw [doInvoke_state]; exact hsteps⟩
theorem vx_callSX (X : Stand p l e R s m args below meth c T locs cells slots) (hexec : p.tables.exec = Jvm.exec) {own : String} {index : Nat} {y : MethodName} {bytes : ByteArray} {maxL : Nat} {ret : Option FieldType} {hh : List (Nat × Nat × Nat × Nat)}
    (hown : s.vm.findClass own = some m.cls) (hlink : (Cond.methodLink own index y).before args s = true) (hstat : (Cond.static y).before args s = true) (hinit : (Cond.initialized y.cls).before args s = true)
    (hcode : (Cond.codeWith y bytes maxL ret hh).before args s = true) (hy : y.cls ≠ "java/lang/invoke/MethodHandle" ∧ y.cls ≠ "java/lang/invoke/VarHandle")
    {W9 : Nat} {Pre : Pt → Array Value → Prop} {Post : Pt → Array Value → Option Value → Pt → Prop} {PostX : Pt → Array Value → Addr → Pt → Prop} (hK : vx_Back l R p e below s args y 3 W9 Pre Post PostX)
    {g : JFrame} (hg : g.method = m) (hsize : g.locals.size = c.maxLocals) {argsL rest : List Value} (hlen : ∀ sig, parseMethodDescriptor y.desc = some sig → argsL.length = sig.parameters.length)
    (hstack : g.stack = argsL.reverse ++ rest) (hW : 2 * g.monitorRoom + (rest.map fun v => v.category).sum ≤ W9) (hdg : decode c.code g.pc = .ok (.invokestatic index, 3))
    (hpre : ∀ vm₁, s.WarmedH vm₁ → Pre ⟨T.setVm vm₁, locs, cells, slots⟩ argsL.toArray) :
    (∃ (v : Option Value) (vm₁ : Vm) (B : Pt), s.WarmedH vm₁ ∧ Stand p l e R s m args below meth c B.U B.locs B.cells B.slots ∧ Post ⟨T.setVm vm₁, locs, cells, slots⟩ argsL.toArray v B ∧
      ∀ target, Steps p.tables e below (B.U.setTop { g with pc := g.pc + 3, stack := v.toList ++ rest }) target → Steps p.tables e below (T.setTop g) target) ∨
    (∃ (q : Addr) (vm₁ : Vm) (B : Pt), s.WarmedH vm₁ ∧ Stand p l e R s m args below meth c B.U B.locs B.cells B.slots ∧ PostX ⟨T.setVm vm₁, locs, cells, slots⟩ argsL.toArray q B ∧
      Steps p.tables e below (T.setTop g) ((B.U.setTop { g with stack := rest }).pushFrame (.throwing q))) := by
  obtain ⟨mk, methM, cM, hnamed, hmethM, -, -, -, -, -, -, hsigM⟩ := Cond.codeWith_spec hcode
  have hstatic : methM.isStatic = true := Cond.static_spec hnamed hmethM hstat
  obtain ⟨kP, hkP, -⟩ := className_of_methodNamed hnamed
  have hinitP : kP.init = .initialized := Cond.initialized_spec (findClass_of_methodNamed hnamed) hkP hinit
  obtain ⟨vm₁, X₁, hstep₁⟩ := X.invokestatic hexec hown hlink hnamed hmethM hstatic hkP hinitP hy (g := g) hg (argsL := argsL) (rest := rest) (hlen _ hsigM) hstack hdg
  rcases hK m meth c ⟨T.setVm vm₁, locs, cells, slots⟩ { g with stack := rest } (.invokestatic index) mk argsL.toArray X₁ hg hsize hdg hW (X₁.named hnamed) (hpre vm₁ X₁.warmed) with ⟨v, B, X', hpost, hsteps⟩ | ⟨q, B, X', hpost, hsteps⟩
  · exact Or.inl ⟨v, vm₁, B, X₁.warmed, X', hpost, fun target h => hstep₁ _ fun acts => by rw [doInvoke_state]; exact hsteps.trans h⟩
  · exact Or.inr ⟨q, vm₁, B, X₁.warmed, X', hpost, hstep₁ _ fun acts => by rw [doInvoke_state]; exact hsteps⟩
theorem vx_callVW (X : Stand p l e R s m args below meth c T locs cells slots) (hexec : p.tables.exec = Jvm.exec) {own C : String} {index : Nat} {y : MethodName} {bytes : ByteArray} {maxL : Nat} {ret : Option FieldType} {hh : List (Nat × Nat × Nat × Nat)}
    (hown : s.vm.findClass own = some m.cls) (hlink : (Cond.methodLink own index y).before args s = true) (hinst : (Cond.instanceMethod y).before args s = true) (hsel : (Cond.selects C y y).before args s = true)
    (hcode : (Cond.codeWith y bytes maxL ret hh).before args s = true) (hy : y.cls ≠ "java/lang/invoke/MethodHandle" ∧ y.cls ≠ "java/lang/invoke/VarHandle")
    {W9 : Nat} {Pre : Pt → Array Value → Prop} {Post : Pt → Array Value → Option Value → Pt → Prop} (hK : Back l R p e below s args y 3 W9 Pre Post)
    {b : Addr} {cellB : Cell} (hcell : T.heap[b]? = some cellB) (hobj : cellB.vm.isStatics = false) (hcls : s.vm.findClass C = some cellB.cls)
    {g : JFrame} (hg : g.method = m) (hsize : g.locals.size = c.maxLocals) {argsL rest : List Value} (hlen : ∀ sig, parseMethodDescriptor y.desc = some sig → argsL.length = sig.parameters.length)
    (hstack : g.stack = argsL.reverse ++ .ref b :: rest) (hW : 2 * g.monitorRoom + (rest.map fun v => v.category).sum ≤ W9) (hdg : decode c.code g.pc = .ok (.invokevirtual index, 3))
    (hpre : ∀ vm₁, s.WarmedH vm₁ → Pre ⟨T.setVm vm₁, locs, cells, slots⟩ (Value.ref b :: argsL).toArray) :
    ∃ (v : Option Value) (vm₁ : Vm) (B : Pt), s.WarmedH vm₁ ∧ Stand p l e R s m args below meth c B.U B.locs B.cells B.slots ∧ Post ⟨T.setVm vm₁, locs, cells, slots⟩ (Value.ref b :: argsL).toArray v B ∧
      ∀ target, Steps p.tables e below (B.U.setTop { g with pc := g.pc + 3, stack := v.toList ++ rest }) target → Steps p.tables e below (T.setTop g) target := by
  obtain ⟨mk, methM, hnamed, hmethM, hstM, habM⟩ := Cond.instanceMethod_spec hinst
  obtain ⟨m8, methM', cM, hn8, hmethM', -, -, -, -, -, -, hsigM⟩ := Cond.codeWith_spec hcode
  cases Option.some.inj (hn8.symm.trans hnamed)
  cases hmethM.symm.trans hmethM'
  obtain ⟨c2, r2, m2, q1, q2, q3, q4, kP, hkP, hkPi⟩ := Cond.selects_spec hsel
  cases hcls.symm.trans q1
  cases (State.methodFound?_of_named hnamed hy).symm.trans q2
  cases hnamed.symm.trans q3
  have hselP : selectMethod e.platform s.vm cellB.cls mk = .method mk := by rw [Launch.admits_selectMethod X.admits]; exact q4
  obtain ⟨vm₁, X₁, hstep₁⟩ := X.invokevirtual hexec hown hlink hnamed hmethM hstM hkP hkPi hy (a := b) (cell := cellB) hcell
    (fun z h => by rw [h] at hobj; cases hobj) hselP hmethM habM hkP hkPi (g := g) hg (argsL := argsL) (rest := rest) (hlen _ hsigM) hstack hdg
  obtain ⟨v, B, X', hpost, hsteps⟩ := hK m meth c ⟨T.setVm vm₁, locs, cells, slots⟩ { g with stack := rest } (.invokevirtual index) mk (Value.ref b :: argsL).toArray X₁ hg hsize hdg hW (X₁.named hnamed) (hpre vm₁ X₁.warmed)
  exact ⟨v, vm₁, B, X₁.warmed, X', hpost, fun target h => hstep₁ _ fun acts => by rw [doInvoke_state]; exact hsteps.trans h⟩
abbrev vx_CVW (R : Room) (s : State) (args : Array Value) (own C : String) (index : Nat) (y : MethodName) (bytes : ByteArray) (maxL : Nat) (ret : Option FieldType) (hh : List (Nat × Nat × Nat × Nat)) (ws : List Cond) (rm : Room) (mc ms n : Nat) : Prop :=
  (rm.cells = mc ∧ rm.slots = ms ∧ rm.frames + 1 ≤ R.frames ∧ 8 + (maxL + 11) + rm.locals ≤ R.locals ∧ (∀ w ∈ ws, ∀ (a' : Array Value) (U : State), s.WarmedH U.vm → w.before a' U = true) ∧ Cond.codeWith y bytes maxL ret hh ∈ ws) ∧
  (Cond.codeWith y bytes maxL ret hh).before args s = true ∧ (Cond.initialized y.cls).before args s = true ∧ (y.cls ≠ "java/lang/invoke/MethodHandle" ∧ y.cls ≠ "java/lang/invoke/VarHandle") ∧
  (∀ sig, parseMethodDescriptor y.desc = some sig → n = sig.parameters.length) ∧ (Cond.methodLink own index y).before args s = true ∧ (Cond.instanceMethod y).before args s = true ∧ (Cond.selects C y y).before args s = true
theorem vx_cwVW {own C : String} {index maxL mc ms : Nat} {y : MethodName} {bytes : ByteArray} {ret : Option FieldType} {hh : List (Nat × Nat × Nat × Nat)} {Ts ws ws' : List Cond} {rm : Room} (n : Nat) (ht : ∀ w ∈ Ts, w.before args s = true) (hT : GoodIn Ts (wsV own index C y ws)) (hw : ws = Cond.codeWith y bytes maxL ret hh :: ws') (hrc : rm.cells = mc) (hrs : rm.slots = ms)
    (hd : y.cls = C ∧ y.cls ≠ "java/lang/invoke/MethodHandle" ∧ y.cls ≠ "java/lang/invoke/VarHandle" ∧ (parseMethodDescriptor y.desc).map (fun d => d.parameters.length) = some n) (hR : rm.frames + 1 ≤ R.frames ∧ 8 + (maxL + 11) + rm.locals ≤ R.locals) :
    vx_CVW R s args own C index y bytes maxL ret hh ws rm mc ms n := by
  obtain ⟨hC, hd⟩ := hd
  subst hC
  have ok : ∀ w ∈ wsV own index y.cls y ws, w.before args s = true := fun w h => ht w (hT w h).1
  have hG : GoodIn Ts ws := fun w h => hT w (by unfold wsV; exact List.mem_append_right _ h)
  have hc : Cond.codeWith y bytes maxL ret hh ∈ ws := by rw [hw]; exact List.mem_cons_self
  refine ⟨⟨hrc, hrs, hR.1, hR.2, pay_in ht hG, hc⟩, ht _ (hG _ hc).1, ok _ (by simp [wsV]), ⟨hd.1, hd.2.1⟩, fun sig h => ?_, ok _ (by simp [wsV]), ok _ (by simp [wsV]), ok _ (by simp [wsV])⟩
  have h2 := hd.2.2
  rw [h] at h2
  exact (Option.some.inj h2).symm
theorem vx_runVW {y : MethodName} {bytes cc : ByteArray} {maxL nL mc ms n index : Nat} {ret : Option FieldType} {hh : List (Nat × Nat × Nat × Nat)} {ws : List Cond} {rm : Room} {Pc : Array Value → State → Prop} {Qc : Array Value → State → Outcome → State → Prop} {free : Addr → Prop} {Ts : List Cond} {own C : String} {b : Addr} {As rest : List Value} {g : JFrame}
    (S : CallFix p m c cc nL s args Ts own) (hM : Met l y ws rm Pc Qc mc ms free) (cw : vx_CVW R s args own C index y bytes maxL ret hh ws rm mc ms n) (hp : PreV s H C b Pc As)
    (hg : g.method = m) (hn : As.length = n) (hsize : g.locals.size = nL) (hstack : g.stack = As.reverse ++ .ref b :: rest) (hW : 2 * g.monitorRoom + (rest.map fun v => v.category).sum ≤ 8) (hdg : decode cc g.pc = .ok (.invokevirtual index, 3)) (hf : cells + mc ≤ R.cells ∧ slots + ms ≤ R.slots) :
    va_Run p l e R s m args below meth c H locs cells slots mc ms g rest (Qc (Value.ref b :: As).toArray) free := by
  obtain ⟨⟨hrc, hrs, hfr, hlo, hws, hcw⟩, hcode, hini, hy, hlen, hl, hin, hse⟩ := cw
  have hK : Back l R p e below s args y 3 8 (PreOf R mc ms Pc) (PostOf Qc mc ms free) := va_backW (hh := hh) (bytes := bytes) (maxL := maxL) (ret := ret) hM hp.1 hrc hrs hfr hlo hws hcw (fun a' U hW => word_at hW (Or.inl (by first | rfl | simp [Cond.onTables, Cond.keeps, Cond.steady])) hini)
  obtain ⟨hx, hb, hml, ho, -⟩ := S
  obtain ⟨-, ⟨cellB, hcB, hoB, hclB⟩, hPc⟩ := hp
  intro T hT X
  obtain ⟨v, vm₁, ⟨U', l2, c2, s2⟩, hW₁, X', ⟨g', mk, t, L, e1, e2, hq, h1, hL, h2, h3⟩, st⟩ := vx_callVW X hx (C := C) (hh := hh) (bytes := bytes) (maxL := maxL) (ret := ret) ho hl hin hse hcode hy hK (by rw [hT]; exact hcB) hoB hclB hg (hsize.trans hml.symm) (argsL := As) (rest := rest) (fun sig h => hn.trans (hlen sig h)) hstack hW (by rw [hb]; exact hdg)
    (fun vm₁ hW₁ => ⟨hf.1, hf.2, hPc (T.setVm vm₁) hT hW₁⟩)
  dsimp only [Pt.U, Pt.locs, Pt.cells, Pt.slots] at X' e1 e2 h1 h2 h3 st
  subst h1; subst h2; subst h3
  exact ⟨v, (T.setVm vm₁).calling g' mk (Value.ref b :: As).toArray, t, U', L, hT, X', hL, e1, e2, hq, st⟩
section
variable {y : MethodName} {bytes cc : ByteArray} {maxL nL mc ms n index : Nat} {ret : Option FieldType} {ws : List Cond} {rm : Room} {Pc : Array Value → State → Prop} {Qc : Array Value → State → Outcome → State → Prop} {XC : String → State → State → Prop} {free : Addr → Prop} {Ts : List Cond} {own C : String} {b : Addr} {As rest : List Value} {g : JFrame}
theorem vx_runVX {hh : List (Nat × Nat × Nat × Nat)} (S : CallFix p m c cc nL s args Ts own) (hM : vx_Met l y ws rm Pc Qc XC mc ms free) (cw : vx_CVW R s args own C index y bytes maxL ret hh ws rm mc ms n) (hp : PreV s H C b Pc As)
    (hg : g.method = m) (hn : As.length = n) (hsize : g.locals.size = nL) (hstack : g.stack = As.reverse ++ .ref b :: rest) (hW : 2 * g.monitorRoom + (rest.map fun v => v.category).sum ≤ 8) (hdg : decode cc g.pc = .ok (.invokevirtual index, 3)) (hf : cells + mc ≤ R.cells ∧ slots + ms ≤ R.slots) :
    vx_Run p l e R s m args below meth c H locs cells slots mc ms g rest (Qc (Value.ref b :: As).toArray) XC free := by
  obtain ⟨⟨hrc, hrs, hfr, hlo, hws, hcw⟩, hcode, hini, hy, hlen, hl, hin, hse⟩ := cw
  have hK : vx_Back l R p e below s args y 3 8 (PreOf R mc ms Pc) (PostOf Qc mc ms free) (vx_Post XC mc ms free) := vx_backW (hh := hh) (bytes := bytes) (maxL := maxL) (ret := ret) hM hp.1 hrc hrs hfr hlo hws hcw (fun a' U hW => word_at hW (Or.inl (by first | rfl | simp [Cond.onTables, Cond.keeps, Cond.steady])) hini)
  obtain ⟨hx, hb, hml, ho, -⟩ := S
  obtain ⟨-, ⟨cellB, hcB, hoB, hclB⟩, hPc⟩ := hp
  intro T hT X
  rcases vx_callVX X hx (C := C) (hh := hh) (bytes := bytes) (maxL := maxL) (ret := ret) ho hl hin hse hcode hy hK (by rw [hT]; exact hcB) hoB hclB hg (hsize.trans hml.symm) (argsL := As) (rest := rest) (fun sig h => hn.trans (hlen sig h)) hstack hW (by rw [hb]; exact hdg)
    (fun vm₁ hW₁ => ⟨hf.1, hf.2, hPc (T.setVm vm₁) hT hW₁⟩) with ⟨v, vm₁, ⟨U', l2, c2, s2⟩, hW₁, X', ⟨g', mk, t, L, e1, e2, hq, h1, hL, h2, h3⟩, st⟩ | ⟨q, vm₁, ⟨U', l2, c2, s2⟩, hW₁, X', ⟨g', mk, t, L, E, ce, e1, e2, hq, hce, hcv, hcl, h1, hL, h2, h3⟩, st⟩
  · dsimp only [Pt.U, Pt.locs, Pt.cells, Pt.slots] at X' e1 e2 h1 h2 h3 st
    subst h1; subst h2; subst h3
    exact Or.inl ⟨v, (T.setVm vm₁).calling g' mk (Value.ref b :: As).toArray, t, U', L, hT, X', hL, e1, e2, hq, st⟩
  · dsimp only [Pt.U, Pt.locs, Pt.cells, Pt.slots] at X' e1 e2 h1 h2 h3 st hcl
    subst h1; subst h2; subst h3
    exact Or.inr ⟨q, (T.setVm vm₁).calling g' mk (Value.ref b :: As).toArray, t, U', L, E, ce, hT, X', hL, e1, e2, hq, hce, hcv, vx_cls hW₁ hcl, st⟩
theorem vx_runSX {hh : List (Nat × Nat × Nat × Nat)} (S : CallFix p m c cc nL s args Ts own) (hM : vx_Met l y ws rm Pc Qc XC mc ms free) (cw : vx_CSW R s args own index y bytes maxL ret hh ws rm mc ms n) (hp : PreS s H Pc As)
    (hg : g.method = m) (hn : As.length = n) (hsize : g.locals.size = nL) (hstack : g.stack = As.reverse ++ rest) (hW : 2 * g.monitorRoom + (rest.map fun v => v.category).sum ≤ 8) (hdg : decode cc g.pc = .ok (.invokestatic index, 3)) (hf : cells + mc ≤ R.cells ∧ slots + ms ≤ R.slots) :
    vx_Run p l e R s m args below meth c H locs cells slots mc ms g rest (Qc As.toArray) XC free := by
  obtain ⟨⟨hrc, hrs, hfr, hlo, hws, hcw⟩, hcode, hini, hy, hlen, hl, hstt⟩ := cw
  have hK : vx_Back l R p e below s args y 3 8 (PreOf R mc ms Pc) (PostOf Qc mc ms free) (vx_Post XC mc ms free) := vx_backW (hh := hh) (bytes := bytes) (maxL := maxL) (ret := ret) hM hp.1 hrc hrs hfr hlo hws hcw (fun a' U hW => word_at hW (Or.inl (by first | rfl | simp [Cond.onTables, Cond.keeps, Cond.steady])) hini)
  obtain ⟨hx, hb, hml, ho, -⟩ := S
  intro T hT X
  rcases vx_callSX X hx (hh := hh) (bytes := bytes) (maxL := maxL) (ret := ret) ho hl hstt hini hcode hy hK hg (hsize.trans hml.symm) (argsL := As) (rest := rest) (fun sig h => hn.trans (hlen sig h)) hstack hW (by rw [hb]; exact hdg)
    (fun vm₁ hW₁ => ⟨hf.1, hf.2, hp.2 (T.setVm vm₁) hT hW₁⟩) with ⟨v, vm₁, ⟨U', l2, c2, s2⟩, hW₁, X', ⟨g', mk, t, L, e1, e2, hq, h1, hL, h2, h3⟩, st⟩ | ⟨q, vm₁, ⟨U', l2, c2, s2⟩, hW₁, X', ⟨g', mk, t, L, E, ce, e1, e2, hq, hce, hcv, hcl, h1, hL, h2, h3⟩, st⟩
  · dsimp only [Pt.U, Pt.locs, Pt.cells, Pt.slots] at X' e1 e2 h1 h2 h3 st
    subst h1; subst h2; subst h3
    exact Or.inl ⟨v, (T.setVm vm₁).calling g' mk As.toArray, t, U', L, hT, X', hL, e1, e2, hq, st⟩
  · dsimp only [Pt.U, Pt.locs, Pt.cells, Pt.slots] at X' e1 e2 h1 h2 h3 st hcl
    subst h1; subst h2; subst h3
    exact Or.inr ⟨q, (T.setVm vm₁).calling g' mk As.toArray, t, U', L, E, ce, hT, X', hL, e1, e2, hq, hce, hcv, vx_cls hW₁ hcl, st⟩
end
end VXH
theorem vx_ofWH {l : Launch} {y : MethodName} {ws ws' : List Cond} {rm : Room} {Pc : Array Value → State → Prop} {Qc : Array Value → State → Outcome → State → Prop} {XC : String → State → State → Prop} {mc ms : Nat} {free : Addr → Prop} {cc : ByteArray} {maxL : Nat} {ret : Option FieldType} {hh : List (Nat × Nat × Nat × Nat)}
    (hy : plainName y.cls = true) (hw : ws = Cond.codeWith y cc maxL ret hh :: ws')
    (body : ∀ p e s m args below meth c s₁, BodyLoose p l y (headSpec ws rm) cc maxL ret e s m args below meth c s₁ → c.maxLocals = maxL → Pc args s →
      W p l e (headSpec ws rm).room s m args below meth c s.heap [] 0 0 (vx_MQ below Qc XC args s mc ms free) (entryFrame m args maxL)) : vx_Met l y ws rm Pc Qc XC mc ms free := by
  refine MetFree.of_bodyS (code := cc) (maxLocals := maxL) (ret := ret) hy ?_ ?_
  · intro args s m h hn
    obtain ⟨m9, meth, c, hn9, h1, h2, h3, h4, -, h5, h6, -⟩ := Cond.codeWith_spec (atoms_spec (ws := ws) h _ (by rw [hw]; exact List.mem_cons_self))
    cases hn.symm.trans hn9
    exact ⟨meth, c, h1, h2, h3, h4, h5, h6⟩
  · intro p e s m args below meth c s₁ B hml hP _
    have hh0 : s₁.heap = s.heap := by rw [B.state]; rfl
    obtain ⟨t, a1, o, b1, b2, b3⟩ := body p e s m args below meth c s₁ B hml hP s₁ hh0 (Stand.of_body B)
    exact ⟨t, o, a1, b1, b2, b3⟩
/-! ===== END ===== -/
end
section
/-! ===== BEGIN printed: names, fields, word lists, decode rows ===== -/
def RX0 : String := "TwinWrites$Change"
def TX0 : u_T := fun k => match k with
  | 0 => ("TwinWrites$Change", "number", "I", false)
  | 1 => ("TwinWrites$Change", "page", "I", false)
  | 2 => ("TwinWrites$Change", "at", "I", false)
  | _ => ("TwinWrites$Change", "word", "I", false)
def tyX0 : Nat → FieldType := fun k => match k with
  | 0 => .int
  | 1 => .int
  | 2 => .int
  | _ => .int
abbrev wsX00 : List Cond := u_ws RX0 TX0 4
theorem nmX0 : ∀ a, a < 4 → ∀ b, b < 4 → a ≠ b → (TX0 a).2.1 ≠ (TX0 b).2.1 := by decide +kernel
theorem tyX0_ok : ∀ k, k < 4 → parseFieldDescriptor (TX0 k).2.2.1 = some (tyX0 k) := by decide +kernel
abbrev cX0_init : ByteArray := prog_2_method_1_code
def yX0_init : MethodName := ⟨RX0, "<init>", "()V"⟩
abbrev cX0_set : ByteArray := prog_2_method_2_code
def yX0_set : MethodName := ⟨RX0, "set", "(IIII)V"⟩
abbrev cX0_copy : ByteArray := prog_2_method_3_code
def yX0_copy : MethodName := ⟨RX0, "copy", "(LTwinWrites$Change;)V"⟩
abbrev cX0_value : ByteArray := prog_2_method_4_code
def yX0_value : MethodName := ⟨RX0, "value", "(I)I"⟩
def RX1 : String := "TwinWrites$Frame"
def TX1 : u_T := fun k => match k with
  | 0 => ("TwinWrites$Frame", "words", "[I", true)
  | 1 => ("TwinWrites$Frame", "page", "I", false)
  | 2 => ("TwinWrites$Frame", "stamp", "I", false)
  | 3 => ("TwinWrites$Frame", "dirty", "Z", false)
  | _ => ("TwinWrites$Frame", "asked", "I", false)
def tyX1 : Nat → FieldType := fun k => match k with
  | 0 => .array .int
  | 1 => .int
  | 2 => .int
  | 3 => .boolean
  | _ => .int
abbrev wsX10 : List Cond := u_ws RX1 TX1 5
theorem nmX1 : ∀ a, a < 5 → ∀ b, b < 5 → a ≠ b → (TX1 a).2.1 ≠ (TX1 b).2.1 := by decide +kernel
theorem tyX1_ok : ∀ k, k < 5 → parseFieldDescriptor (TX1 k).2.2.1 = some (tyX1 k) := by decide +kernel
abbrev cX1_init : ByteArray := prog_3_method_1_code
def yX1_init : MethodName := ⟨RX1, "<init>", "()V"⟩
abbrev cX1_empty : ByteArray := prog_3_method_2_code
def yX1_empty : MethodName := ⟨RX1, "empty", "()V"⟩
abbrev cX1_fill : ByteArray := prog_3_method_3_code
def yX1_fill : MethodName := ⟨RX1, "fill", "(ILTwinWrites$Place;)V"⟩
abbrev cX1_changeWord : ByteArray := prog_3_method_4_code
def yX1_changeWord : MethodName := ⟨RX1, "changeWord", "(III)V"⟩
abbrev cX1_value : ByteArray := prog_3_method_5_code
def yX1_value : MethodName := ⟨RX1, "value", "(I)I"⟩
def RX2 : String := "TwinWrites$Place"
def TX2 : u_T := fun k => match k with
  | 0 => ("TwinWrites$Place", "words", "[I", true)
  | 1 => ("TwinWrites$Place", "stamps", "[I", true)
  | _ => ("TwinWrites$Place", "pages", "[I", true)
def tyX2 : Nat → FieldType := fun k => match k with
  | 0 => .array .int
  | 1 => .array .int
  | _ => .array .int
abbrev wsX20 : List Cond := u_ws RX2 TX2 3
theorem nmX2 : ∀ a, a < 3 → ∀ b, b < 3 → a ≠ b → (TX2 a).2.1 ≠ (TX2 b).2.1 := by decide +kernel
theorem tyX2_ok : ∀ k, k < 3 → parseFieldDescriptor (TX2 k).2.2.1 = some (tyX2 k) := by decide +kernel
abbrev cX2_init : ByteArray := prog_4_method_1_code
def yX2_init : MethodName := ⟨RX2, "<init>", "(I)V"⟩
abbrev cX2_putSector : ByteArray := prog_4_method_2_code
def yX2_putSector : MethodName := ⟨RX2, "putSector", "(III[I)V"⟩
abbrev cX2_isWhole : ByteArray := prog_4_method_3_code
def yX2_isWhole : MethodName := ⟨RX2, "isWhole", "()Z"⟩
abbrev cX2_value : ByteArray := prog_4_method_4_code
def yX2_value : MethodName := ⟨RX2, "value", "(I)I"⟩
def RX3 : String := "TwinWrites"
def TX3 : u_T := fun k => match k with
  | 0 => ("TwinWrites", "homes", "[LTwinWrites$Place;", true)
  | 1 => ("TwinWrites", "slots", "[LTwinWrites$Place;", true)
  | 2 => ("TwinWrites", "log", "[LTwinWrites$Change;", true)
  | 3 => ("TwinWrites", "mark", "I", false)
  | 4 => ("TwinWrites", "sectorsLeft", "I", false)
  | 5 => ("TwinWrites", "down", "Z", false)
  | 6 => ("TwinWrites", "sectorsWritten", "I", false)
  | 7 => ("TwinWrites", "pagesCleaned", "I", false)
  | 8 => ("TwinWrites", "pagesMended", "I", false)
  | 9 => ("TwinWrites", "frames", "[LTwinWrites$Frame;", true)
  | 10 => ("TwinWrites", "waiting", "[LTwinWrites$Change;", true)
  | 11 => ("TwinWrites", "waitingCount", "I", false)
  | 12 => ("TwinWrites", "nextNumber", "I", false)
  | 13 => ("TwinWrites", "askings", "I", false)
  | _ => ("TwinWrites", "wordGot", "I", false)
def tyX3 : Nat → FieldType := fun k => match k with
  | 0 => .array (.object "TwinWrites$Place")
  | 1 => .array (.object "TwinWrites$Place")
  | 2 => .array (.object "TwinWrites$Change")
  | 3 => .int
  | 4 => .int
  | 5 => .boolean
  | 6 => .int
  | 7 => .int
  | 8 => .int
  | 9 => .array (.object "TwinWrites$Frame")
  | 10 => .array (.object "TwinWrites$Change")
  | 11 => .int
  | 12 => .int
  | 13 => .int
  | _ => .int
abbrev wsX30 : List Cond := u_ws RX3 TX3 15
theorem nmX3 : ∀ a, a < 15 → ∀ b, b < 15 → a ≠ b → (TX3 a).2.1 ≠ (TX3 b).2.1 := by decide +kernel
theorem tyX3_ok : ∀ k, k < 15 → parseFieldDescriptor (TX3 k).2.2.1 = some (tyX3 k) := by decide +kernel
abbrev cX3_init : ByteArray := prog_1_method_1_code
def yX3_init : MethodName := ⟨RX3, "<init>", "()V"⟩
abbrev cX3_change : ByteArray := prog_1_method_2_code
def yX3_change : MethodName := ⟨RX3, "change", "(IIIII)I"⟩
abbrev cX3_read : ByteArray := prog_1_method_3_code
def yX3_read : MethodName := ⟨RX3, "read", "(II)I"⟩
abbrev cX3_got : ByteArray := prog_1_method_4_code
def yX3_got : MethodName := ⟨RX3, "got", "()I"⟩
abbrev cX3_sync : ByteArray := prog_1_method_5_code
def yX3_sync : MethodName := ⟨RX3, "sync", "()I"⟩
abbrev cX3_checkpoint : ByteArray := prog_1_method_6_code
def yX3_checkpoint : MethodName := ⟨RX3, "checkpoint", "()I"⟩
abbrev cX3_power : ByteArray := prog_1_method_7_code
def yX3_power : MethodName := ⟨RX3, "power", "(I)V"⟩
abbrev cX3_recover : ByteArray := prog_1_method_8_code
def yX3_recover : MethodName := ⟨RX3, "recover", "()I"⟩
abbrev cX3_cut : ByteArray := prog_1_method_9_code
def yX3_cut : MethodName := ⟨RX3, "cut", "()I"⟩
abbrev cX3_disk : ByteArray := prog_1_method_10_code
def yX3_disk : MethodName := ⟨RX3, "disk", "(III)I"⟩
abbrev cX3_frame : ByteArray := prog_1_method_11_code
def yX3_frame : MethodName := ⟨RX3, "frame", "(II)I"⟩
abbrev cX3_count : ByteArray := prog_1_method_12_code
def yX3_count : MethodName := ⟨RX3, "count", "(I)I"⟩
abbrev cX3_isIn : ByteArray := prog_1_method_13_code
def yX3_isIn : MethodName := ⟨RX3, "isIn", "(II)Z"⟩
abbrev cX3_placeValue : ByteArray := prog_1_method_14_code
def yX3_placeValue : MethodName := ⟨RX3, "placeValue", "([LTwinWrites$Place;III)I"⟩
abbrev cX3_recordValue : ByteArray := prog_1_method_15_code
def yX3_recordValue : MethodName := ⟨RX3, "recordValue", "(II)I"⟩
abbrev cX3_markValue : ByteArray := prog_1_method_16_code
def yX3_markValue : MethodName := ⟨RX3, "markValue", "(II)I"⟩
abbrev cX3_room : ByteArray := prog_1_method_17_code
def yX3_room : MethodName := ⟨RX3, "room", "()I"⟩
abbrev cX3_powerHolds : ByteArray := prog_1_method_18_code
def yX3_powerHolds : MethodName := ⟨RX3, "powerHolds", "()Z"⟩
abbrev cX3_lose : ByteArray := prog_1_method_19_code
def yX3_lose : MethodName := ⟨RX3, "lose", "()I"⟩
abbrev cX3_goDown : ByteArray := prog_1_method_20_code
def yX3_goDown : MethodName := ⟨RX3, "goDown", "()V"⟩
abbrev cX3_logWaiting : ByteArray := prog_1_method_21_code
def yX3_logWaiting : MethodName := ⟨RX3, "logWaiting", "()I"⟩
abbrev cX3_writePage : ByteArray := prog_1_method_22_code
def yX3_writePage : MethodName := ⟨RX3, "writePage", "(LTwinWrites$Place;II[I)Z"⟩
abbrev cX3_cleanDirty : ByteArray := prog_1_method_23_code
def yX3_cleanDirty : MethodName := ⟨RX3, "cleanDirty", "(II)I"⟩
abbrev cX3_writeDirtyHome : ByteArray := prog_1_method_24_code
def yX3_writeDirtyHome : MethodName := ⟨RX3, "writeDirtyHome", "(II)Z"⟩
abbrev cX3_cleanAllAndMark : ByteArray := prog_1_method_25_code
def yX3_cleanAllAndMark : MethodName := ⟨RX3, "cleanAllAndMark", "()I"⟩
abbrev cX3_bring : ByteArray := prog_1_method_26_code
def yX3_bring : MethodName := ⟨RX3, "bring", "(I)I"⟩
abbrev cX3_frameOf : ByteArray := prog_1_method_27_code
def yX3_frameOf : MethodName := ⟨RX3, "frameOf", "(I)I"⟩
abbrev cX3_frameToFill : ByteArray := prog_1_method_28_code
def yX3_frameToFill : MethodName := ⟨RX3, "frameToFill", "()I"⟩
abbrev cX3_changeWords : ByteArray := prog_1_method_29_code
def yX3_changeWords : MethodName := ⟨RX3, "changeWords", "(LTwinWrites$Frame;IIII)V"⟩
abbrev cX3_mendHomes : ByteArray := prog_1_method_30_code
def yX3_mendHomes : MethodName := ⟨RX3, "mendHomes", "()Z"⟩
abbrev cX3_slotToMendFrom : ByteArray := prog_1_method_31_code
def yX3_slotToMendFrom : MethodName := ⟨RX3, "slotToMendFrom", "(I)I"⟩
abbrev cX3_redoLogged : ByteArray := prog_1_method_32_code
def yX3_redoLogged : MethodName := ⟨RX3, "redoLogged", "()I"⟩
def RX4 : String := "TwinWritesModel"
def TX4 : u_T := fun k => match k with
  | 0 => ("TwinWritesModel", "thrown", "I", false)
  | 1 => ("TwinWritesModel", "homeStamp", "[I", false)
  | 2 => ("TwinWritesModel", "homeWord", "[I", false)
  | 3 => ("TwinWritesModel", "besideStamp", "[I", false)
  | 4 => ("TwinWritesModel", "besidePage", "[I", false)
  | 5 => ("TwinWritesModel", "besideWord", "[I", false)
  | 6 => ("TwinWritesModel", "logNumber", "[I", false)
  | 7 => ("TwinWritesModel", "logPage", "[I", false)
  | 8 => ("TwinWritesModel", "logWhich", "[I", false)
  | 9 => ("TwinWritesModel", "logWord", "[I", false)
  | 10 => ("TwinWritesModel", "mark", "I", false)
  | 11 => ("TwinWritesModel", "framePage", "[I", false)
  | 12 => ("TwinWritesModel", "frameStamp", "[I", false)
  | 13 => ("TwinWritesModel", "isDirty", "[Z", false)
  | 14 => ("TwinWritesModel", "asked", "[I", false)
  | 15 => ("TwinWritesModel", "frameWord", "[I", false)
  | 16 => ("TwinWritesModel", "clock", "I", false)
  | 17 => ("TwinWritesModel", "next", "I", false)
  | 18 => ("TwinWritesModel", "waiting", "I", false)
  | 19 => ("TwinWritesModel", "waitNumber", "[I", false)
  | 20 => ("TwinWritesModel", "waitPage", "[I", false)
  | 21 => ("TwinWritesModel", "waitWhich", "[I", false)
  | 22 => ("TwinWritesModel", "waitWord", "[I", false)
  | 23 => ("TwinWritesModel", "got", "I", false)
  | 24 => ("TwinWritesModel", "power", "I", false)
  | 25 => ("TwinWritesModel", "isDown", "Z", false)
  | 26 => ("TwinWritesModel", "sectors", "I", false)
  | 27 => ("TwinWritesModel", "cleaned", "I", false)
  | _ => ("TwinWritesModel", "mended", "I", false)
def tyX4 : Nat → FieldType := fun k => match k with
  | 0 => .int
  | 1 => .array .int
  | 2 => .array .int
  | 3 => .array .int
  | 4 => .array .int
  | 5 => .array .int
  | 6 => .array .int
  | 7 => .array .int
  | 8 => .array .int
  | 9 => .array .int
  | 10 => .int
  | 11 => .array .int
  | 12 => .array .int
  | 13 => .array .boolean
  | 14 => .array .int
  | 15 => .array .int
  | 16 => .int
  | 17 => .int
  | 18 => .int
  | 19 => .array .int
  | 20 => .array .int
  | 21 => .array .int
  | 22 => .array .int
  | 23 => .int
  | 24 => .int
  | 25 => .boolean
  | 26 => .int
  | 27 => .int
  | _ => .int
abbrev wsX40 : List Cond := u_ws RX4 TX4 29
theorem nmX4 : ∀ a, a < 29 → ∀ b, b < 29 → a ≠ b → (TX4 a).2.1 ≠ (TX4 b).2.1 := by decide +kernel
theorem tyX4_ok : ∀ k, k < 29 → parseFieldDescriptor (TX4 k).2.2.1 = some (tyX4 k) := by decide +kernel
abbrev cX4_init : ByteArray := prog_6_method_1_code
def yX4_init : MethodName := ⟨RX4, "<init>", "()V"⟩
abbrev cX4_thrown : ByteArray := prog_6_method_2_code
def yX4_thrown : MethodName := ⟨RX4, "thrown", "()I"⟩
abbrev cX4_in : ByteArray := prog_6_method_3_code
def yX4_in : MethodName := ⟨RX4, "in", "(III)Z"⟩
abbrev cX4_refuses : ByteArray := prog_6_method_4_code
def yX4_refuses : MethodName := ⟨RX4, "refuses", "(ZI)Z"⟩
abbrev cX4_goDown : ByteArray := prog_6_method_5_code
def yX4_goDown : MethodName := ⟨RX4, "goDown", "()V"⟩
abbrev cX4_mayWrite : ByteArray := prog_6_method_6_code
def yX4_mayWrite : MethodName := ⟨RX4, "mayWrite", "()Z"⟩
abbrev cX4_writeHome : ByteArray := prog_6_method_7_code
def yX4_writeHome : MethodName := ⟨RX4, "writeHome", "(IIIZ)Z"⟩
abbrev cX4_writeBeside : ByteArray := prog_6_method_8_code
def yX4_writeBeside : MethodName := ⟨RX4, "writeBeside", "(II)Z"⟩
abbrev cX4_isHomeWhole : ByteArray := prog_6_method_9_code
def yX4_isHomeWhole : MethodName := ⟨RX4, "isHomeWhole", "(I)Z"⟩
abbrev cX4_isSlotWhole : ByteArray := prog_6_method_10_code
def yX4_isSlotWhole : MethodName := ⟨RX4, "isSlotWhole", "(I)Z"⟩
abbrev cX4_logWaiting : ByteArray := prog_6_method_11_code
def yX4_logWaiting : MethodName := ⟨RX4, "logWaiting", "()Z"⟩
abbrev cX4_clean : ByteArray := prog_6_method_12_code
def yX4_clean : MethodName := ⟨RX4, "clean", "(I)Z"⟩
abbrev cX4_bring : ByteArray := prog_6_method_13_code
def yX4_bring : MethodName := ⟨RX4, "bring", "(I)I"⟩
abbrev cX4_check : ByteArray := prog_6_method_14_code
def yX4_check : MethodName := ⟨RX4, "check", "()I"⟩
abbrev cX4_room : ByteArray := prog_6_method_15_code
def yX4_room : MethodName := ⟨RX4, "room", "()I"⟩
abbrev cX4_change : ByteArray := prog_6_method_16_code
def yX4_change : MethodName := ⟨RX4, "change", "(IIIII)I"⟩
abbrev cX4_read : ByteArray := prog_6_method_17_code
def yX4_read : MethodName := ⟨RX4, "read", "(II)I"⟩
abbrev cX4_got : ByteArray := prog_6_method_18_code
def yX4_got : MethodName := ⟨RX4, "got", "()I"⟩
abbrev cX4_sync : ByteArray := prog_6_method_19_code
def yX4_sync : MethodName := ⟨RX4, "sync", "()I"⟩
abbrev cX4_checkpoint : ByteArray := prog_6_method_20_code
def yX4_checkpoint : MethodName := ⟨RX4, "checkpoint", "()I"⟩
abbrev cX4_power : ByteArray := prog_6_method_21_code
def yX4_power : MethodName := ⟨RX4, "power", "(I)V"⟩
abbrev cX4_mend : ByteArray := prog_6_method_22_code
def yX4_mend : MethodName := ⟨RX4, "mend", "()Z"⟩
abbrev cX4_recover : ByteArray := prog_6_method_23_code
def yX4_recover : MethodName := ⟨RX4, "recover", "()I"⟩
abbrev cX4_cut : ByteArray := prog_6_method_24_code
def yX4_cut : MethodName := ⟨RX4, "cut", "()I"⟩
abbrev cX4_disk : ByteArray := prog_6_method_25_code
def yX4_disk : MethodName := ⟨RX4, "disk", "(III)I"⟩
abbrev cX4_frame : ByteArray := prog_6_method_26_code
def yX4_frame : MethodName := ⟨RX4, "frame", "(II)I"⟩
abbrev cX4_count : ByteArray := prog_6_method_27_code
def yX4_count : MethodName := ⟨RX4, "count", "(I)I"⟩
def RJ9 : String := "java/lang/Math"
def TJ9 : u_T := fun k => match k with
  | _ => ("", "", "", false)
def tyJ9 : Nat → FieldType := fun k => match k with
  | _ => .int
abbrev wsJ90 : List Cond := u_ws RJ9 TJ9 0
theorem nmJ9 : ∀ a, a < 0 → ∀ b, b < 0 → a ≠ b → (TJ9 a).2.1 ≠ (TJ9 b).2.1 := by decide +kernel
theorem tyJ9_ok : ∀ k, k < 0 → parseFieldDescriptor (TJ9 k).2.2.1 = some (tyJ9 k) := by decide +kernel
abbrev cJ9_floorMod_7cf53 : ByteArray := prog_10_method_50_code
def yJ9_floorMod_7cf53 : MethodName := ⟨RJ9, "floorMod", "(II)I"⟩
def RJ0 : String := "java/lang/String"
def TJ0 : u_T := fun k => match k with
  | _ => ("", "", "", false)
def tyJ0 : Nat → FieldType := fun k => match k with
  | _ => .int
abbrev wsJ00 : List Cond := u_ws RJ0 TJ0 0
theorem nmJ0 : ∀ a, a < 0 → ∀ b, b < 0 → a ≠ b → (TJ0 a).2.1 ≠ (TJ0 b).2.1 := by decide +kernel
theorem tyJ0_ok : ∀ k, k < 0 → parseFieldDescriptor (TJ0 k).2.2.1 = some (tyJ0 k) := by decide +kernel
def RL : String := "TwinWritesLaw"
abbrev cL_change : ByteArray := method_3_code
def yL_change : MethodName := ⟨RL, "change", "(LTwinWrites;IIIII[J)I"⟩
abbrev cL_read : ByteArray := method_4_code
def yL_read : MethodName := ⟨RL, "read", "(LTwinWrites;II[J)I"⟩
abbrev cL_sync : ByteArray := method_5_code
def yL_sync : MethodName := ⟨RL, "sync", "(LTwinWrites;[J)I"⟩
abbrev cL_checkpoint : ByteArray := method_6_code
def yL_checkpoint : MethodName := ⟨RL, "checkpoint", "(LTwinWrites;[J)I"⟩
abbrev cL_power : ByteArray := method_7_code
def yL_power : MethodName := ⟨RL, "power", "(LTwinWrites;I)I"⟩
abbrev cL_recover : ByteArray := method_8_code
def yL_recover : MethodName := ⟨RL, "recover", "(LTwinWrites;[J)I"⟩
abbrev cL_cut : ByteArray := method_9_code
def yL_cut : MethodName := ⟨RL, "cut", "(LTwinWrites;[J)I"⟩
abbrev cL_disk : ByteArray := method_10_code
def yL_disk : MethodName := ⟨RL, "disk", "(LTwinWrites;III[J)I"⟩
abbrev cL_frame : ByteArray := method_11_code
def yL_frame : MethodName := ⟨RL, "frame", "(LTwinWrites;II[J)I"⟩
abbrev cL_count : ByteArray := method_12_code
def yL_count : MethodName := ⟨RL, "count", "(LTwinWrites;I[J)I"⟩
abbrev cL_law : ByteArray := code
def yL_law : MethodName := ⟨RL, "law", "([I)Z"⟩
def wsX0_init : List Cond := .code yX0_init cX0_init 1 none :: ([.methodLink RX0 1 objectInit, .instanceMethod objectInit, .code objectInit ⟨#[0xb1]⟩ 1 none, .fieldLink RX0 7 "TwinWrites$Change" "number" "I", .fieldLink RX0 13 "TwinWrites$Change" "page" "I", .fieldLink RX0 16 "TwinWrites$Change" "at" "I", .fieldLink RX0 19 "TwinWrites$Change" "word" "I"] ++ wsX00)
def wsX0_set : List Cond := .code yX0_set cX0_set 5 none :: ([.fieldLink RX0 7 "TwinWrites$Change" "number" "I", .fieldLink RX0 13 "TwinWrites$Change" "page" "I", .fieldLink RX0 16 "TwinWrites$Change" "at" "I", .fieldLink RX0 19 "TwinWrites$Change" "word" "I"] ++ wsX00)
def wsX0_copy : List Cond := .code yX0_copy cX0_copy 2 none :: ([.fieldLink RX0 7 "TwinWrites$Change" "number" "I", .fieldLink RX0 13 "TwinWrites$Change" "page" "I", .fieldLink RX0 16 "TwinWrites$Change" "at" "I", .fieldLink RX0 19 "TwinWrites$Change" "word" "I", .methodLink RX0 22 yX0_set, .instanceMethod yX0_set, .selects RX0 yX0_set yX0_set, .initialized RX0, .code yX0_set cX0_set 5 none] ++ wsX00)
def wsX0_value : List Cond := .code yX0_value cX0_value 2 (some .int) :: ([.fieldLink RX0 7 "TwinWrites$Change" "number" "I", .fieldLink RX0 13 "TwinWrites$Change" "page" "I", .fieldLink RX0 16 "TwinWrites$Change" "at" "I", .fieldLink RX0 19 "TwinWrites$Change" "word" "I"] ++ wsX00)
def wsX1_init : List Cond := .code yX1_init cX1_init 1 none :: ([.methodLink RX1 3 objectInit, .instanceMethod objectInit, .code objectInit ⟨#[0xb1]⟩ 1 none, .arrayClass .int, .fieldLink RX1 9 "TwinWrites$Frame" "words" "[I", .fieldLink RX1 15 "TwinWrites$Frame" "page" "I", .fieldLink RX1 19 "TwinWrites$Frame" "stamp" "I", .fieldLink RX1 22 "TwinWrites$Frame" "dirty" "Z", .fieldLink RX1 26 "TwinWrites$Frame" "asked" "I"] ++ wsX10)
def wsX1_empty : List Cond := .code yX1_empty cX1_empty 2 none :: ([.fieldLink RX1 9 "TwinWrites$Frame" "words" "[I", .fieldLink RX1 15 "TwinWrites$Frame" "page" "I", .fieldLink RX1 19 "TwinWrites$Frame" "stamp" "I", .fieldLink RX1 22 "TwinWrites$Frame" "dirty" "Z", .fieldLink RX1 26 "TwinWrites$Frame" "asked" "I"] ++ wsX10)
def wsX1_fill : List Cond := .code yX1_fill cX1_fill 4 none :: ([.fieldLink RX1 9 "TwinWrites$Frame" "words" "[I", .fieldLink RX1 29 "TwinWrites$Place" "words" "[I", .fieldLink RX1 15 "TwinWrites$Frame" "page" "I", .fieldLink RX1 32 "TwinWrites$Place" "stamps" "[I", .fieldLink RX1 19 "TwinWrites$Frame" "stamp" "I", .fieldLink RX1 22 "TwinWrites$Frame" "dirty" "Z"] ++ wsX10 ++ wsX20)
def wsX1_changeWord : List Cond := .code yX1_changeWord cX1_changeWord 4 none :: ([.fieldLink RX1 9 "TwinWrites$Frame" "words" "[I", .fieldLink RX1 19 "TwinWrites$Frame" "stamp" "I", .fieldLink RX1 22 "TwinWrites$Frame" "dirty" "Z"] ++ wsX10)
def wsX1_value : List Cond := .code yX1_value cX1_value 2 (some .int) :: ([.fieldLink RX1 15 "TwinWrites$Frame" "page" "I", .fieldLink RX1 19 "TwinWrites$Frame" "stamp" "I", .fieldLink RX1 22 "TwinWrites$Frame" "dirty" "Z", .fieldLink RX1 9 "TwinWrites$Frame" "words" "[I"] ++ wsX10)
def wsX2_init : List Cond := .code yX2_init cX2_init 3 none :: ([.methodLink RX2 3 objectInit, .instanceMethod objectInit, .code objectInit ⟨#[0xb1]⟩ 1 none, .arrayClass .int, .fieldLink RX2 9 "TwinWrites$Place" "words" "[I", .fieldLink RX2 15 "TwinWrites$Place" "stamps" "[I", .fieldLink RX2 18 "TwinWrites$Place" "pages" "[I"] ++ wsX20)
def wsX2_putSector : List Cond := .code yX2_putSector cX2_putSector 7 none :: ([.fieldLink RX2 9 "TwinWrites$Place" "words" "[I", .fieldLink RX2 15 "TwinWrites$Place" "stamps" "[I", .fieldLink RX2 18 "TwinWrites$Place" "pages" "[I"] ++ wsX20)
def wsX2_isWhole : List Cond := .code yX2_isWhole cX2_isWhole 2 (some .boolean) :: ([.fieldLink RX2 15 "TwinWrites$Place" "stamps" "[I", .fieldLink RX2 18 "TwinWrites$Place" "pages" "[I"] ++ wsX20)
def wsX2_value : List Cond := .code yX2_value cX2_value 2 (some .int) :: ([.fieldLink RX2 9 "TwinWrites$Place" "words" "[I", .fieldLink RX2 15 "TwinWrites$Place" "stamps" "[I", .fieldLink RX2 18 "TwinWrites$Place" "pages" "[I"] ++ wsX20)
def wsX3_init_r1 : List Cond := [Cond.methodLink RX3 3 objectInit, Cond.instanceMethod objectInit, Cond.code objectInit ⟨#[0xb1]⟩ 1 none, Cond.classLink RX3 9 RX2, Cond.fieldLink RX3 11 "TwinWrites" "homes" "[LTwinWrites$Place;", Cond.fieldLink RX3 15 "TwinWrites" "slots" "[LTwinWrites$Place;", Cond.classLink RX3 18 RX0, Cond.fieldLink RX3 20 "TwinWrites" "log" "[LTwinWrites$Change;", Cond.fieldLink RX3 24 "TwinWrites" "mark" "I", Cond.fieldLink RX3 28 "TwinWrites" "sectorsLeft" "I", Cond.fieldLink RX3 31 "TwinWrites" "down" "Z", Cond.fieldLink RX3 35 "TwinWrites" "sectorsWritten" "I", Cond.fieldLink RX3 38 "TwinWrites" "pagesCleaned" "I", Cond.fieldLink RX3 41 "TwinWrites" "pagesMended" "I", Cond.classLink RX3 44 RX1, Cond.fieldLink RX3 46 "TwinWrites" "frames" "[LTwinWrites$Frame;", Cond.fieldLink RX3 50 "TwinWrites" "waiting" "[LTwinWrites$Change;", Cond.fieldLink RX3 53 "TwinWrites" "waitingCount" "I", Cond.fieldLink RX3 56 "TwinWrites" "nextNumber" "I", Cond.fieldLink RX3 59 "TwinWrites" "askings" "I", Cond.fieldLink RX3 62 "TwinWrites" "wordGot" "I", Cond.instantiable RX2 3, Cond.initialized RX2, Cond.instantiable RX0 4]
def wsX3_init_r2 : List Cond := [Cond.initialized RX0, Cond.instantiable RX1 5, Cond.initialized RX1, Cond.methodLink RX3 65 yX2_init, Cond.instanceMethod yX2_init, Cond.code yX2_init cX2_init 3 none, Cond.methodLink RX2 3 objectInit, Cond.arrayClass .int, Cond.fieldLink RX2 9 "TwinWrites$Place" "words" "[I", Cond.fieldLink RX2 15 "TwinWrites$Place" "stamps" "[I", Cond.fieldLink RX2 18 "TwinWrites$Place" "pages" "[I", Cond.instanceMethod yX0_init, Cond.code yX0_init cX0_init 1 none, Cond.methodLink RX0 1 objectInit, Cond.fieldLink RX0 7 "TwinWrites$Change" "number" "I", Cond.fieldLink RX0 13 "TwinWrites$Change" "page" "I", Cond.fieldLink RX0 16 "TwinWrites$Change" "at" "I", Cond.fieldLink RX0 19 "TwinWrites$Change" "word" "I", Cond.instanceMethod yX1_init, Cond.code yX1_init cX1_init 1 none, Cond.methodLink RX1 3 objectInit, Cond.fieldLink RX1 9 "TwinWrites$Frame" "words" "[I", Cond.fieldLink RX1 15 "TwinWrites$Frame" "page" "I", Cond.fieldLink RX1 19 "TwinWrites$Frame" "stamp" "I"]
def wsX3_init_r3 : List Cond := [Cond.fieldLink RX1 22 "TwinWrites$Frame" "dirty" "Z", Cond.fieldLink RX1 26 "TwinWrites$Frame" "asked" "I"]
def wsX3_init : List Cond := .code yX3_init cX3_init 2 none :: ((wsX3_init_r1 ++ (wsX3_init_r2 ++ wsX3_init_r3)) ++ wsX30 ++ wsX20 ++ wsX00 ++ wsX10)
def wsX3_isIn : List Cond := .code yX3_isIn cX3_isIn 2 (some .boolean) :: ([])
def wsX3_room : List Cond := .code yX3_room cX3_room 1 (some .int) :: ([.fieldLink RX3 24 "TwinWrites" "mark" "I", .fieldLink RX3 56 "TwinWrites" "nextNumber" "I"] ++ wsX30)
def wsX3_powerHolds : List Cond := .code yX3_powerHolds cX3_powerHolds 1 (some .boolean) :: ([.fieldLink RX3 28 "TwinWrites" "sectorsLeft" "I", .fieldLink RX3 35 "TwinWrites" "sectorsWritten" "I"] ++ wsX30)
def wsJ9_floorMod_7cf53 : List Cond := .code yJ9_floorMod_7cf53 cJ9_floorMod_7cf53 3 (some .int) :: ([])
def wsX3_logWaiting_r1 : List Cond := [Cond.fieldLink RX3 53 "TwinWrites" "waitingCount" "I", Cond.fieldLink RX3 56 "TwinWrites" "nextNumber" "I", Cond.fieldLink RX3 20 "TwinWrites" "log" "[LTwinWrites$Change;", Cond.fieldLink RX3 50 "TwinWrites" "waiting" "[LTwinWrites$Change;", Cond.methodLink RX3 158 yX3_powerHolds, Cond.instanceMethod yX3_powerHolds, Cond.selects RX3 yX3_powerHolds yX3_powerHolds, Cond.initialized RX3, Cond.code yX3_powerHolds cX3_powerHolds 1 (some .boolean), Cond.fieldLink RX3 28 "TwinWrites" "sectorsLeft" "I", Cond.fieldLink RX3 35 "TwinWrites" "sectorsWritten" "I", Cond.methodLink RX3 161 yJ9_floorMod_7cf53, Cond.static yJ9_floorMod_7cf53, Cond.initialized RJ9, Cond.code yJ9_floorMod_7cf53 cJ9_floorMod_7cf53 3 (some .int), Cond.methodLink RX3 166 yX0_copy, Cond.instanceMethod yX0_copy, Cond.selects RX0 yX0_copy yX0_copy, Cond.initialized RX0, Cond.code yX0_copy cX0_copy 2 none, Cond.fieldLink RX0 7 "TwinWrites$Change" "number" "I", Cond.fieldLink RX0 13 "TwinWrites$Change" "page" "I", Cond.fieldLink RX0 16 "TwinWrites$Change" "at" "I", Cond.fieldLink RX0 19 "TwinWrites$Change" "word" "I"]
def wsX3_logWaiting_r2 : List Cond := [Cond.methodLink RX0 22 yX0_set, Cond.instanceMethod yX0_set, Cond.selects RX0 yX0_set yX0_set, Cond.code yX0_set cX0_set 5 none]
def wsX3_logWaiting : List Cond := .code yX3_logWaiting cX3_logWaiting 5 (some .int) :: ((wsX3_logWaiting_r1 ++ wsX3_logWaiting_r2) ++ wsX30 ++ wsX00)
def wsX3_writePage : List Cond := .code yX3_writePage cX3_writePage 6 (some .boolean) :: ([.methodLink RX3 158 yX3_powerHolds, .instanceMethod yX3_powerHolds, .selects RX3 yX3_powerHolds yX3_powerHolds, .initialized RX3, .code yX3_powerHolds cX3_powerHolds 1 (some .boolean), .fieldLink RX3 28 "TwinWrites" "sectorsLeft" "I", .fieldLink RX3 35 "TwinWrites" "sectorsWritten" "I", .methodLink RX3 170 yX2_putSector, .instanceMethod yX2_putSector, .selects RX2 yX2_putSector yX2_putSector, .initialized RX2, .code yX2_putSector cX2_putSector 7 none, .fieldLink RX2 9 "TwinWrites$Place" "words" "[I", .fieldLink RX2 15 "TwinWrites$Place" "stamps" "[I", .fieldLink RX2 18 "TwinWrites$Place" "pages" "[I"] ++ wsX30 ++ wsX20)
def wsX3_writeDirtyHome_r1 : List Cond := [Cond.fieldLink RX3 46 "TwinWrites" "frames" "[LTwinWrites$Frame;", Cond.fieldLink RX3 174 "TwinWrites$Frame" "dirty" "Z", Cond.fieldLink RX3 11 "TwinWrites" "homes" "[LTwinWrites$Place;", Cond.fieldLink RX3 177 "TwinWrites$Frame" "page" "I", Cond.fieldLink RX3 180 "TwinWrites$Frame" "stamp" "I", Cond.fieldLink RX3 106 "TwinWrites$Frame" "words" "[I", Cond.methodLink RX3 183 yX3_writePage, Cond.instanceMethod yX3_writePage, Cond.selects RX3 yX3_writePage yX3_writePage, Cond.initialized RX3, Cond.code yX3_writePage cX3_writePage 6 (some .boolean), Cond.methodLink RX3 158 yX3_powerHolds, Cond.instanceMethod yX3_powerHolds, Cond.selects RX3 yX3_powerHolds yX3_powerHolds, Cond.code yX3_powerHolds cX3_powerHolds 1 (some .boolean), Cond.fieldLink RX3 28 "TwinWrites" "sectorsLeft" "I", Cond.fieldLink RX3 35 "TwinWrites" "sectorsWritten" "I", Cond.methodLink RX3 170 yX2_putSector, Cond.instanceMethod yX2_putSector, Cond.selects RX2 yX2_putSector yX2_putSector, Cond.initialized RX2, Cond.code yX2_putSector cX2_putSector 7 none, Cond.fieldLink RX2 9 "TwinWrites$Place" "words" "[I", Cond.fieldLink RX2 15 "TwinWrites$Place" "stamps" "[I"]
def wsX3_writeDirtyHome_r2 : List Cond := [Cond.fieldLink RX2 18 "TwinWrites$Place" "pages" "[I"]
def wsX3_writeDirtyHome : List Cond := .code yX3_writeDirtyHome cX3_writeDirtyHome 5 (some .boolean) :: ((wsX3_writeDirtyHome_r1 ++ wsX3_writeDirtyHome_r2) ++ wsX30 ++ wsX10 ++ wsX20)
def wsX3_cleanDirty_r1 : List Cond := [Cond.fieldLink RX3 46 "TwinWrites" "frames" "[LTwinWrites$Frame;", Cond.fieldLink RX3 174 "TwinWrites$Frame" "dirty" "Z", Cond.fieldLink RX3 15 "TwinWrites" "slots" "[LTwinWrites$Place;", Cond.fieldLink RX3 177 "TwinWrites$Frame" "page" "I", Cond.fieldLink RX3 180 "TwinWrites$Frame" "stamp" "I", Cond.fieldLink RX3 106 "TwinWrites$Frame" "words" "[I", Cond.fieldLink RX3 38 "TwinWrites" "pagesCleaned" "I", Cond.methodLink RX3 110 yX3_logWaiting, Cond.instanceMethod yX3_logWaiting, Cond.selects RX3 yX3_logWaiting yX3_logWaiting, Cond.initialized RX3, Cond.code yX3_logWaiting cX3_logWaiting 5 (some .int), Cond.fieldLink RX3 53 "TwinWrites" "waitingCount" "I", Cond.fieldLink RX3 56 "TwinWrites" "nextNumber" "I", Cond.fieldLink RX3 20 "TwinWrites" "log" "[LTwinWrites$Change;", Cond.fieldLink RX3 50 "TwinWrites" "waiting" "[LTwinWrites$Change;", Cond.methodLink RX3 158 yX3_powerHolds, Cond.instanceMethod yX3_powerHolds, Cond.selects RX3 yX3_powerHolds yX3_powerHolds, Cond.code yX3_powerHolds cX3_powerHolds 1 (some .boolean), Cond.fieldLink RX3 28 "TwinWrites" "sectorsLeft" "I", Cond.fieldLink RX3 35 "TwinWrites" "sectorsWritten" "I", Cond.methodLink RX3 161 yJ9_floorMod_7cf53, Cond.static yJ9_floorMod_7cf53]
def wsX3_cleanDirty_r2 : List Cond := [Cond.initialized RJ9, Cond.code yJ9_floorMod_7cf53 cJ9_floorMod_7cf53 3 (some .int), Cond.methodLink RX3 166 yX0_copy, Cond.instanceMethod yX0_copy, Cond.selects RX0 yX0_copy yX0_copy, Cond.initialized RX0, Cond.code yX0_copy cX0_copy 2 none, Cond.fieldLink RX0 7 "TwinWrites$Change" "number" "I", Cond.fieldLink RX0 13 "TwinWrites$Change" "page" "I", Cond.fieldLink RX0 16 "TwinWrites$Change" "at" "I", Cond.fieldLink RX0 19 "TwinWrites$Change" "word" "I", Cond.methodLink RX0 22 yX0_set, Cond.instanceMethod yX0_set, Cond.selects RX0 yX0_set yX0_set, Cond.code yX0_set cX0_set 5 none, Cond.methodLink RX3 183 yX3_writePage, Cond.instanceMethod yX3_writePage, Cond.selects RX3 yX3_writePage yX3_writePage, Cond.code yX3_writePage cX3_writePage 6 (some .boolean), Cond.methodLink RX3 170 yX2_putSector, Cond.instanceMethod yX2_putSector, Cond.selects RX2 yX2_putSector yX2_putSector, Cond.initialized RX2, Cond.code yX2_putSector cX2_putSector 7 none]
def wsX3_cleanDirty_r3 : List Cond := [Cond.fieldLink RX2 9 "TwinWrites$Place" "words" "[I", Cond.fieldLink RX2 15 "TwinWrites$Place" "stamps" "[I", Cond.fieldLink RX2 18 "TwinWrites$Place" "pages" "[I", Cond.methodLink RX3 187 yX3_writeDirtyHome, Cond.instanceMethod yX3_writeDirtyHome, Cond.selects RX3 yX3_writeDirtyHome yX3_writeDirtyHome, Cond.code yX3_writeDirtyHome cX3_writeDirtyHome 5 (some .boolean), Cond.fieldLink RX3 11 "TwinWrites" "homes" "[LTwinWrites$Place;"]
def wsX3_cleanDirty : List Cond := .code yX3_cleanDirty cX3_cleanDirty 6 (some .int) :: ((wsX3_cleanDirty_r1 ++ (wsX3_cleanDirty_r2 ++ wsX3_cleanDirty_r3)) ++ wsX30 ++ wsX10 ++ wsX00 ++ wsX20)
def wsX3_cleanAllAndMark_r1 : List Cond := [Cond.fieldLink RX3 56 "TwinWrites" "nextNumber" "I", Cond.fieldLink RX3 24 "TwinWrites" "mark" "I", Cond.methodLink RX3 190 yX3_cleanDirty, Cond.instanceMethod yX3_cleanDirty, Cond.selects RX3 yX3_cleanDirty yX3_cleanDirty, Cond.initialized RX3, Cond.code yX3_cleanDirty cX3_cleanDirty 6 (some .int), Cond.fieldLink RX3 46 "TwinWrites" "frames" "[LTwinWrites$Frame;", Cond.fieldLink RX3 174 "TwinWrites$Frame" "dirty" "Z", Cond.fieldLink RX3 15 "TwinWrites" "slots" "[LTwinWrites$Place;", Cond.fieldLink RX3 177 "TwinWrites$Frame" "page" "I", Cond.fieldLink RX3 180 "TwinWrites$Frame" "stamp" "I", Cond.fieldLink RX3 106 "TwinWrites$Frame" "words" "[I", Cond.fieldLink RX3 38 "TwinWrites" "pagesCleaned" "I", Cond.methodLink RX3 110 yX3_logWaiting, Cond.instanceMethod yX3_logWaiting, Cond.selects RX3 yX3_logWaiting yX3_logWaiting, Cond.code yX3_logWaiting cX3_logWaiting 5 (some .int), Cond.fieldLink RX3 53 "TwinWrites" "waitingCount" "I", Cond.fieldLink RX3 20 "TwinWrites" "log" "[LTwinWrites$Change;", Cond.fieldLink RX3 50 "TwinWrites" "waiting" "[LTwinWrites$Change;", Cond.methodLink RX3 158 yX3_powerHolds, Cond.instanceMethod yX3_powerHolds, Cond.selects RX3 yX3_powerHolds yX3_powerHolds]
def wsX3_cleanAllAndMark_r2 : List Cond := [Cond.code yX3_powerHolds cX3_powerHolds 1 (some .boolean), Cond.fieldLink RX3 28 "TwinWrites" "sectorsLeft" "I", Cond.fieldLink RX3 35 "TwinWrites" "sectorsWritten" "I", Cond.methodLink RX3 161 yJ9_floorMod_7cf53, Cond.static yJ9_floorMod_7cf53, Cond.initialized RJ9, Cond.code yJ9_floorMod_7cf53 cJ9_floorMod_7cf53 3 (some .int), Cond.methodLink RX3 166 yX0_copy, Cond.instanceMethod yX0_copy, Cond.selects RX0 yX0_copy yX0_copy, Cond.initialized RX0, Cond.code yX0_copy cX0_copy 2 none, Cond.fieldLink RX0 7 "TwinWrites$Change" "number" "I", Cond.fieldLink RX0 13 "TwinWrites$Change" "page" "I", Cond.fieldLink RX0 16 "TwinWrites$Change" "at" "I", Cond.fieldLink RX0 19 "TwinWrites$Change" "word" "I", Cond.methodLink RX0 22 yX0_set, Cond.instanceMethod yX0_set, Cond.selects RX0 yX0_set yX0_set, Cond.code yX0_set cX0_set 5 none, Cond.methodLink RX3 183 yX3_writePage, Cond.instanceMethod yX3_writePage, Cond.selects RX3 yX3_writePage yX3_writePage, Cond.code yX3_writePage cX3_writePage 6 (some .boolean)]
def wsX3_cleanAllAndMark_r3 : List Cond := [Cond.methodLink RX3 170 yX2_putSector, Cond.instanceMethod yX2_putSector, Cond.selects RX2 yX2_putSector yX2_putSector, Cond.initialized RX2, Cond.code yX2_putSector cX2_putSector 7 none, Cond.fieldLink RX2 9 "TwinWrites$Place" "words" "[I", Cond.fieldLink RX2 15 "TwinWrites$Place" "stamps" "[I", Cond.fieldLink RX2 18 "TwinWrites$Place" "pages" "[I", Cond.methodLink RX3 187 yX3_writeDirtyHome, Cond.instanceMethod yX3_writeDirtyHome, Cond.selects RX3 yX3_writeDirtyHome yX3_writeDirtyHome, Cond.code yX3_writeDirtyHome cX3_writeDirtyHome 5 (some .boolean), Cond.fieldLink RX3 11 "TwinWrites" "homes" "[LTwinWrites$Place;"]
def wsX3_cleanAllAndMark : List Cond := .code yX3_cleanAllAndMark cX3_cleanAllAndMark 2 (some .int) :: ((wsX3_cleanAllAndMark_r1 ++ (wsX3_cleanAllAndMark_r2 ++ wsX3_cleanAllAndMark_r3)) ++ wsX30 ++ wsX10 ++ wsX00 ++ wsX20)
def wsX3_goDown : List Cond := .code yX3_goDown cX3_goDown 2 none :: ([.fieldLink RX3 46 "TwinWrites" "frames" "[LTwinWrites$Frame;", .fieldLink RX3 53 "TwinWrites" "waitingCount" "I", .fieldLink RX3 28 "TwinWrites" "sectorsLeft" "I", .fieldLink RX3 31 "TwinWrites" "down" "Z", .methodLink RX3 155 yX1_empty, .instanceMethod yX1_empty, .selects RX1 yX1_empty yX1_empty, .initialized RX1, .code yX1_empty cX1_empty 2 none, .fieldLink RX1 9 "TwinWrites$Frame" "words" "[I", .fieldLink RX1 15 "TwinWrites$Frame" "page" "I", .fieldLink RX1 19 "TwinWrites$Frame" "stamp" "I", .fieldLink RX1 22 "TwinWrites$Frame" "dirty" "Z", .fieldLink RX1 26 "TwinWrites$Frame" "asked" "I"] ++ wsX30 ++ wsX10)
def wsX3_lose : List Cond := .code yX3_lose cX3_lose 1 (some .int) :: ([.methodLink RX3 124 yX3_goDown, .instanceMethod yX3_goDown, .selects RX3 yX3_goDown yX3_goDown, .initialized RX3, .code yX3_goDown cX3_goDown 2 none, .fieldLink RX3 46 "TwinWrites" "frames" "[LTwinWrites$Frame;", .fieldLink RX3 53 "TwinWrites" "waitingCount" "I", .fieldLink RX3 28 "TwinWrites" "sectorsLeft" "I", .fieldLink RX3 31 "TwinWrites" "down" "Z", .methodLink RX3 155 yX1_empty, .instanceMethod yX1_empty, .selects RX1 yX1_empty yX1_empty, .initialized RX1, .code yX1_empty cX1_empty 2 none, .fieldLink RX1 9 "TwinWrites$Frame" "words" "[I", .fieldLink RX1 15 "TwinWrites$Frame" "page" "I", .fieldLink RX1 19 "TwinWrites$Frame" "stamp" "I", .fieldLink RX1 22 "TwinWrites$Frame" "dirty" "Z", .fieldLink RX1 26 "TwinWrites$Frame" "asked" "I"] ++ wsX30 ++ wsX10)
def wsX3_frameOf : List Cond := .code yX3_frameOf cX3_frameOf 3 (some .int) :: ([.fieldLink RX3 46 "TwinWrites" "frames" "[LTwinWrites$Frame;", .fieldLink RX3 177 "TwinWrites$Frame" "page" "I"] ++ wsX30 ++ wsX10)
def wsX3_frameToFill : List Cond := .code yX3_frameToFill cX3_frameToFill 3 (some .int) :: ([.fieldLink RX3 46 "TwinWrites" "frames" "[LTwinWrites$Frame;", .fieldLink RX3 203 "TwinWrites$Frame" "asked" "I"] ++ wsX30 ++ wsX10)
def wsX3_bring_r1 : List Cond := [Cond.fieldLink RX3 46 "TwinWrites" "frames" "[LTwinWrites$Frame;", Cond.fieldLink RX3 174 "TwinWrites$Frame" "dirty" "Z", Cond.fieldLink RX3 11 "TwinWrites" "homes" "[LTwinWrites$Place;", Cond.fieldLink RX3 59 "TwinWrites" "askings" "I", Cond.fieldLink RX3 203 "TwinWrites$Frame" "asked" "I", Cond.methodLink RX3 193 yX3_frameOf, Cond.instanceMethod yX3_frameOf, Cond.selects RX3 yX3_frameOf yX3_frameOf, Cond.initialized RX3, Cond.code yX3_frameOf cX3_frameOf 3 (some .int), Cond.fieldLink RX3 177 "TwinWrites$Frame" "page" "I", Cond.methodLink RX3 196 yX3_frameToFill, Cond.instanceMethod yX3_frameToFill, Cond.selects RX3 yX3_frameToFill yX3_frameToFill, Cond.code yX3_frameToFill cX3_frameToFill 3 (some .int), Cond.methodLink RX3 190 yX3_cleanDirty, Cond.instanceMethod yX3_cleanDirty, Cond.selects RX3 yX3_cleanDirty yX3_cleanDirty, Cond.code yX3_cleanDirty cX3_cleanDirty 6 (some .int), Cond.fieldLink RX3 15 "TwinWrites" "slots" "[LTwinWrites$Place;", Cond.fieldLink RX3 180 "TwinWrites$Frame" "stamp" "I", Cond.fieldLink RX3 106 "TwinWrites$Frame" "words" "[I", Cond.fieldLink RX3 38 "TwinWrites" "pagesCleaned" "I", Cond.methodLink RX3 110 yX3_logWaiting]
def wsX3_bring_r2 : List Cond := [Cond.instanceMethod yX3_logWaiting, Cond.selects RX3 yX3_logWaiting yX3_logWaiting, Cond.code yX3_logWaiting cX3_logWaiting 5 (some .int), Cond.fieldLink RX3 53 "TwinWrites" "waitingCount" "I", Cond.fieldLink RX3 56 "TwinWrites" "nextNumber" "I", Cond.fieldLink RX3 20 "TwinWrites" "log" "[LTwinWrites$Change;", Cond.fieldLink RX3 50 "TwinWrites" "waiting" "[LTwinWrites$Change;", Cond.methodLink RX3 158 yX3_powerHolds, Cond.instanceMethod yX3_powerHolds, Cond.selects RX3 yX3_powerHolds yX3_powerHolds, Cond.code yX3_powerHolds cX3_powerHolds 1 (some .boolean), Cond.fieldLink RX3 28 "TwinWrites" "sectorsLeft" "I", Cond.fieldLink RX3 35 "TwinWrites" "sectorsWritten" "I", Cond.methodLink RX3 161 yJ9_floorMod_7cf53, Cond.static yJ9_floorMod_7cf53, Cond.initialized RJ9, Cond.code yJ9_floorMod_7cf53 cJ9_floorMod_7cf53 3 (some .int), Cond.methodLink RX3 166 yX0_copy, Cond.instanceMethod yX0_copy, Cond.selects RX0 yX0_copy yX0_copy, Cond.initialized RX0, Cond.code yX0_copy cX0_copy 2 none, Cond.fieldLink RX0 7 "TwinWrites$Change" "number" "I", Cond.fieldLink RX0 13 "TwinWrites$Change" "page" "I"]
def wsX3_bring_r3 : List Cond := [Cond.fieldLink RX0 16 "TwinWrites$Change" "at" "I", Cond.fieldLink RX0 19 "TwinWrites$Change" "word" "I", Cond.methodLink RX0 22 yX0_set, Cond.instanceMethod yX0_set, Cond.selects RX0 yX0_set yX0_set, Cond.code yX0_set cX0_set 5 none, Cond.methodLink RX3 183 yX3_writePage, Cond.instanceMethod yX3_writePage, Cond.selects RX3 yX3_writePage yX3_writePage, Cond.code yX3_writePage cX3_writePage 6 (some .boolean), Cond.methodLink RX3 170 yX2_putSector, Cond.instanceMethod yX2_putSector, Cond.selects RX2 yX2_putSector yX2_putSector, Cond.initialized RX2, Cond.code yX2_putSector cX2_putSector 7 none, Cond.fieldLink RX2 9 "TwinWrites$Place" "words" "[I", Cond.fieldLink RX2 15 "TwinWrites$Place" "stamps" "[I", Cond.fieldLink RX2 18 "TwinWrites$Place" "pages" "[I", Cond.methodLink RX3 187 yX3_writeDirtyHome, Cond.instanceMethod yX3_writeDirtyHome, Cond.selects RX3 yX3_writeDirtyHome yX3_writeDirtyHome, Cond.code yX3_writeDirtyHome cX3_writeDirtyHome 5 (some .boolean), Cond.methodLink RX3 199 yX1_fill, Cond.instanceMethod yX1_fill]
def wsX3_bring_r4 : List Cond := [Cond.selects RX1 yX1_fill yX1_fill, Cond.initialized RX1, Cond.code yX1_fill cX1_fill 4 none, Cond.fieldLink RX1 9 "TwinWrites$Frame" "words" "[I", Cond.fieldLink RX1 29 "TwinWrites$Place" "words" "[I", Cond.fieldLink RX1 15 "TwinWrites$Frame" "page" "I", Cond.fieldLink RX1 32 "TwinWrites$Place" "stamps" "[I", Cond.fieldLink RX1 19 "TwinWrites$Frame" "stamp" "I", Cond.fieldLink RX1 22 "TwinWrites$Frame" "dirty" "Z"]
def wsX3_bring : List Cond := .code yX3_bring cX3_bring 3 (some .int) :: ((wsX3_bring_r1 ++ (wsX3_bring_r2 ++ (wsX3_bring_r3 ++ wsX3_bring_r4))) ++ wsX30 ++ wsX10 ++ wsX00 ++ wsX20)
def wsX3_changeWords_r1 : List Cond := [Cond.fieldLink RX3 50 "TwinWrites" "waiting" "[LTwinWrites$Change;", Cond.fieldLink RX3 56 "TwinWrites" "nextNumber" "I", Cond.fieldLink RX3 177 "TwinWrites$Frame" "page" "I", Cond.fieldLink RX3 53 "TwinWrites" "waitingCount" "I", Cond.methodLink RX3 161 yJ9_floorMod_7cf53, Cond.static yJ9_floorMod_7cf53, Cond.initialized RJ9, Cond.code yJ9_floorMod_7cf53 cJ9_floorMod_7cf53 3 (some .int), Cond.methodLink RX3 206 yX0_set, Cond.instanceMethod yX0_set, Cond.selects RX0 yX0_set yX0_set, Cond.initialized RX0, Cond.code yX0_set cX0_set 5 none, Cond.fieldLink RX0 7 "TwinWrites$Change" "number" "I", Cond.fieldLink RX0 13 "TwinWrites$Change" "page" "I", Cond.fieldLink RX0 16 "TwinWrites$Change" "at" "I", Cond.fieldLink RX0 19 "TwinWrites$Change" "word" "I", Cond.methodLink RX3 210 yX1_changeWord, Cond.instanceMethod yX1_changeWord, Cond.selects RX1 yX1_changeWord yX1_changeWord, Cond.initialized RX1, Cond.code yX1_changeWord cX1_changeWord 4 none, Cond.fieldLink RX1 9 "TwinWrites$Frame" "words" "[I", Cond.fieldLink RX1 19 "TwinWrites$Frame" "stamp" "I"]
def wsX3_changeWords_r2 : List Cond := [Cond.fieldLink RX1 22 "TwinWrites$Frame" "dirty" "Z"]
def wsX3_changeWords : List Cond := .code yX3_changeWords cX3_changeWords 8 none :: ((wsX3_changeWords_r1 ++ wsX3_changeWords_r2) ++ wsX30 ++ wsX10 ++ wsX00)
def wsX3_change_r1 : List Cond := [Cond.classLink RX3 74 "java/lang/IndexOutOfBoundsException", Cond.initialized "java/lang/IndexOutOfBoundsException", Cond.classLink RX3 83 "java/lang/IllegalStateException", Cond.initialized "java/lang/IllegalStateException", Cond.fieldLink RX3 31 "TwinWrites" "down" "Z", Cond.fieldLink RX3 46 "TwinWrites" "frames" "[LTwinWrites$Frame;", Cond.fieldLink RX3 56 "TwinWrites" "nextNumber" "I", Cond.methodLink RX3 70 yX3_isIn, Cond.static yX3_isIn, Cond.initialized RX3, Cond.code yX3_isIn cX3_isIn 2 (some .boolean), Cond.methodLink RX3 88 yX3_room, Cond.instanceMethod yX3_room, Cond.selects RX3 yX3_room yX3_room, Cond.code yX3_room cX3_room 1 (some .int), Cond.fieldLink RX3 24 "TwinWrites" "mark" "I", Cond.methodLink RX3 92 yX3_cleanAllAndMark, Cond.instanceMethod yX3_cleanAllAndMark, Cond.selects RX3 yX3_cleanAllAndMark yX3_cleanAllAndMark, Cond.code yX3_cleanAllAndMark cX3_cleanAllAndMark 2 (some .int), Cond.methodLink RX3 190 yX3_cleanDirty, Cond.instanceMethod yX3_cleanDirty, Cond.selects RX3 yX3_cleanDirty yX3_cleanDirty, Cond.code yX3_cleanDirty cX3_cleanDirty 6 (some .int)]
def wsX3_change_r2 : List Cond := [Cond.fieldLink RX3 174 "TwinWrites$Frame" "dirty" "Z", Cond.fieldLink RX3 15 "TwinWrites" "slots" "[LTwinWrites$Place;", Cond.fieldLink RX3 177 "TwinWrites$Frame" "page" "I", Cond.fieldLink RX3 180 "TwinWrites$Frame" "stamp" "I", Cond.fieldLink RX3 106 "TwinWrites$Frame" "words" "[I", Cond.fieldLink RX3 38 "TwinWrites" "pagesCleaned" "I", Cond.methodLink RX3 110 yX3_logWaiting, Cond.instanceMethod yX3_logWaiting, Cond.selects RX3 yX3_logWaiting yX3_logWaiting, Cond.code yX3_logWaiting cX3_logWaiting 5 (some .int), Cond.fieldLink RX3 53 "TwinWrites" "waitingCount" "I", Cond.fieldLink RX3 20 "TwinWrites" "log" "[LTwinWrites$Change;", Cond.fieldLink RX3 50 "TwinWrites" "waiting" "[LTwinWrites$Change;", Cond.methodLink RX3 158 yX3_powerHolds, Cond.instanceMethod yX3_powerHolds, Cond.selects RX3 yX3_powerHolds yX3_powerHolds, Cond.code yX3_powerHolds cX3_powerHolds 1 (some .boolean), Cond.fieldLink RX3 28 "TwinWrites" "sectorsLeft" "I", Cond.fieldLink RX3 35 "TwinWrites" "sectorsWritten" "I", Cond.methodLink RX3 161 yJ9_floorMod_7cf53, Cond.static yJ9_floorMod_7cf53, Cond.initialized RJ9, Cond.code yJ9_floorMod_7cf53 cJ9_floorMod_7cf53 3 (some .int), Cond.methodLink RX3 166 yX0_copy]
def wsX3_change_r3 : List Cond := [Cond.instanceMethod yX0_copy, Cond.selects RX0 yX0_copy yX0_copy, Cond.initialized RX0, Cond.code yX0_copy cX0_copy 2 none, Cond.fieldLink RX0 7 "TwinWrites$Change" "number" "I", Cond.fieldLink RX0 13 "TwinWrites$Change" "page" "I", Cond.fieldLink RX0 16 "TwinWrites$Change" "at" "I", Cond.fieldLink RX0 19 "TwinWrites$Change" "word" "I", Cond.methodLink RX0 22 yX0_set, Cond.instanceMethod yX0_set, Cond.selects RX0 yX0_set yX0_set, Cond.code yX0_set cX0_set 5 none, Cond.methodLink RX3 183 yX3_writePage, Cond.instanceMethod yX3_writePage, Cond.selects RX3 yX3_writePage yX3_writePage, Cond.code yX3_writePage cX3_writePage 6 (some .boolean), Cond.methodLink RX3 170 yX2_putSector, Cond.instanceMethod yX2_putSector, Cond.selects RX2 yX2_putSector yX2_putSector, Cond.initialized RX2, Cond.code yX2_putSector cX2_putSector 7 none, Cond.fieldLink RX2 9 "TwinWrites$Place" "words" "[I", Cond.fieldLink RX2 15 "TwinWrites$Place" "stamps" "[I", Cond.fieldLink RX2 18 "TwinWrites$Place" "pages" "[I"]
def wsX3_change_r4 : List Cond := [Cond.methodLink RX3 187 yX3_writeDirtyHome, Cond.instanceMethod yX3_writeDirtyHome, Cond.selects RX3 yX3_writeDirtyHome yX3_writeDirtyHome, Cond.code yX3_writeDirtyHome cX3_writeDirtyHome 5 (some .boolean), Cond.fieldLink RX3 11 "TwinWrites" "homes" "[LTwinWrites$Place;", Cond.methodLink RX3 95 yX3_lose, Cond.instanceMethod yX3_lose, Cond.selects RX3 yX3_lose yX3_lose, Cond.code yX3_lose cX3_lose 1 (some .int), Cond.methodLink RX3 124 yX3_goDown, Cond.instanceMethod yX3_goDown, Cond.selects RX3 yX3_goDown yX3_goDown, Cond.code yX3_goDown cX3_goDown 2 none, Cond.methodLink RX3 155 yX1_empty, Cond.instanceMethod yX1_empty, Cond.selects RX1 yX1_empty yX1_empty, Cond.initialized RX1, Cond.code yX1_empty cX1_empty 2 none, Cond.fieldLink RX1 9 "TwinWrites$Frame" "words" "[I", Cond.fieldLink RX1 15 "TwinWrites$Frame" "page" "I", Cond.fieldLink RX1 19 "TwinWrites$Frame" "stamp" "I", Cond.fieldLink RX1 22 "TwinWrites$Frame" "dirty" "Z", Cond.fieldLink RX1 26 "TwinWrites$Frame" "asked" "I", Cond.methodLink RX3 98 yX3_bring]
def wsX3_change_r5 : List Cond := [Cond.instanceMethod yX3_bring, Cond.selects RX3 yX3_bring yX3_bring, Cond.code yX3_bring cX3_bring 3 (some .int), Cond.fieldLink RX3 59 "TwinWrites" "askings" "I", Cond.fieldLink RX3 203 "TwinWrites$Frame" "asked" "I", Cond.methodLink RX3 193 yX3_frameOf, Cond.instanceMethod yX3_frameOf, Cond.selects RX3 yX3_frameOf yX3_frameOf, Cond.code yX3_frameOf cX3_frameOf 3 (some .int), Cond.methodLink RX3 196 yX3_frameToFill, Cond.instanceMethod yX3_frameToFill, Cond.selects RX3 yX3_frameToFill yX3_frameToFill, Cond.code yX3_frameToFill cX3_frameToFill 3 (some .int), Cond.methodLink RX3 199 yX1_fill, Cond.instanceMethod yX1_fill, Cond.selects RX1 yX1_fill yX1_fill, Cond.code yX1_fill cX1_fill 4 none, Cond.fieldLink RX1 29 "TwinWrites$Place" "words" "[I", Cond.fieldLink RX1 32 "TwinWrites$Place" "stamps" "[I", Cond.methodLink RX3 102 yX3_changeWords, Cond.instanceMethod yX3_changeWords, Cond.selects RX3 yX3_changeWords yX3_changeWords, Cond.code yX3_changeWords cX3_changeWords 8 none, Cond.methodLink RX3 206 yX0_set]
def wsX3_change_r6 : List Cond := [Cond.methodLink RX3 210 yX1_changeWord, Cond.instanceMethod yX1_changeWord, Cond.selects RX1 yX1_changeWord yX1_changeWord, Cond.code yX1_changeWord cX1_changeWord 4 none]
def wsX3_change : List Cond := .code yX3_change cX3_change 7 (some .int) :: ((wsX3_change_r1 ++ (wsX3_change_r2 ++ (wsX3_change_r3 ++ (wsX3_change_r4 ++ (wsX3_change_r5 ++ wsX3_change_r6))))) ++ wsX30 ++ wsX10 ++ wsX00 ++ wsX20 ++ (vx_atS RX3 78 "java/lang/IndexOutOfBoundsException" ["java/lang/RuntimeException", "java/lang/Exception"]).filter goodWord ++ (vx_atS RX3 87 "java/lang/IllegalStateException" ["java/lang/RuntimeException", "java/lang/Exception"]).filter goodWord)
def wsX3_read_r1 : List Cond := [Cond.classLink RX3 74 "java/lang/IndexOutOfBoundsException", Cond.initialized "java/lang/IndexOutOfBoundsException", Cond.classLink RX3 83 "java/lang/IllegalStateException", Cond.initialized "java/lang/IllegalStateException", Cond.fieldLink RX3 31 "TwinWrites" "down" "Z", Cond.fieldLink RX3 62 "TwinWrites" "wordGot" "I", Cond.fieldLink RX3 46 "TwinWrites" "frames" "[LTwinWrites$Frame;", Cond.fieldLink RX3 106 "TwinWrites$Frame" "words" "[I", Cond.methodLink RX3 70 yX3_isIn, Cond.static yX3_isIn, Cond.initialized RX3, Cond.code yX3_isIn cX3_isIn 2 (some .boolean), Cond.methodLink RX3 98 yX3_bring, Cond.instanceMethod yX3_bring, Cond.selects RX3 yX3_bring yX3_bring, Cond.code yX3_bring cX3_bring 3 (some .int), Cond.fieldLink RX3 174 "TwinWrites$Frame" "dirty" "Z", Cond.fieldLink RX3 11 "TwinWrites" "homes" "[LTwinWrites$Place;", Cond.fieldLink RX3 59 "TwinWrites" "askings" "I", Cond.fieldLink RX3 203 "TwinWrites$Frame" "asked" "I", Cond.methodLink RX3 193 yX3_frameOf, Cond.instanceMethod yX3_frameOf, Cond.selects RX3 yX3_frameOf yX3_frameOf, Cond.code yX3_frameOf cX3_frameOf 3 (some .int)]
def wsX3_read_r2 : List Cond := [Cond.fieldLink RX3 177 "TwinWrites$Frame" "page" "I", Cond.methodLink RX3 196 yX3_frameToFill, Cond.instanceMethod yX3_frameToFill, Cond.selects RX3 yX3_frameToFill yX3_frameToFill, Cond.code yX3_frameToFill cX3_frameToFill 3 (some .int), Cond.methodLink RX3 190 yX3_cleanDirty, Cond.instanceMethod yX3_cleanDirty, Cond.selects RX3 yX3_cleanDirty yX3_cleanDirty, Cond.code yX3_cleanDirty cX3_cleanDirty 6 (some .int), Cond.fieldLink RX3 15 "TwinWrites" "slots" "[LTwinWrites$Place;", Cond.fieldLink RX3 180 "TwinWrites$Frame" "stamp" "I", Cond.fieldLink RX3 38 "TwinWrites" "pagesCleaned" "I", Cond.methodLink RX3 110 yX3_logWaiting, Cond.instanceMethod yX3_logWaiting, Cond.selects RX3 yX3_logWaiting yX3_logWaiting, Cond.code yX3_logWaiting cX3_logWaiting 5 (some .int), Cond.fieldLink RX3 53 "TwinWrites" "waitingCount" "I", Cond.fieldLink RX3 56 "TwinWrites" "nextNumber" "I", Cond.fieldLink RX3 20 "TwinWrites" "log" "[LTwinWrites$Change;", Cond.fieldLink RX3 50 "TwinWrites" "waiting" "[LTwinWrites$Change;", Cond.methodLink RX3 158 yX3_powerHolds, Cond.instanceMethod yX3_powerHolds, Cond.selects RX3 yX3_powerHolds yX3_powerHolds, Cond.code yX3_powerHolds cX3_powerHolds 1 (some .boolean)]
def wsX3_read_r3 : List Cond := [Cond.fieldLink RX3 28 "TwinWrites" "sectorsLeft" "I", Cond.fieldLink RX3 35 "TwinWrites" "sectorsWritten" "I", Cond.methodLink RX3 161 yJ9_floorMod_7cf53, Cond.static yJ9_floorMod_7cf53, Cond.initialized RJ9, Cond.code yJ9_floorMod_7cf53 cJ9_floorMod_7cf53 3 (some .int), Cond.methodLink RX3 166 yX0_copy, Cond.instanceMethod yX0_copy, Cond.selects RX0 yX0_copy yX0_copy, Cond.initialized RX0, Cond.code yX0_copy cX0_copy 2 none, Cond.fieldLink RX0 7 "TwinWrites$Change" "number" "I", Cond.fieldLink RX0 13 "TwinWrites$Change" "page" "I", Cond.fieldLink RX0 16 "TwinWrites$Change" "at" "I", Cond.fieldLink RX0 19 "TwinWrites$Change" "word" "I", Cond.methodLink RX0 22 yX0_set, Cond.instanceMethod yX0_set, Cond.selects RX0 yX0_set yX0_set, Cond.code yX0_set cX0_set 5 none, Cond.methodLink RX3 183 yX3_writePage, Cond.instanceMethod yX3_writePage, Cond.selects RX3 yX3_writePage yX3_writePage, Cond.code yX3_writePage cX3_writePage 6 (some .boolean), Cond.methodLink RX3 170 yX2_putSector]
def wsX3_read_r4 : List Cond := [Cond.instanceMethod yX2_putSector, Cond.selects RX2 yX2_putSector yX2_putSector, Cond.initialized RX2, Cond.code yX2_putSector cX2_putSector 7 none, Cond.fieldLink RX2 9 "TwinWrites$Place" "words" "[I", Cond.fieldLink RX2 15 "TwinWrites$Place" "stamps" "[I", Cond.fieldLink RX2 18 "TwinWrites$Place" "pages" "[I", Cond.methodLink RX3 187 yX3_writeDirtyHome, Cond.instanceMethod yX3_writeDirtyHome, Cond.selects RX3 yX3_writeDirtyHome yX3_writeDirtyHome, Cond.code yX3_writeDirtyHome cX3_writeDirtyHome 5 (some .boolean), Cond.methodLink RX3 199 yX1_fill, Cond.instanceMethod yX1_fill, Cond.selects RX1 yX1_fill yX1_fill, Cond.initialized RX1, Cond.code yX1_fill cX1_fill 4 none, Cond.fieldLink RX1 9 "TwinWrites$Frame" "words" "[I", Cond.fieldLink RX1 29 "TwinWrites$Place" "words" "[I", Cond.fieldLink RX1 15 "TwinWrites$Frame" "page" "I", Cond.fieldLink RX1 32 "TwinWrites$Place" "stamps" "[I", Cond.fieldLink RX1 19 "TwinWrites$Frame" "stamp" "I", Cond.fieldLink RX1 22 "TwinWrites$Frame" "dirty" "Z", Cond.methodLink RX3 95 yX3_lose, Cond.instanceMethod yX3_lose]
def wsX3_read_r5 : List Cond := [Cond.selects RX3 yX3_lose yX3_lose, Cond.code yX3_lose cX3_lose 1 (some .int), Cond.methodLink RX3 124 yX3_goDown, Cond.instanceMethod yX3_goDown, Cond.selects RX3 yX3_goDown yX3_goDown, Cond.code yX3_goDown cX3_goDown 2 none, Cond.methodLink RX3 155 yX1_empty, Cond.instanceMethod yX1_empty, Cond.selects RX1 yX1_empty yX1_empty, Cond.code yX1_empty cX1_empty 2 none, Cond.fieldLink RX1 26 "TwinWrites$Frame" "asked" "I"]
def wsX3_read : List Cond := .code yX3_read cX3_read 4 (some .int) :: ((wsX3_read_r1 ++ (wsX3_read_r2 ++ (wsX3_read_r3 ++ (wsX3_read_r4 ++ wsX3_read_r5)))) ++ wsX30 ++ wsX10 ++ wsX00 ++ wsX20 ++ (vx_atS RX3 78 "java/lang/IndexOutOfBoundsException" ["java/lang/RuntimeException", "java/lang/Exception"]).filter goodWord ++ (vx_atS RX3 87 "java/lang/IllegalStateException" ["java/lang/RuntimeException", "java/lang/Exception"]).filter goodWord)
def wsX3_got : List Cond := .code yX3_got cX3_got 1 (some .int) :: ([.fieldLink RX3 62 "TwinWrites" "wordGot" "I"] ++ wsX30)
def wsX3_sync_r1 : List Cond := [Cond.classLink RX3 83 "java/lang/IllegalStateException", Cond.initialized "java/lang/IllegalStateException", Cond.fieldLink RX3 31 "TwinWrites" "down" "Z", Cond.methodLink RX3 110 yX3_logWaiting, Cond.instanceMethod yX3_logWaiting, Cond.selects RX3 yX3_logWaiting yX3_logWaiting, Cond.initialized RX3, Cond.code yX3_logWaiting cX3_logWaiting 5 (some .int), Cond.fieldLink RX3 53 "TwinWrites" "waitingCount" "I", Cond.fieldLink RX3 56 "TwinWrites" "nextNumber" "I", Cond.fieldLink RX3 20 "TwinWrites" "log" "[LTwinWrites$Change;", Cond.fieldLink RX3 50 "TwinWrites" "waiting" "[LTwinWrites$Change;", Cond.methodLink RX3 158 yX3_powerHolds, Cond.instanceMethod yX3_powerHolds, Cond.selects RX3 yX3_powerHolds yX3_powerHolds, Cond.code yX3_powerHolds cX3_powerHolds 1 (some .boolean), Cond.fieldLink RX3 28 "TwinWrites" "sectorsLeft" "I", Cond.fieldLink RX3 35 "TwinWrites" "sectorsWritten" "I", Cond.methodLink RX3 161 yJ9_floorMod_7cf53, Cond.static yJ9_floorMod_7cf53, Cond.initialized RJ9, Cond.code yJ9_floorMod_7cf53 cJ9_floorMod_7cf53 3 (some .int), Cond.methodLink RX3 166 yX0_copy, Cond.instanceMethod yX0_copy]
def wsX3_sync_r2 : List Cond := [Cond.selects RX0 yX0_copy yX0_copy, Cond.initialized RX0, Cond.code yX0_copy cX0_copy 2 none, Cond.fieldLink RX0 7 "TwinWrites$Change" "number" "I", Cond.fieldLink RX0 13 "TwinWrites$Change" "page" "I", Cond.fieldLink RX0 16 "TwinWrites$Change" "at" "I", Cond.fieldLink RX0 19 "TwinWrites$Change" "word" "I", Cond.methodLink RX0 22 yX0_set, Cond.instanceMethod yX0_set, Cond.selects RX0 yX0_set yX0_set, Cond.code yX0_set cX0_set 5 none, Cond.methodLink RX3 95 yX3_lose, Cond.instanceMethod yX3_lose, Cond.selects RX3 yX3_lose yX3_lose, Cond.code yX3_lose cX3_lose 1 (some .int), Cond.methodLink RX3 124 yX3_goDown, Cond.instanceMethod yX3_goDown, Cond.selects RX3 yX3_goDown yX3_goDown, Cond.code yX3_goDown cX3_goDown 2 none, Cond.fieldLink RX3 46 "TwinWrites" "frames" "[LTwinWrites$Frame;", Cond.methodLink RX3 155 yX1_empty, Cond.instanceMethod yX1_empty, Cond.selects RX1 yX1_empty yX1_empty, Cond.initialized RX1]
def wsX3_sync_r3 : List Cond := [Cond.code yX1_empty cX1_empty 2 none, Cond.fieldLink RX1 9 "TwinWrites$Frame" "words" "[I", Cond.fieldLink RX1 15 "TwinWrites$Frame" "page" "I", Cond.fieldLink RX1 19 "TwinWrites$Frame" "stamp" "I", Cond.fieldLink RX1 22 "TwinWrites$Frame" "dirty" "Z", Cond.fieldLink RX1 26 "TwinWrites$Frame" "asked" "I"]
def wsX3_sync : List Cond := .code yX3_sync cX3_sync 2 (some .int) :: ((wsX3_sync_r1 ++ (wsX3_sync_r2 ++ wsX3_sync_r3)) ++ wsX30 ++ wsX00 ++ wsX10 ++ (vx_atS RX3 87 "java/lang/IllegalStateException" ["java/lang/RuntimeException", "java/lang/Exception"]).filter goodWord)
def wsX3_checkpoint_r1 : List Cond := [Cond.classLink RX3 83 "java/lang/IllegalStateException", Cond.initialized "java/lang/IllegalStateException", Cond.fieldLink RX3 31 "TwinWrites" "down" "Z", Cond.methodLink RX3 92 yX3_cleanAllAndMark, Cond.instanceMethod yX3_cleanAllAndMark, Cond.selects RX3 yX3_cleanAllAndMark yX3_cleanAllAndMark, Cond.initialized RX3, Cond.code yX3_cleanAllAndMark cX3_cleanAllAndMark 2 (some .int), Cond.fieldLink RX3 56 "TwinWrites" "nextNumber" "I", Cond.fieldLink RX3 24 "TwinWrites" "mark" "I", Cond.methodLink RX3 190 yX3_cleanDirty, Cond.instanceMethod yX3_cleanDirty, Cond.selects RX3 yX3_cleanDirty yX3_cleanDirty, Cond.code yX3_cleanDirty cX3_cleanDirty 6 (some .int), Cond.fieldLink RX3 46 "TwinWrites" "frames" "[LTwinWrites$Frame;", Cond.fieldLink RX3 174 "TwinWrites$Frame" "dirty" "Z", Cond.fieldLink RX3 15 "TwinWrites" "slots" "[LTwinWrites$Place;", Cond.fieldLink RX3 177 "TwinWrites$Frame" "page" "I", Cond.fieldLink RX3 180 "TwinWrites$Frame" "stamp" "I", Cond.fieldLink RX3 106 "TwinWrites$Frame" "words" "[I", Cond.fieldLink RX3 38 "TwinWrites" "pagesCleaned" "I", Cond.methodLink RX3 110 yX3_logWaiting, Cond.instanceMethod yX3_logWaiting, Cond.selects RX3 yX3_logWaiting yX3_logWaiting]
def wsX3_checkpoint_r2 : List Cond := [Cond.code yX3_logWaiting cX3_logWaiting 5 (some .int), Cond.fieldLink RX3 53 "TwinWrites" "waitingCount" "I", Cond.fieldLink RX3 20 "TwinWrites" "log" "[LTwinWrites$Change;", Cond.fieldLink RX3 50 "TwinWrites" "waiting" "[LTwinWrites$Change;", Cond.methodLink RX3 158 yX3_powerHolds, Cond.instanceMethod yX3_powerHolds, Cond.selects RX3 yX3_powerHolds yX3_powerHolds, Cond.code yX3_powerHolds cX3_powerHolds 1 (some .boolean), Cond.fieldLink RX3 28 "TwinWrites" "sectorsLeft" "I", Cond.fieldLink RX3 35 "TwinWrites" "sectorsWritten" "I", Cond.methodLink RX3 161 yJ9_floorMod_7cf53, Cond.static yJ9_floorMod_7cf53, Cond.initialized RJ9, Cond.code yJ9_floorMod_7cf53 cJ9_floorMod_7cf53 3 (some .int), Cond.methodLink RX3 166 yX0_copy, Cond.instanceMethod yX0_copy, Cond.selects RX0 yX0_copy yX0_copy, Cond.initialized RX0, Cond.code yX0_copy cX0_copy 2 none, Cond.fieldLink RX0 7 "TwinWrites$Change" "number" "I", Cond.fieldLink RX0 13 "TwinWrites$Change" "page" "I", Cond.fieldLink RX0 16 "TwinWrites$Change" "at" "I", Cond.fieldLink RX0 19 "TwinWrites$Change" "word" "I", Cond.methodLink RX0 22 yX0_set]
def wsX3_checkpoint_r3 : List Cond := [Cond.instanceMethod yX0_set, Cond.selects RX0 yX0_set yX0_set, Cond.code yX0_set cX0_set 5 none, Cond.methodLink RX3 183 yX3_writePage, Cond.instanceMethod yX3_writePage, Cond.selects RX3 yX3_writePage yX3_writePage, Cond.code yX3_writePage cX3_writePage 6 (some .boolean), Cond.methodLink RX3 170 yX2_putSector, Cond.instanceMethod yX2_putSector, Cond.selects RX2 yX2_putSector yX2_putSector, Cond.initialized RX2, Cond.code yX2_putSector cX2_putSector 7 none, Cond.fieldLink RX2 9 "TwinWrites$Place" "words" "[I", Cond.fieldLink RX2 15 "TwinWrites$Place" "stamps" "[I", Cond.fieldLink RX2 18 "TwinWrites$Place" "pages" "[I", Cond.methodLink RX3 187 yX3_writeDirtyHome, Cond.instanceMethod yX3_writeDirtyHome, Cond.selects RX3 yX3_writeDirtyHome yX3_writeDirtyHome, Cond.code yX3_writeDirtyHome cX3_writeDirtyHome 5 (some .boolean), Cond.fieldLink RX3 11 "TwinWrites" "homes" "[LTwinWrites$Place;", Cond.methodLink RX3 95 yX3_lose, Cond.instanceMethod yX3_lose, Cond.selects RX3 yX3_lose yX3_lose, Cond.code yX3_lose cX3_lose 1 (some .int)]
def wsX3_checkpoint_r4 : List Cond := [Cond.methodLink RX3 124 yX3_goDown, Cond.instanceMethod yX3_goDown, Cond.selects RX3 yX3_goDown yX3_goDown, Cond.code yX3_goDown cX3_goDown 2 none, Cond.methodLink RX3 155 yX1_empty, Cond.instanceMethod yX1_empty, Cond.selects RX1 yX1_empty yX1_empty, Cond.initialized RX1, Cond.code yX1_empty cX1_empty 2 none, Cond.fieldLink RX1 9 "TwinWrites$Frame" "words" "[I", Cond.fieldLink RX1 15 "TwinWrites$Frame" "page" "I", Cond.fieldLink RX1 19 "TwinWrites$Frame" "stamp" "I", Cond.fieldLink RX1 22 "TwinWrites$Frame" "dirty" "Z", Cond.fieldLink RX1 26 "TwinWrites$Frame" "asked" "I"]
def wsX3_checkpoint : List Cond := .code yX3_checkpoint cX3_checkpoint 2 (some .int) :: ((wsX3_checkpoint_r1 ++ (wsX3_checkpoint_r2 ++ (wsX3_checkpoint_r3 ++ wsX3_checkpoint_r4))) ++ wsX30 ++ wsX10 ++ wsX00 ++ wsX20 ++ (vx_atS RX3 87 "java/lang/IllegalStateException" ["java/lang/RuntimeException", "java/lang/Exception"]).filter goodWord)
def wsX3_power : List Cond := .code yX3_power cX3_power 2 none :: ([.classLink RX3 74 "java/lang/IndexOutOfBoundsException", .initialized "java/lang/IndexOutOfBoundsException", .fieldLink RX3 28 "TwinWrites" "sectorsLeft" "I"] ++ wsX30 ++ (vx_atS RX3 78 "java/lang/IndexOutOfBoundsException" ["java/lang/RuntimeException", "java/lang/Exception"]).filter goodWord)
def wsX3_slotToMendFrom : List Cond := .code yX3_slotToMendFrom cX3_slotToMendFrom 5 (some .int) :: ([.fieldLink RX3 15 "TwinWrites" "slots" "[LTwinWrites$Place;", .fieldLink RX3 224 "TwinWrites$Place" "pages" "[I", .fieldLink RX3 220 "TwinWrites$Place" "stamps" "[I", .methodLink RX3 214 yX2_isWhole, .instanceMethod yX2_isWhole, .selects RX2 yX2_isWhole yX2_isWhole, .initialized RX2, .code yX2_isWhole cX2_isWhole 2 (some .boolean), .fieldLink RX2 15 "TwinWrites$Place" "stamps" "[I", .fieldLink RX2 18 "TwinWrites$Place" "pages" "[I"] ++ wsX30 ++ wsX20)
def wsX3_mendHomes_r1 : List Cond := [Cond.fieldLink RX3 11 "TwinWrites" "homes" "[LTwinWrites$Place;", Cond.fieldLink RX3 15 "TwinWrites" "slots" "[LTwinWrites$Place;", Cond.fieldLink RX3 220 "TwinWrites$Place" "stamps" "[I", Cond.fieldLink RX3 223 "TwinWrites$Place" "words" "[I", Cond.fieldLink RX3 41 "TwinWrites" "pagesMended" "I", Cond.methodLink RX3 214 yX2_isWhole, Cond.instanceMethod yX2_isWhole, Cond.selects RX2 yX2_isWhole yX2_isWhole, Cond.initialized RX2, Cond.code yX2_isWhole cX2_isWhole 2 (some .boolean), Cond.fieldLink RX2 15 "TwinWrites$Place" "stamps" "[I", Cond.fieldLink RX2 18 "TwinWrites$Place" "pages" "[I", Cond.methodLink RX3 217 yX3_slotToMendFrom, Cond.instanceMethod yX3_slotToMendFrom, Cond.selects RX3 yX3_slotToMendFrom yX3_slotToMendFrom, Cond.initialized RX3, Cond.code yX3_slotToMendFrom cX3_slotToMendFrom 5 (some .int), Cond.fieldLink RX3 224 "TwinWrites$Place" "pages" "[I", Cond.methodLink RX3 183 yX3_writePage, Cond.instanceMethod yX3_writePage, Cond.selects RX3 yX3_writePage yX3_writePage, Cond.code yX3_writePage cX3_writePage 6 (some .boolean), Cond.methodLink RX3 158 yX3_powerHolds, Cond.instanceMethod yX3_powerHolds]
def wsX3_mendHomes_r2 : List Cond := [Cond.selects RX3 yX3_powerHolds yX3_powerHolds, Cond.code yX3_powerHolds cX3_powerHolds 1 (some .boolean), Cond.fieldLink RX3 28 "TwinWrites" "sectorsLeft" "I", Cond.fieldLink RX3 35 "TwinWrites" "sectorsWritten" "I", Cond.methodLink RX3 170 yX2_putSector, Cond.instanceMethod yX2_putSector, Cond.selects RX2 yX2_putSector yX2_putSector, Cond.code yX2_putSector cX2_putSector 7 none, Cond.fieldLink RX2 9 "TwinWrites$Place" "words" "[I"]
def wsX3_mendHomes : List Cond := .code yX3_mendHomes cX3_mendHomes 4 (some .boolean) :: ((wsX3_mendHomes_r1 ++ wsX3_mendHomes_r2) ++ wsX30 ++ wsX20)
def wsX3_redoLogged_r1 : List Cond := [Cond.fieldLink RX3 24 "TwinWrites" "mark" "I", Cond.fieldLink RX3 20 "TwinWrites" "log" "[LTwinWrites$Change;", Cond.fieldLink RX3 227 "TwinWrites$Change" "number" "I", Cond.fieldLink RX3 230 "TwinWrites$Change" "page" "I", Cond.fieldLink RX3 46 "TwinWrites" "frames" "[LTwinWrites$Frame;", Cond.fieldLink RX3 180 "TwinWrites$Frame" "stamp" "I", Cond.fieldLink RX3 231 "TwinWrites$Change" "at" "I", Cond.fieldLink RX3 234 "TwinWrites$Change" "word" "I", Cond.methodLink RX3 161 yJ9_floorMod_7cf53, Cond.static yJ9_floorMod_7cf53, Cond.initialized RJ9, Cond.code yJ9_floorMod_7cf53 cJ9_floorMod_7cf53 3 (some .int), Cond.methodLink RX3 98 yX3_bring, Cond.instanceMethod yX3_bring, Cond.selects RX3 yX3_bring yX3_bring, Cond.initialized RX3, Cond.code yX3_bring cX3_bring 3 (some .int), Cond.fieldLink RX3 174 "TwinWrites$Frame" "dirty" "Z", Cond.fieldLink RX3 11 "TwinWrites" "homes" "[LTwinWrites$Place;", Cond.fieldLink RX3 59 "TwinWrites" "askings" "I", Cond.fieldLink RX3 203 "TwinWrites$Frame" "asked" "I", Cond.methodLink RX3 193 yX3_frameOf, Cond.instanceMethod yX3_frameOf, Cond.selects RX3 yX3_frameOf yX3_frameOf]
def wsX3_redoLogged_r2 : List Cond := [Cond.code yX3_frameOf cX3_frameOf 3 (some .int), Cond.fieldLink RX3 177 "TwinWrites$Frame" "page" "I", Cond.methodLink RX3 196 yX3_frameToFill, Cond.instanceMethod yX3_frameToFill, Cond.selects RX3 yX3_frameToFill yX3_frameToFill, Cond.code yX3_frameToFill cX3_frameToFill 3 (some .int), Cond.methodLink RX3 190 yX3_cleanDirty, Cond.instanceMethod yX3_cleanDirty, Cond.selects RX3 yX3_cleanDirty yX3_cleanDirty, Cond.code yX3_cleanDirty cX3_cleanDirty 6 (some .int), Cond.fieldLink RX3 15 "TwinWrites" "slots" "[LTwinWrites$Place;", Cond.fieldLink RX3 106 "TwinWrites$Frame" "words" "[I", Cond.fieldLink RX3 38 "TwinWrites" "pagesCleaned" "I", Cond.methodLink RX3 110 yX3_logWaiting, Cond.instanceMethod yX3_logWaiting, Cond.selects RX3 yX3_logWaiting yX3_logWaiting, Cond.code yX3_logWaiting cX3_logWaiting 5 (some .int), Cond.fieldLink RX3 53 "TwinWrites" "waitingCount" "I", Cond.fieldLink RX3 56 "TwinWrites" "nextNumber" "I", Cond.fieldLink RX3 50 "TwinWrites" "waiting" "[LTwinWrites$Change;", Cond.methodLink RX3 158 yX3_powerHolds, Cond.instanceMethod yX3_powerHolds, Cond.selects RX3 yX3_powerHolds yX3_powerHolds, Cond.code yX3_powerHolds cX3_powerHolds 1 (some .boolean)]
def wsX3_redoLogged_r3 : List Cond := [Cond.fieldLink RX3 28 "TwinWrites" "sectorsLeft" "I", Cond.fieldLink RX3 35 "TwinWrites" "sectorsWritten" "I", Cond.methodLink RX3 166 yX0_copy, Cond.instanceMethod yX0_copy, Cond.selects RX0 yX0_copy yX0_copy, Cond.initialized RX0, Cond.code yX0_copy cX0_copy 2 none, Cond.fieldLink RX0 7 "TwinWrites$Change" "number" "I", Cond.fieldLink RX0 13 "TwinWrites$Change" "page" "I", Cond.fieldLink RX0 16 "TwinWrites$Change" "at" "I", Cond.fieldLink RX0 19 "TwinWrites$Change" "word" "I", Cond.methodLink RX0 22 yX0_set, Cond.instanceMethod yX0_set, Cond.selects RX0 yX0_set yX0_set, Cond.code yX0_set cX0_set 5 none, Cond.methodLink RX3 183 yX3_writePage, Cond.instanceMethod yX3_writePage, Cond.selects RX3 yX3_writePage yX3_writePage, Cond.code yX3_writePage cX3_writePage 6 (some .boolean), Cond.methodLink RX3 170 yX2_putSector, Cond.instanceMethod yX2_putSector, Cond.selects RX2 yX2_putSector yX2_putSector, Cond.initialized RX2, Cond.code yX2_putSector cX2_putSector 7 none]
def wsX3_redoLogged_r4 : List Cond := [Cond.fieldLink RX2 9 "TwinWrites$Place" "words" "[I", Cond.fieldLink RX2 15 "TwinWrites$Place" "stamps" "[I", Cond.fieldLink RX2 18 "TwinWrites$Place" "pages" "[I", Cond.methodLink RX3 187 yX3_writeDirtyHome, Cond.instanceMethod yX3_writeDirtyHome, Cond.selects RX3 yX3_writeDirtyHome yX3_writeDirtyHome, Cond.code yX3_writeDirtyHome cX3_writeDirtyHome 5 (some .boolean), Cond.methodLink RX3 199 yX1_fill, Cond.instanceMethod yX1_fill, Cond.selects RX1 yX1_fill yX1_fill, Cond.initialized RX1, Cond.code yX1_fill cX1_fill 4 none, Cond.fieldLink RX1 9 "TwinWrites$Frame" "words" "[I", Cond.fieldLink RX1 29 "TwinWrites$Place" "words" "[I", Cond.fieldLink RX1 15 "TwinWrites$Frame" "page" "I", Cond.fieldLink RX1 32 "TwinWrites$Place" "stamps" "[I", Cond.fieldLink RX1 19 "TwinWrites$Frame" "stamp" "I", Cond.fieldLink RX1 22 "TwinWrites$Frame" "dirty" "Z", Cond.methodLink RX3 210 yX1_changeWord, Cond.instanceMethod yX1_changeWord, Cond.selects RX1 yX1_changeWord yX1_changeWord, Cond.code yX1_changeWord cX1_changeWord 4 none]
def wsX3_redoLogged : List Cond := .code yX3_redoLogged cX3_redoLogged 5 (some .int) :: ((wsX3_redoLogged_r1 ++ (wsX3_redoLogged_r2 ++ (wsX3_redoLogged_r3 ++ wsX3_redoLogged_r4))) ++ wsX30 ++ wsX00 ++ wsX10 ++ wsX20)
def wsX3_recover_r1 : List Cond := [Cond.classLink RX3 83 "java/lang/IllegalStateException", Cond.initialized "java/lang/IllegalStateException", Cond.fieldLink RX3 31 "TwinWrites" "down" "Z", Cond.fieldLink RX3 56 "TwinWrites" "nextNumber" "I", Cond.methodLink RX3 117 yX3_mendHomes, Cond.instanceMethod yX3_mendHomes, Cond.selects RX3 yX3_mendHomes yX3_mendHomes, Cond.initialized RX3, Cond.code yX3_mendHomes cX3_mendHomes 4 (some .boolean), Cond.fieldLink RX3 11 "TwinWrites" "homes" "[LTwinWrites$Place;", Cond.fieldLink RX3 15 "TwinWrites" "slots" "[LTwinWrites$Place;", Cond.fieldLink RX3 220 "TwinWrites$Place" "stamps" "[I", Cond.fieldLink RX3 223 "TwinWrites$Place" "words" "[I", Cond.fieldLink RX3 41 "TwinWrites" "pagesMended" "I", Cond.methodLink RX3 214 yX2_isWhole, Cond.instanceMethod yX2_isWhole, Cond.selects RX2 yX2_isWhole yX2_isWhole, Cond.initialized RX2, Cond.code yX2_isWhole cX2_isWhole 2 (some .boolean), Cond.fieldLink RX2 15 "TwinWrites$Place" "stamps" "[I", Cond.fieldLink RX2 18 "TwinWrites$Place" "pages" "[I", Cond.methodLink RX3 217 yX3_slotToMendFrom, Cond.instanceMethod yX3_slotToMendFrom, Cond.selects RX3 yX3_slotToMendFrom yX3_slotToMendFrom]
def wsX3_recover_r2 : List Cond := [Cond.code yX3_slotToMendFrom cX3_slotToMendFrom 5 (some .int), Cond.fieldLink RX3 224 "TwinWrites$Place" "pages" "[I", Cond.methodLink RX3 183 yX3_writePage, Cond.instanceMethod yX3_writePage, Cond.selects RX3 yX3_writePage yX3_writePage, Cond.code yX3_writePage cX3_writePage 6 (some .boolean), Cond.methodLink RX3 158 yX3_powerHolds, Cond.instanceMethod yX3_powerHolds, Cond.selects RX3 yX3_powerHolds yX3_powerHolds, Cond.code yX3_powerHolds cX3_powerHolds 1 (some .boolean), Cond.fieldLink RX3 28 "TwinWrites" "sectorsLeft" "I", Cond.fieldLink RX3 35 "TwinWrites" "sectorsWritten" "I", Cond.methodLink RX3 170 yX2_putSector, Cond.instanceMethod yX2_putSector, Cond.selects RX2 yX2_putSector yX2_putSector, Cond.code yX2_putSector cX2_putSector 7 none, Cond.fieldLink RX2 9 "TwinWrites$Place" "words" "[I", Cond.methodLink RX3 95 yX3_lose, Cond.instanceMethod yX3_lose, Cond.selects RX3 yX3_lose yX3_lose, Cond.code yX3_lose cX3_lose 1 (some .int), Cond.methodLink RX3 124 yX3_goDown, Cond.instanceMethod yX3_goDown, Cond.selects RX3 yX3_goDown yX3_goDown]
def wsX3_recover_r3 : List Cond := [Cond.code yX3_goDown cX3_goDown 2 none, Cond.fieldLink RX3 46 "TwinWrites" "frames" "[LTwinWrites$Frame;", Cond.fieldLink RX3 53 "TwinWrites" "waitingCount" "I", Cond.methodLink RX3 155 yX1_empty, Cond.instanceMethod yX1_empty, Cond.selects RX1 yX1_empty yX1_empty, Cond.initialized RX1, Cond.code yX1_empty cX1_empty 2 none, Cond.fieldLink RX1 9 "TwinWrites$Frame" "words" "[I", Cond.fieldLink RX1 15 "TwinWrites$Frame" "page" "I", Cond.fieldLink RX1 19 "TwinWrites$Frame" "stamp" "I", Cond.fieldLink RX1 22 "TwinWrites$Frame" "dirty" "Z", Cond.fieldLink RX1 26 "TwinWrites$Frame" "asked" "I", Cond.methodLink RX3 121 yX3_redoLogged, Cond.instanceMethod yX3_redoLogged, Cond.selects RX3 yX3_redoLogged yX3_redoLogged, Cond.code yX3_redoLogged cX3_redoLogged 5 (some .int), Cond.fieldLink RX3 24 "TwinWrites" "mark" "I", Cond.fieldLink RX3 20 "TwinWrites" "log" "[LTwinWrites$Change;", Cond.fieldLink RX3 227 "TwinWrites$Change" "number" "I", Cond.fieldLink RX3 230 "TwinWrites$Change" "page" "I", Cond.fieldLink RX3 180 "TwinWrites$Frame" "stamp" "I", Cond.fieldLink RX3 231 "TwinWrites$Change" "at" "I", Cond.fieldLink RX3 234 "TwinWrites$Change" "word" "I"]
def wsX3_recover_r4 : List Cond := [Cond.methodLink RX3 161 yJ9_floorMod_7cf53, Cond.static yJ9_floorMod_7cf53, Cond.initialized RJ9, Cond.code yJ9_floorMod_7cf53 cJ9_floorMod_7cf53 3 (some .int), Cond.methodLink RX3 98 yX3_bring, Cond.instanceMethod yX3_bring, Cond.selects RX3 yX3_bring yX3_bring, Cond.code yX3_bring cX3_bring 3 (some .int), Cond.fieldLink RX3 174 "TwinWrites$Frame" "dirty" "Z", Cond.fieldLink RX3 59 "TwinWrites" "askings" "I", Cond.fieldLink RX3 203 "TwinWrites$Frame" "asked" "I", Cond.methodLink RX3 193 yX3_frameOf, Cond.instanceMethod yX3_frameOf, Cond.selects RX3 yX3_frameOf yX3_frameOf, Cond.code yX3_frameOf cX3_frameOf 3 (some .int), Cond.fieldLink RX3 177 "TwinWrites$Frame" "page" "I", Cond.methodLink RX3 196 yX3_frameToFill, Cond.instanceMethod yX3_frameToFill, Cond.selects RX3 yX3_frameToFill yX3_frameToFill, Cond.code yX3_frameToFill cX3_frameToFill 3 (some .int), Cond.methodLink RX3 190 yX3_cleanDirty, Cond.instanceMethod yX3_cleanDirty, Cond.selects RX3 yX3_cleanDirty yX3_cleanDirty, Cond.code yX3_cleanDirty cX3_cleanDirty 6 (some .int)]
def wsX3_recover_r5 : List Cond := [Cond.fieldLink RX3 106 "TwinWrites$Frame" "words" "[I", Cond.fieldLink RX3 38 "TwinWrites" "pagesCleaned" "I", Cond.methodLink RX3 110 yX3_logWaiting, Cond.instanceMethod yX3_logWaiting, Cond.selects RX3 yX3_logWaiting yX3_logWaiting, Cond.code yX3_logWaiting cX3_logWaiting 5 (some .int), Cond.fieldLink RX3 50 "TwinWrites" "waiting" "[LTwinWrites$Change;", Cond.methodLink RX3 166 yX0_copy, Cond.instanceMethod yX0_copy, Cond.selects RX0 yX0_copy yX0_copy, Cond.initialized RX0, Cond.code yX0_copy cX0_copy 2 none, Cond.fieldLink RX0 7 "TwinWrites$Change" "number" "I", Cond.fieldLink RX0 13 "TwinWrites$Change" "page" "I", Cond.fieldLink RX0 16 "TwinWrites$Change" "at" "I", Cond.fieldLink RX0 19 "TwinWrites$Change" "word" "I", Cond.methodLink RX0 22 yX0_set, Cond.instanceMethod yX0_set, Cond.selects RX0 yX0_set yX0_set, Cond.code yX0_set cX0_set 5 none, Cond.methodLink RX3 187 yX3_writeDirtyHome, Cond.instanceMethod yX3_writeDirtyHome, Cond.selects RX3 yX3_writeDirtyHome yX3_writeDirtyHome, Cond.code yX3_writeDirtyHome cX3_writeDirtyHome 5 (some .boolean)]
def wsX3_recover_r6 : List Cond := [Cond.methodLink RX3 199 yX1_fill, Cond.instanceMethod yX1_fill, Cond.selects RX1 yX1_fill yX1_fill, Cond.code yX1_fill cX1_fill 4 none, Cond.fieldLink RX1 29 "TwinWrites$Place" "words" "[I", Cond.fieldLink RX1 32 "TwinWrites$Place" "stamps" "[I", Cond.methodLink RX3 210 yX1_changeWord, Cond.instanceMethod yX1_changeWord, Cond.selects RX1 yX1_changeWord yX1_changeWord, Cond.code yX1_changeWord cX1_changeWord 4 none]
def wsX3_recover : List Cond := .code yX3_recover cX3_recover 2 (some .int) :: ((wsX3_recover_r1 ++ (wsX3_recover_r2 ++ (wsX3_recover_r3 ++ (wsX3_recover_r4 ++ (wsX3_recover_r5 ++ wsX3_recover_r6))))) ++ wsX30 ++ wsX20 ++ wsX10 ++ wsX00 ++ (vx_atS RX3 87 "java/lang/IllegalStateException" ["java/lang/RuntimeException", "java/lang/Exception"]).filter goodWord)
def wsX3_cut : List Cond := .code yX3_cut cX3_cut 2 (some .int) :: ([.classLink RX3 83 "java/lang/IllegalStateException", .initialized "java/lang/IllegalStateException", .fieldLink RX3 31 "TwinWrites" "down" "Z", .fieldLink RX3 53 "TwinWrites" "waitingCount" "I", .methodLink RX3 124 yX3_goDown, .instanceMethod yX3_goDown, .selects RX3 yX3_goDown yX3_goDown, .initialized RX3, .code yX3_goDown cX3_goDown 2 none, .fieldLink RX3 46 "TwinWrites" "frames" "[LTwinWrites$Frame;", .fieldLink RX3 28 "TwinWrites" "sectorsLeft" "I", .methodLink RX3 155 yX1_empty, .instanceMethod yX1_empty, .selects RX1 yX1_empty yX1_empty, .initialized RX1, .code yX1_empty cX1_empty 2 none, .fieldLink RX1 9 "TwinWrites$Frame" "words" "[I", .fieldLink RX1 15 "TwinWrites$Frame" "page" "I", .fieldLink RX1 19 "TwinWrites$Frame" "stamp" "I", .fieldLink RX1 22 "TwinWrites$Frame" "dirty" "Z", .fieldLink RX1 26 "TwinWrites$Frame" "asked" "I"] ++ wsX30 ++ wsX10 ++ (vx_atS RX3 87 "java/lang/IllegalStateException" ["java/lang/RuntimeException", "java/lang/Exception"]).filter goodWord)
def wsX3_placeValue : List Cond := .code yX3_placeValue cX3_placeValue 4 (some .int) :: ([.classLink RX3 74 "java/lang/IndexOutOfBoundsException", .initialized "java/lang/IndexOutOfBoundsException", .methodLink RX3 70 yX3_isIn, .static yX3_isIn, .initialized RX3, .code yX3_isIn cX3_isIn 2 (some .boolean), .methodLink RX3 149 yX2_value, .instanceMethod yX2_value, .selects RX2 yX2_value yX2_value, .initialized RX2, .code yX2_value cX2_value 2 (some .int), .fieldLink RX2 9 "TwinWrites$Place" "words" "[I", .fieldLink RX2 15 "TwinWrites$Place" "stamps" "[I", .fieldLink RX2 18 "TwinWrites$Place" "pages" "[I"] ++ wsX20 ++ (vx_atS RX3 78 "java/lang/IndexOutOfBoundsException" ["java/lang/RuntimeException", "java/lang/Exception"]).filter goodWord)
def wsX3_recordValue : List Cond := .code yX3_recordValue cX3_recordValue 3 (some .int) :: ([.classLink RX3 74 "java/lang/IndexOutOfBoundsException", .initialized "java/lang/IndexOutOfBoundsException", .fieldLink RX3 20 "TwinWrites" "log" "[LTwinWrites$Change;", .methodLink RX3 70 yX3_isIn, .static yX3_isIn, .initialized RX3, .code yX3_isIn cX3_isIn 2 (some .boolean), .methodLink RX3 152 yX0_value, .instanceMethod yX0_value, .selects RX0 yX0_value yX0_value, .initialized RX0, .code yX0_value cX0_value 2 (some .int), .fieldLink RX0 7 "TwinWrites$Change" "number" "I", .fieldLink RX0 13 "TwinWrites$Change" "page" "I", .fieldLink RX0 16 "TwinWrites$Change" "at" "I", .fieldLink RX0 19 "TwinWrites$Change" "word" "I"] ++ wsX30 ++ wsX00 ++ (vx_atS RX3 78 "java/lang/IndexOutOfBoundsException" ["java/lang/RuntimeException", "java/lang/Exception"]).filter goodWord)
def wsX3_markValue : List Cond := .code yX3_markValue cX3_markValue 3 (some .int) :: ([.classLink RX3 74 "java/lang/IndexOutOfBoundsException", .initialized "java/lang/IndexOutOfBoundsException", .fieldLink RX3 24 "TwinWrites" "mark" "I"] ++ wsX30 ++ (vx_atS RX3 78 "java/lang/IndexOutOfBoundsException" ["java/lang/RuntimeException", "java/lang/Exception"]).filter goodWord)
def wsX3_disk_r1 : List Cond := [Cond.classLink RX3 74 "java/lang/IndexOutOfBoundsException", Cond.initialized "java/lang/IndexOutOfBoundsException", Cond.fieldLink RX3 11 "TwinWrites" "homes" "[LTwinWrites$Place;", Cond.fieldLink RX3 15 "TwinWrites" "slots" "[LTwinWrites$Place;", Cond.methodLink RX3 127 yX3_placeValue, Cond.static yX3_placeValue, Cond.initialized RX3, Cond.code yX3_placeValue cX3_placeValue 4 (some .int), Cond.methodLink RX3 70 yX3_isIn, Cond.static yX3_isIn, Cond.code yX3_isIn cX3_isIn 2 (some .boolean), Cond.methodLink RX3 149 yX2_value, Cond.instanceMethod yX2_value, Cond.selects RX2 yX2_value yX2_value, Cond.initialized RX2, Cond.code yX2_value cX2_value 2 (some .int), Cond.fieldLink RX2 9 "TwinWrites$Place" "words" "[I", Cond.fieldLink RX2 15 "TwinWrites$Place" "stamps" "[I", Cond.fieldLink RX2 18 "TwinWrites$Place" "pages" "[I", Cond.methodLink RX3 131 yX3_recordValue, Cond.instanceMethod yX3_recordValue, Cond.selects RX3 yX3_recordValue yX3_recordValue, Cond.code yX3_recordValue cX3_recordValue 3 (some .int), Cond.fieldLink RX3 20 "TwinWrites" "log" "[LTwinWrites$Change;"]
def wsX3_disk_r2 : List Cond := [Cond.methodLink RX3 152 yX0_value, Cond.instanceMethod yX0_value, Cond.selects RX0 yX0_value yX0_value, Cond.initialized RX0, Cond.code yX0_value cX0_value 2 (some .int), Cond.fieldLink RX0 7 "TwinWrites$Change" "number" "I", Cond.fieldLink RX0 13 "TwinWrites$Change" "page" "I", Cond.fieldLink RX0 16 "TwinWrites$Change" "at" "I", Cond.fieldLink RX0 19 "TwinWrites$Change" "word" "I", Cond.methodLink RX3 135 yX3_markValue, Cond.instanceMethod yX3_markValue, Cond.selects RX3 yX3_markValue yX3_markValue, Cond.code yX3_markValue cX3_markValue 3 (some .int), Cond.fieldLink RX3 24 "TwinWrites" "mark" "I"]
def wsX3_disk : List Cond := .code yX3_disk cX3_disk 4 (some .int) :: ((wsX3_disk_r1 ++ wsX3_disk_r2) ++ wsX30 ++ wsX20 ++ wsX00 ++ (vx_atS RX3 78 "java/lang/IndexOutOfBoundsException" ["java/lang/RuntimeException", "java/lang/Exception"]).filter goodWord)
def wsX3_frame : List Cond := .code yX3_frame cX3_frame 3 (some .int) :: ([.classLink RX3 74 "java/lang/IndexOutOfBoundsException", .initialized "java/lang/IndexOutOfBoundsException", .fieldLink RX3 46 "TwinWrites" "frames" "[LTwinWrites$Frame;", .methodLink RX3 70 yX3_isIn, .static yX3_isIn, .initialized RX3, .code yX3_isIn cX3_isIn 2 (some .boolean), .methodLink RX3 142 yX1_value, .instanceMethod yX1_value, .selects RX1 yX1_value yX1_value, .initialized RX1, .code yX1_value cX1_value 2 (some .int), .fieldLink RX1 15 "TwinWrites$Frame" "page" "I", .fieldLink RX1 19 "TwinWrites$Frame" "stamp" "I", .fieldLink RX1 22 "TwinWrites$Frame" "dirty" "Z", .fieldLink RX1 9 "TwinWrites$Frame" "words" "[I"] ++ wsX30 ++ wsX10 ++ (vx_atS RX3 78 "java/lang/IndexOutOfBoundsException" ["java/lang/RuntimeException", "java/lang/Exception"]).filter goodWord)
def wsX3_count : List Cond := .code yX3_count cX3_count 2 (some .int) :: ([.classLink RX3 74 "java/lang/IndexOutOfBoundsException", .initialized "java/lang/IndexOutOfBoundsException", .fieldLink RX3 31 "TwinWrites" "down" "Z", .fieldLink RX3 56 "TwinWrites" "nextNumber" "I", .fieldLink RX3 53 "TwinWrites" "waitingCount" "I", .fieldLink RX3 35 "TwinWrites" "sectorsWritten" "I", .fieldLink RX3 38 "TwinWrites" "pagesCleaned" "I", .fieldLink RX3 41 "TwinWrites" "pagesMended" "I", .methodLink RX3 88 yX3_room, .instanceMethod yX3_room, .selects RX3 yX3_room yX3_room, .initialized RX3, .code yX3_room cX3_room 1 (some .int), .fieldLink RX3 24 "TwinWrites" "mark" "I"] ++ wsX30 ++ (vx_atS RX3 78 "java/lang/IndexOutOfBoundsException" ["java/lang/RuntimeException", "java/lang/Exception"]).filter goodWord)
def wsX4_init_r1 : List Cond := [Cond.methodLink RX4 1 objectInit, Cond.instanceMethod objectInit, Cond.code objectInit ⟨#[0xb1]⟩ 1 none, Cond.arrayClass .int, Cond.fieldLink RX4 7 "TwinWritesModel" "homeStamp" "[I", Cond.fieldLink RX4 13 "TwinWritesModel" "homeWord" "[I", Cond.fieldLink RX4 16 "TwinWritesModel" "besideStamp" "[I", Cond.fieldLink RX4 19 "TwinWritesModel" "besidePage" "[I", Cond.fieldLink RX4 22 "TwinWritesModel" "besideWord" "[I", Cond.fieldLink RX4 25 "TwinWritesModel" "logNumber" "[I", Cond.fieldLink RX4 28 "TwinWritesModel" "logPage" "[I", Cond.fieldLink RX4 31 "TwinWritesModel" "logWhich" "[I", Cond.fieldLink RX4 34 "TwinWritesModel" "logWord" "[I", Cond.fieldLink RX4 37 "TwinWritesModel" "mark" "I", Cond.fieldLink RX4 41 "TwinWritesModel" "framePage" "[I", Cond.fieldLink RX4 44 "TwinWritesModel" "frameStamp" "[I", Cond.arrayClass .boolean, Cond.fieldLink RX4 47 "TwinWritesModel" "isDirty" "[Z", Cond.fieldLink RX4 51 "TwinWritesModel" "asked" "[I", Cond.fieldLink RX4 54 "TwinWritesModel" "frameWord" "[I", Cond.fieldLink RX4 57 "TwinWritesModel" "next" "I", Cond.fieldLink RX4 60 "TwinWritesModel" "waitNumber" "[I", Cond.fieldLink RX4 63 "TwinWritesModel" "waitPage" "[I", Cond.fieldLink RX4 66 "TwinWritesModel" "waitWhich" "[I"]
def wsX4_init_r2 : List Cond := [Cond.fieldLink RX4 69 "TwinWritesModel" "waitWord" "[I", Cond.fieldLink RX4 72 "TwinWritesModel" "power" "I"]
def wsX4_init : List Cond := .code yX4_init cX4_init 1 none :: ((wsX4_init_r1 ++ wsX4_init_r2) ++ wsX40)
def wsX4_thrown : List Cond := .code yX4_thrown cX4_thrown 1 (some .int) :: ([.fieldLink RX4 75 "TwinWritesModel" "thrown" "I"] ++ wsX40)
def wsX4_in : List Cond := .code yX4_in cX4_in 3 (some .boolean) :: ([])
def wsX4_refuses : List Cond := .code yX4_refuses cX4_refuses 3 (some .boolean) :: ([.fieldLink RX4 75 "TwinWritesModel" "thrown" "I"] ++ wsX40)
def wsX4_goDown : List Cond := .code yX4_goDown cX4_goDown 2 none :: ([.fieldLink RX4 72 "TwinWritesModel" "power" "I", .fieldLink RX4 78 "TwinWritesModel" "isDown" "Z", .fieldLink RX4 82 "TwinWritesModel" "waiting" "I", .fieldLink RX4 41 "TwinWritesModel" "framePage" "[I", .fieldLink RX4 47 "TwinWritesModel" "isDirty" "[Z"] ++ wsX40)
def wsX4_mayWrite : List Cond := .code yX4_mayWrite cX4_mayWrite 1 (some .boolean) :: ([.fieldLink RX4 72 "TwinWritesModel" "power" "I", .fieldLink RX4 88 "TwinWritesModel" "sectors" "I", .methodLink RX4 85 yX4_goDown, .instanceMethod yX4_goDown, .selects RX4 yX4_goDown yX4_goDown, .initialized RX4, .code yX4_goDown cX4_goDown 2 none, .fieldLink RX4 78 "TwinWritesModel" "isDown" "Z", .fieldLink RX4 82 "TwinWritesModel" "waiting" "I", .fieldLink RX4 41 "TwinWritesModel" "framePage" "[I", .fieldLink RX4 47 "TwinWritesModel" "isDirty" "[Z"] ++ wsX40)
def wsX4_writeHome : List Cond := .code yX4_writeHome cX4_writeHome 7 (some .boolean) :: ([.fieldLink RX4 7 "TwinWritesModel" "homeStamp" "[I", .fieldLink RX4 13 "TwinWritesModel" "homeWord" "[I", .fieldLink RX4 54 "TwinWritesModel" "frameWord" "[I", .fieldLink RX4 22 "TwinWritesModel" "besideWord" "[I", .methodLink RX4 91 yX4_mayWrite, .instanceMethod yX4_mayWrite, .selects RX4 yX4_mayWrite yX4_mayWrite, .initialized RX4, .code yX4_mayWrite cX4_mayWrite 1 (some .boolean), .fieldLink RX4 72 "TwinWritesModel" "power" "I", .fieldLink RX4 88 "TwinWritesModel" "sectors" "I", .methodLink RX4 85 yX4_goDown, .instanceMethod yX4_goDown, .selects RX4 yX4_goDown yX4_goDown, .code yX4_goDown cX4_goDown 2 none, .fieldLink RX4 78 "TwinWritesModel" "isDown" "Z", .fieldLink RX4 82 "TwinWritesModel" "waiting" "I", .fieldLink RX4 41 "TwinWritesModel" "framePage" "[I", .fieldLink RX4 47 "TwinWritesModel" "isDirty" "[Z"] ++ wsX40)
def wsX4_writeBeside : List Cond := .code yX4_writeBeside cX4_writeBeside 6 (some .boolean) :: ([.fieldLink RX4 41 "TwinWritesModel" "framePage" "[I", .fieldLink RX4 16 "TwinWritesModel" "besideStamp" "[I", .fieldLink RX4 44 "TwinWritesModel" "frameStamp" "[I", .fieldLink RX4 19 "TwinWritesModel" "besidePage" "[I", .fieldLink RX4 22 "TwinWritesModel" "besideWord" "[I", .fieldLink RX4 54 "TwinWritesModel" "frameWord" "[I", .methodLink RX4 91 yX4_mayWrite, .instanceMethod yX4_mayWrite, .selects RX4 yX4_mayWrite yX4_mayWrite, .initialized RX4, .code yX4_mayWrite cX4_mayWrite 1 (some .boolean), .fieldLink RX4 72 "TwinWritesModel" "power" "I", .fieldLink RX4 88 "TwinWritesModel" "sectors" "I", .methodLink RX4 85 yX4_goDown, .instanceMethod yX4_goDown, .selects RX4 yX4_goDown yX4_goDown, .code yX4_goDown cX4_goDown 2 none, .fieldLink RX4 78 "TwinWritesModel" "isDown" "Z", .fieldLink RX4 82 "TwinWritesModel" "waiting" "I", .fieldLink RX4 47 "TwinWritesModel" "isDirty" "[Z"] ++ wsX40)
def wsX4_isHomeWhole : List Cond := .code yX4_isHomeWhole cX4_isHomeWhole 3 (some .boolean) :: ([.fieldLink RX4 7 "TwinWritesModel" "homeStamp" "[I"] ++ wsX40)
def wsX4_isSlotWhole : List Cond := .code yX4_isSlotWhole cX4_isSlotWhole 4 (some .boolean) :: ([.fieldLink RX4 16 "TwinWritesModel" "besideStamp" "[I", .fieldLink RX4 19 "TwinWritesModel" "besidePage" "[I"] ++ wsX40)
def wsX4_logWaiting : List Cond := .code yX4_logWaiting cX4_logWaiting 3 (some .boolean) :: ([.fieldLink RX4 82 "TwinWritesModel" "waiting" "I", .fieldLink RX4 60 "TwinWritesModel" "waitNumber" "[I", .fieldLink RX4 25 "TwinWritesModel" "logNumber" "[I", .fieldLink RX4 28 "TwinWritesModel" "logPage" "[I", .fieldLink RX4 63 "TwinWritesModel" "waitPage" "[I", .fieldLink RX4 31 "TwinWritesModel" "logWhich" "[I", .fieldLink RX4 66 "TwinWritesModel" "waitWhich" "[I", .fieldLink RX4 34 "TwinWritesModel" "logWord" "[I", .fieldLink RX4 69 "TwinWritesModel" "waitWord" "[I", .methodLink RX4 91 yX4_mayWrite, .instanceMethod yX4_mayWrite, .selects RX4 yX4_mayWrite yX4_mayWrite, .initialized RX4, .code yX4_mayWrite cX4_mayWrite 1 (some .boolean), .fieldLink RX4 72 "TwinWritesModel" "power" "I", .fieldLink RX4 88 "TwinWritesModel" "sectors" "I", .methodLink RX4 85 yX4_goDown, .instanceMethod yX4_goDown, .selects RX4 yX4_goDown yX4_goDown, .code yX4_goDown cX4_goDown 2 none, .fieldLink RX4 78 "TwinWritesModel" "isDown" "Z", .fieldLink RX4 41 "TwinWritesModel" "framePage" "[I", .fieldLink RX4 47 "TwinWritesModel" "isDirty" "[Z"] ++ wsX40)
def wsX4_clean_r1 : List Cond := [Cond.fieldLink RX4 47 "TwinWritesModel" "isDirty" "[Z", Cond.fieldLink RX4 41 "TwinWritesModel" "framePage" "[I", Cond.fieldLink RX4 44 "TwinWritesModel" "frameStamp" "[I", Cond.fieldLink RX4 106 "TwinWritesModel" "cleaned" "I", Cond.methodLink RX4 95 yX4_logWaiting, Cond.instanceMethod yX4_logWaiting, Cond.selects RX4 yX4_logWaiting yX4_logWaiting, Cond.initialized RX4, Cond.code yX4_logWaiting cX4_logWaiting 3 (some .boolean), Cond.fieldLink RX4 82 "TwinWritesModel" "waiting" "I", Cond.fieldLink RX4 60 "TwinWritesModel" "waitNumber" "[I", Cond.fieldLink RX4 25 "TwinWritesModel" "logNumber" "[I", Cond.fieldLink RX4 28 "TwinWritesModel" "logPage" "[I", Cond.fieldLink RX4 63 "TwinWritesModel" "waitPage" "[I", Cond.fieldLink RX4 31 "TwinWritesModel" "logWhich" "[I", Cond.fieldLink RX4 66 "TwinWritesModel" "waitWhich" "[I", Cond.fieldLink RX4 34 "TwinWritesModel" "logWord" "[I", Cond.fieldLink RX4 69 "TwinWritesModel" "waitWord" "[I", Cond.methodLink RX4 91 yX4_mayWrite, Cond.instanceMethod yX4_mayWrite, Cond.selects RX4 yX4_mayWrite yX4_mayWrite, Cond.code yX4_mayWrite cX4_mayWrite 1 (some .boolean), Cond.fieldLink RX4 72 "TwinWritesModel" "power" "I", Cond.fieldLink RX4 88 "TwinWritesModel" "sectors" "I"]
def wsX4_clean_r2 : List Cond := [Cond.methodLink RX4 85 yX4_goDown, Cond.instanceMethod yX4_goDown, Cond.selects RX4 yX4_goDown yX4_goDown, Cond.code yX4_goDown cX4_goDown 2 none, Cond.fieldLink RX4 78 "TwinWritesModel" "isDown" "Z", Cond.methodLink RX4 98 yX4_writeBeside, Cond.instanceMethod yX4_writeBeside, Cond.selects RX4 yX4_writeBeside yX4_writeBeside, Cond.code yX4_writeBeside cX4_writeBeside 6 (some .boolean), Cond.fieldLink RX4 16 "TwinWritesModel" "besideStamp" "[I", Cond.fieldLink RX4 19 "TwinWritesModel" "besidePage" "[I", Cond.fieldLink RX4 22 "TwinWritesModel" "besideWord" "[I", Cond.fieldLink RX4 54 "TwinWritesModel" "frameWord" "[I", Cond.methodLink RX4 102 yX4_writeHome, Cond.instanceMethod yX4_writeHome, Cond.selects RX4 yX4_writeHome yX4_writeHome, Cond.code yX4_writeHome cX4_writeHome 7 (some .boolean), Cond.fieldLink RX4 7 "TwinWritesModel" "homeStamp" "[I", Cond.fieldLink RX4 13 "TwinWritesModel" "homeWord" "[I"]
def wsX4_clean : List Cond := .code yX4_clean cX4_clean 4 (some .boolean) :: ((wsX4_clean_r1 ++ wsX4_clean_r2) ++ wsX40)
def wsX4_bring_r1 : List Cond := [Cond.fieldLink RX4 41 "TwinWritesModel" "framePage" "[I", Cond.fieldLink RX4 51 "TwinWritesModel" "asked" "[I", Cond.fieldLink RX4 47 "TwinWritesModel" "isDirty" "[Z", Cond.fieldLink RX4 44 "TwinWritesModel" "frameStamp" "[I", Cond.fieldLink RX4 7 "TwinWritesModel" "homeStamp" "[I", Cond.fieldLink RX4 54 "TwinWritesModel" "frameWord" "[I", Cond.fieldLink RX4 13 "TwinWritesModel" "homeWord" "[I", Cond.fieldLink RX4 113 "TwinWritesModel" "clock" "I", Cond.methodLink RX4 109 yX4_clean, Cond.instanceMethod yX4_clean, Cond.selects RX4 yX4_clean yX4_clean, Cond.initialized RX4, Cond.code yX4_clean cX4_clean 4 (some .boolean), Cond.fieldLink RX4 106 "TwinWritesModel" "cleaned" "I", Cond.methodLink RX4 95 yX4_logWaiting, Cond.instanceMethod yX4_logWaiting, Cond.selects RX4 yX4_logWaiting yX4_logWaiting, Cond.code yX4_logWaiting cX4_logWaiting 3 (some .boolean), Cond.fieldLink RX4 82 "TwinWritesModel" "waiting" "I", Cond.fieldLink RX4 60 "TwinWritesModel" "waitNumber" "[I", Cond.fieldLink RX4 25 "TwinWritesModel" "logNumber" "[I", Cond.fieldLink RX4 28 "TwinWritesModel" "logPage" "[I", Cond.fieldLink RX4 63 "TwinWritesModel" "waitPage" "[I", Cond.fieldLink RX4 31 "TwinWritesModel" "logWhich" "[I"]
def wsX4_bring_r2 : List Cond := [Cond.fieldLink RX4 66 "TwinWritesModel" "waitWhich" "[I", Cond.fieldLink RX4 34 "TwinWritesModel" "logWord" "[I", Cond.fieldLink RX4 69 "TwinWritesModel" "waitWord" "[I", Cond.methodLink RX4 91 yX4_mayWrite, Cond.instanceMethod yX4_mayWrite, Cond.selects RX4 yX4_mayWrite yX4_mayWrite, Cond.code yX4_mayWrite cX4_mayWrite 1 (some .boolean), Cond.fieldLink RX4 72 "TwinWritesModel" "power" "I", Cond.fieldLink RX4 88 "TwinWritesModel" "sectors" "I", Cond.methodLink RX4 85 yX4_goDown, Cond.instanceMethod yX4_goDown, Cond.selects RX4 yX4_goDown yX4_goDown, Cond.code yX4_goDown cX4_goDown 2 none, Cond.fieldLink RX4 78 "TwinWritesModel" "isDown" "Z", Cond.methodLink RX4 98 yX4_writeBeside, Cond.instanceMethod yX4_writeBeside, Cond.selects RX4 yX4_writeBeside yX4_writeBeside, Cond.code yX4_writeBeside cX4_writeBeside 6 (some .boolean), Cond.fieldLink RX4 16 "TwinWritesModel" "besideStamp" "[I", Cond.fieldLink RX4 19 "TwinWritesModel" "besidePage" "[I", Cond.fieldLink RX4 22 "TwinWritesModel" "besideWord" "[I", Cond.methodLink RX4 102 yX4_writeHome, Cond.instanceMethod yX4_writeHome, Cond.selects RX4 yX4_writeHome yX4_writeHome]
def wsX4_bring_r3 : List Cond := [Cond.code yX4_writeHome cX4_writeHome 7 (some .boolean)]
def wsX4_bring : List Cond := .code yX4_bring cX4_bring 6 (some .int) :: ((wsX4_bring_r1 ++ (wsX4_bring_r2 ++ wsX4_bring_r3)) ++ wsX40)
def wsX4_check_r1 : List Cond := [Cond.fieldLink RX4 106 "TwinWritesModel" "cleaned" "I", Cond.fieldLink RX4 57 "TwinWritesModel" "next" "I", Cond.fieldLink RX4 37 "TwinWritesModel" "mark" "I", Cond.methodLink RX4 109 yX4_clean, Cond.instanceMethod yX4_clean, Cond.selects RX4 yX4_clean yX4_clean, Cond.initialized RX4, Cond.code yX4_clean cX4_clean 4 (some .boolean), Cond.fieldLink RX4 47 "TwinWritesModel" "isDirty" "[Z", Cond.fieldLink RX4 41 "TwinWritesModel" "framePage" "[I", Cond.fieldLink RX4 44 "TwinWritesModel" "frameStamp" "[I", Cond.methodLink RX4 95 yX4_logWaiting, Cond.instanceMethod yX4_logWaiting, Cond.selects RX4 yX4_logWaiting yX4_logWaiting, Cond.code yX4_logWaiting cX4_logWaiting 3 (some .boolean), Cond.fieldLink RX4 82 "TwinWritesModel" "waiting" "I", Cond.fieldLink RX4 60 "TwinWritesModel" "waitNumber" "[I", Cond.fieldLink RX4 25 "TwinWritesModel" "logNumber" "[I", Cond.fieldLink RX4 28 "TwinWritesModel" "logPage" "[I", Cond.fieldLink RX4 63 "TwinWritesModel" "waitPage" "[I", Cond.fieldLink RX4 31 "TwinWritesModel" "logWhich" "[I", Cond.fieldLink RX4 66 "TwinWritesModel" "waitWhich" "[I", Cond.fieldLink RX4 34 "TwinWritesModel" "logWord" "[I", Cond.fieldLink RX4 69 "TwinWritesModel" "waitWord" "[I"]
def wsX4_check_r2 : List Cond := [Cond.methodLink RX4 91 yX4_mayWrite, Cond.instanceMethod yX4_mayWrite, Cond.selects RX4 yX4_mayWrite yX4_mayWrite, Cond.code yX4_mayWrite cX4_mayWrite 1 (some .boolean), Cond.fieldLink RX4 72 "TwinWritesModel" "power" "I", Cond.fieldLink RX4 88 "TwinWritesModel" "sectors" "I", Cond.methodLink RX4 85 yX4_goDown, Cond.instanceMethod yX4_goDown, Cond.selects RX4 yX4_goDown yX4_goDown, Cond.code yX4_goDown cX4_goDown 2 none, Cond.fieldLink RX4 78 "TwinWritesModel" "isDown" "Z", Cond.methodLink RX4 98 yX4_writeBeside, Cond.instanceMethod yX4_writeBeside, Cond.selects RX4 yX4_writeBeside yX4_writeBeside, Cond.code yX4_writeBeside cX4_writeBeside 6 (some .boolean), Cond.fieldLink RX4 16 "TwinWritesModel" "besideStamp" "[I", Cond.fieldLink RX4 19 "TwinWritesModel" "besidePage" "[I", Cond.fieldLink RX4 22 "TwinWritesModel" "besideWord" "[I", Cond.fieldLink RX4 54 "TwinWritesModel" "frameWord" "[I", Cond.methodLink RX4 102 yX4_writeHome, Cond.instanceMethod yX4_writeHome, Cond.selects RX4 yX4_writeHome yX4_writeHome, Cond.code yX4_writeHome cX4_writeHome 7 (some .boolean), Cond.fieldLink RX4 7 "TwinWritesModel" "homeStamp" "[I"]
def wsX4_check_r3 : List Cond := [Cond.fieldLink RX4 13 "TwinWritesModel" "homeWord" "[I"]
def wsX4_check : List Cond := .code yX4_check cX4_check 2 (some .int) :: ((wsX4_check_r1 ++ (wsX4_check_r2 ++ wsX4_check_r3)) ++ wsX40)
def wsX4_room : List Cond := .code yX4_room cX4_room 1 (some .int) :: ([.fieldLink RX4 37 "TwinWritesModel" "mark" "I", .fieldLink RX4 57 "TwinWritesModel" "next" "I"] ++ wsX40)
def wsX4_change_r1 : List Cond := [Cond.fieldLink RX4 75 "TwinWritesModel" "thrown" "I", Cond.fieldLink RX4 78 "TwinWritesModel" "isDown" "Z", Cond.fieldLink RX4 54 "TwinWritesModel" "frameWord" "[I", Cond.fieldLink RX4 44 "TwinWritesModel" "frameStamp" "[I", Cond.fieldLink RX4 57 "TwinWritesModel" "next" "I", Cond.fieldLink RX4 47 "TwinWritesModel" "isDirty" "[Z", Cond.fieldLink RX4 60 "TwinWritesModel" "waitNumber" "[I", Cond.fieldLink RX4 82 "TwinWritesModel" "waiting" "I", Cond.fieldLink RX4 63 "TwinWritesModel" "waitPage" "[I", Cond.fieldLink RX4 66 "TwinWritesModel" "waitWhich" "[I", Cond.fieldLink RX4 69 "TwinWritesModel" "waitWord" "[I", Cond.methodLink RX4 116 yX4_in, Cond.static yX4_in, Cond.initialized RX4, Cond.code yX4_in cX4_in 3 (some .boolean), Cond.methodLink RX4 120 yX4_refuses, Cond.instanceMethod yX4_refuses, Cond.selects RX4 yX4_refuses yX4_refuses, Cond.code yX4_refuses cX4_refuses 3 (some .boolean), Cond.methodLink RX4 124 yX4_room, Cond.instanceMethod yX4_room, Cond.selects RX4 yX4_room yX4_room, Cond.code yX4_room cX4_room 1 (some .int), Cond.fieldLink RX4 37 "TwinWritesModel" "mark" "I"]
def wsX4_change_r2 : List Cond := [Cond.methodLink RX4 128 yX4_check, Cond.instanceMethod yX4_check, Cond.selects RX4 yX4_check yX4_check, Cond.code yX4_check cX4_check 2 (some .int), Cond.fieldLink RX4 106 "TwinWritesModel" "cleaned" "I", Cond.methodLink RX4 109 yX4_clean, Cond.instanceMethod yX4_clean, Cond.selects RX4 yX4_clean yX4_clean, Cond.code yX4_clean cX4_clean 4 (some .boolean), Cond.fieldLink RX4 41 "TwinWritesModel" "framePage" "[I", Cond.methodLink RX4 95 yX4_logWaiting, Cond.instanceMethod yX4_logWaiting, Cond.selects RX4 yX4_logWaiting yX4_logWaiting, Cond.code yX4_logWaiting cX4_logWaiting 3 (some .boolean), Cond.fieldLink RX4 25 "TwinWritesModel" "logNumber" "[I", Cond.fieldLink RX4 28 "TwinWritesModel" "logPage" "[I", Cond.fieldLink RX4 31 "TwinWritesModel" "logWhich" "[I", Cond.fieldLink RX4 34 "TwinWritesModel" "logWord" "[I", Cond.methodLink RX4 91 yX4_mayWrite, Cond.instanceMethod yX4_mayWrite, Cond.selects RX4 yX4_mayWrite yX4_mayWrite, Cond.code yX4_mayWrite cX4_mayWrite 1 (some .boolean), Cond.fieldLink RX4 72 "TwinWritesModel" "power" "I", Cond.fieldLink RX4 88 "TwinWritesModel" "sectors" "I"]
def wsX4_change_r3 : List Cond := [Cond.methodLink RX4 85 yX4_goDown, Cond.instanceMethod yX4_goDown, Cond.selects RX4 yX4_goDown yX4_goDown, Cond.code yX4_goDown cX4_goDown 2 none, Cond.methodLink RX4 98 yX4_writeBeside, Cond.instanceMethod yX4_writeBeside, Cond.selects RX4 yX4_writeBeside yX4_writeBeside, Cond.code yX4_writeBeside cX4_writeBeside 6 (some .boolean), Cond.fieldLink RX4 16 "TwinWritesModel" "besideStamp" "[I", Cond.fieldLink RX4 19 "TwinWritesModel" "besidePage" "[I", Cond.fieldLink RX4 22 "TwinWritesModel" "besideWord" "[I", Cond.methodLink RX4 102 yX4_writeHome, Cond.instanceMethod yX4_writeHome, Cond.selects RX4 yX4_writeHome yX4_writeHome, Cond.code yX4_writeHome cX4_writeHome 7 (some .boolean), Cond.fieldLink RX4 7 "TwinWritesModel" "homeStamp" "[I", Cond.fieldLink RX4 13 "TwinWritesModel" "homeWord" "[I", Cond.methodLink RX4 131 yX4_bring, Cond.instanceMethod yX4_bring, Cond.selects RX4 yX4_bring yX4_bring, Cond.code yX4_bring cX4_bring 6 (some .int), Cond.fieldLink RX4 51 "TwinWritesModel" "asked" "[I", Cond.fieldLink RX4 113 "TwinWritesModel" "clock" "I"]
def wsX4_change : List Cond := .code yX4_change cX4_change 9 (some .int) :: ((wsX4_change_r1 ++ (wsX4_change_r2 ++ wsX4_change_r3)) ++ wsX40)
def wsX4_read_r1 : List Cond := [Cond.fieldLink RX4 75 "TwinWritesModel" "thrown" "I", Cond.fieldLink RX4 78 "TwinWritesModel" "isDown" "Z", Cond.fieldLink RX4 54 "TwinWritesModel" "frameWord" "[I", Cond.fieldLink RX4 135 "TwinWritesModel" "got" "I", Cond.methodLink RX4 116 yX4_in, Cond.static yX4_in, Cond.initialized RX4, Cond.code yX4_in cX4_in 3 (some .boolean), Cond.methodLink RX4 120 yX4_refuses, Cond.instanceMethod yX4_refuses, Cond.selects RX4 yX4_refuses yX4_refuses, Cond.code yX4_refuses cX4_refuses 3 (some .boolean), Cond.methodLink RX4 131 yX4_bring, Cond.instanceMethod yX4_bring, Cond.selects RX4 yX4_bring yX4_bring, Cond.code yX4_bring cX4_bring 6 (some .int), Cond.fieldLink RX4 41 "TwinWritesModel" "framePage" "[I", Cond.fieldLink RX4 51 "TwinWritesModel" "asked" "[I", Cond.fieldLink RX4 47 "TwinWritesModel" "isDirty" "[Z", Cond.fieldLink RX4 44 "TwinWritesModel" "frameStamp" "[I", Cond.fieldLink RX4 7 "TwinWritesModel" "homeStamp" "[I", Cond.fieldLink RX4 13 "TwinWritesModel" "homeWord" "[I", Cond.fieldLink RX4 113 "TwinWritesModel" "clock" "I", Cond.methodLink RX4 109 yX4_clean]
def wsX4_read_r2 : List Cond := [Cond.instanceMethod yX4_clean, Cond.selects RX4 yX4_clean yX4_clean, Cond.code yX4_clean cX4_clean 4 (some .boolean), Cond.fieldLink RX4 106 "TwinWritesModel" "cleaned" "I", Cond.methodLink RX4 95 yX4_logWaiting, Cond.instanceMethod yX4_logWaiting, Cond.selects RX4 yX4_logWaiting yX4_logWaiting, Cond.code yX4_logWaiting cX4_logWaiting 3 (some .boolean), Cond.fieldLink RX4 82 "TwinWritesModel" "waiting" "I", Cond.fieldLink RX4 60 "TwinWritesModel" "waitNumber" "[I", Cond.fieldLink RX4 25 "TwinWritesModel" "logNumber" "[I", Cond.fieldLink RX4 28 "TwinWritesModel" "logPage" "[I", Cond.fieldLink RX4 63 "TwinWritesModel" "waitPage" "[I", Cond.fieldLink RX4 31 "TwinWritesModel" "logWhich" "[I", Cond.fieldLink RX4 66 "TwinWritesModel" "waitWhich" "[I", Cond.fieldLink RX4 34 "TwinWritesModel" "logWord" "[I", Cond.fieldLink RX4 69 "TwinWritesModel" "waitWord" "[I", Cond.methodLink RX4 91 yX4_mayWrite, Cond.instanceMethod yX4_mayWrite, Cond.selects RX4 yX4_mayWrite yX4_mayWrite, Cond.code yX4_mayWrite cX4_mayWrite 1 (some .boolean), Cond.fieldLink RX4 72 "TwinWritesModel" "power" "I", Cond.fieldLink RX4 88 "TwinWritesModel" "sectors" "I", Cond.methodLink RX4 85 yX4_goDown]
def wsX4_read_r3 : List Cond := [Cond.instanceMethod yX4_goDown, Cond.selects RX4 yX4_goDown yX4_goDown, Cond.code yX4_goDown cX4_goDown 2 none, Cond.methodLink RX4 98 yX4_writeBeside, Cond.instanceMethod yX4_writeBeside, Cond.selects RX4 yX4_writeBeside yX4_writeBeside, Cond.code yX4_writeBeside cX4_writeBeside 6 (some .boolean), Cond.fieldLink RX4 16 "TwinWritesModel" "besideStamp" "[I", Cond.fieldLink RX4 19 "TwinWritesModel" "besidePage" "[I", Cond.fieldLink RX4 22 "TwinWritesModel" "besideWord" "[I", Cond.methodLink RX4 102 yX4_writeHome, Cond.instanceMethod yX4_writeHome, Cond.selects RX4 yX4_writeHome yX4_writeHome, Cond.code yX4_writeHome cX4_writeHome 7 (some .boolean)]
def wsX4_read : List Cond := .code yX4_read cX4_read 4 (some .int) :: ((wsX4_read_r1 ++ (wsX4_read_r2 ++ wsX4_read_r3)) ++ wsX40)
def wsX4_got : List Cond := .code yX4_got cX4_got 1 (some .int) :: ([.fieldLink RX4 75 "TwinWritesModel" "thrown" "I", .fieldLink RX4 135 "TwinWritesModel" "got" "I"] ++ wsX40)
def wsX4_sync_r1 : List Cond := [Cond.fieldLink RX4 75 "TwinWritesModel" "thrown" "I", Cond.fieldLink RX4 78 "TwinWritesModel" "isDown" "Z", Cond.fieldLink RX4 82 "TwinWritesModel" "waiting" "I", Cond.methodLink RX4 120 yX4_refuses, Cond.instanceMethod yX4_refuses, Cond.selects RX4 yX4_refuses yX4_refuses, Cond.initialized RX4, Cond.code yX4_refuses cX4_refuses 3 (some .boolean), Cond.methodLink RX4 95 yX4_logWaiting, Cond.instanceMethod yX4_logWaiting, Cond.selects RX4 yX4_logWaiting yX4_logWaiting, Cond.code yX4_logWaiting cX4_logWaiting 3 (some .boolean), Cond.fieldLink RX4 60 "TwinWritesModel" "waitNumber" "[I", Cond.fieldLink RX4 25 "TwinWritesModel" "logNumber" "[I", Cond.fieldLink RX4 28 "TwinWritesModel" "logPage" "[I", Cond.fieldLink RX4 63 "TwinWritesModel" "waitPage" "[I", Cond.fieldLink RX4 31 "TwinWritesModel" "logWhich" "[I", Cond.fieldLink RX4 66 "TwinWritesModel" "waitWhich" "[I", Cond.fieldLink RX4 34 "TwinWritesModel" "logWord" "[I", Cond.fieldLink RX4 69 "TwinWritesModel" "waitWord" "[I", Cond.methodLink RX4 91 yX4_mayWrite, Cond.instanceMethod yX4_mayWrite, Cond.selects RX4 yX4_mayWrite yX4_mayWrite, Cond.code yX4_mayWrite cX4_mayWrite 1 (some .boolean)]
def wsX4_sync_r2 : List Cond := [Cond.fieldLink RX4 72 "TwinWritesModel" "power" "I", Cond.fieldLink RX4 88 "TwinWritesModel" "sectors" "I", Cond.methodLink RX4 85 yX4_goDown, Cond.instanceMethod yX4_goDown, Cond.selects RX4 yX4_goDown yX4_goDown, Cond.code yX4_goDown cX4_goDown 2 none, Cond.fieldLink RX4 41 "TwinWritesModel" "framePage" "[I", Cond.fieldLink RX4 47 "TwinWritesModel" "isDirty" "[Z"]
def wsX4_sync : List Cond := .code yX4_sync cX4_sync 2 (some .int) :: ((wsX4_sync_r1 ++ wsX4_sync_r2) ++ wsX40)
def wsX4_checkpoint_r1 : List Cond := [Cond.fieldLink RX4 75 "TwinWritesModel" "thrown" "I", Cond.fieldLink RX4 78 "TwinWritesModel" "isDown" "Z", Cond.methodLink RX4 120 yX4_refuses, Cond.instanceMethod yX4_refuses, Cond.selects RX4 yX4_refuses yX4_refuses, Cond.initialized RX4, Cond.code yX4_refuses cX4_refuses 3 (some .boolean), Cond.methodLink RX4 128 yX4_check, Cond.instanceMethod yX4_check, Cond.selects RX4 yX4_check yX4_check, Cond.code yX4_check cX4_check 2 (some .int), Cond.fieldLink RX4 106 "TwinWritesModel" "cleaned" "I", Cond.fieldLink RX4 57 "TwinWritesModel" "next" "I", Cond.fieldLink RX4 37 "TwinWritesModel" "mark" "I", Cond.methodLink RX4 109 yX4_clean, Cond.instanceMethod yX4_clean, Cond.selects RX4 yX4_clean yX4_clean, Cond.code yX4_clean cX4_clean 4 (some .boolean), Cond.fieldLink RX4 47 "TwinWritesModel" "isDirty" "[Z", Cond.fieldLink RX4 41 "TwinWritesModel" "framePage" "[I", Cond.fieldLink RX4 44 "TwinWritesModel" "frameStamp" "[I", Cond.methodLink RX4 95 yX4_logWaiting, Cond.instanceMethod yX4_logWaiting, Cond.selects RX4 yX4_logWaiting yX4_logWaiting]
def wsX4_checkpoint_r2 : List Cond := [Cond.code yX4_logWaiting cX4_logWaiting 3 (some .boolean), Cond.fieldLink RX4 82 "TwinWritesModel" "waiting" "I", Cond.fieldLink RX4 60 "TwinWritesModel" "waitNumber" "[I", Cond.fieldLink RX4 25 "TwinWritesModel" "logNumber" "[I", Cond.fieldLink RX4 28 "TwinWritesModel" "logPage" "[I", Cond.fieldLink RX4 63 "TwinWritesModel" "waitPage" "[I", Cond.fieldLink RX4 31 "TwinWritesModel" "logWhich" "[I", Cond.fieldLink RX4 66 "TwinWritesModel" "waitWhich" "[I", Cond.fieldLink RX4 34 "TwinWritesModel" "logWord" "[I", Cond.fieldLink RX4 69 "TwinWritesModel" "waitWord" "[I", Cond.methodLink RX4 91 yX4_mayWrite, Cond.instanceMethod yX4_mayWrite, Cond.selects RX4 yX4_mayWrite yX4_mayWrite, Cond.code yX4_mayWrite cX4_mayWrite 1 (some .boolean), Cond.fieldLink RX4 72 "TwinWritesModel" "power" "I", Cond.fieldLink RX4 88 "TwinWritesModel" "sectors" "I", Cond.methodLink RX4 85 yX4_goDown, Cond.instanceMethod yX4_goDown, Cond.selects RX4 yX4_goDown yX4_goDown, Cond.code yX4_goDown cX4_goDown 2 none, Cond.methodLink RX4 98 yX4_writeBeside, Cond.instanceMethod yX4_writeBeside, Cond.selects RX4 yX4_writeBeside yX4_writeBeside, Cond.code yX4_writeBeside cX4_writeBeside 6 (some .boolean)]
def wsX4_checkpoint_r3 : List Cond := [Cond.fieldLink RX4 16 "TwinWritesModel" "besideStamp" "[I", Cond.fieldLink RX4 19 "TwinWritesModel" "besidePage" "[I", Cond.fieldLink RX4 22 "TwinWritesModel" "besideWord" "[I", Cond.fieldLink RX4 54 "TwinWritesModel" "frameWord" "[I", Cond.methodLink RX4 102 yX4_writeHome, Cond.instanceMethod yX4_writeHome, Cond.selects RX4 yX4_writeHome yX4_writeHome, Cond.code yX4_writeHome cX4_writeHome 7 (some .boolean), Cond.fieldLink RX4 7 "TwinWritesModel" "homeStamp" "[I", Cond.fieldLink RX4 13 "TwinWritesModel" "homeWord" "[I"]
def wsX4_checkpoint : List Cond := .code yX4_checkpoint cX4_checkpoint 1 (some .int) :: ((wsX4_checkpoint_r1 ++ (wsX4_checkpoint_r2 ++ wsX4_checkpoint_r3)) ++ wsX40)
def wsX4_power : List Cond := .code yX4_power cX4_power 2 none :: ([.fieldLink RX4 75 "TwinWritesModel" "thrown" "I", .fieldLink RX4 72 "TwinWritesModel" "power" "I", .methodLink RX4 116 yX4_in, .static yX4_in, .initialized RX4, .code yX4_in cX4_in 3 (some .boolean), .methodLink RX4 120 yX4_refuses, .instanceMethod yX4_refuses, .selects RX4 yX4_refuses yX4_refuses, .code yX4_refuses cX4_refuses 3 (some .boolean)] ++ wsX40)
def wsX4_mend_r1 : List Cond := [Cond.fieldLink RX4 19 "TwinWritesModel" "besidePage" "[I", Cond.fieldLink RX4 16 "TwinWritesModel" "besideStamp" "[I", Cond.fieldLink RX4 144 "TwinWritesModel" "mended" "I", Cond.methodLink RX4 138 yX4_isHomeWhole, Cond.instanceMethod yX4_isHomeWhole, Cond.selects RX4 yX4_isHomeWhole yX4_isHomeWhole, Cond.initialized RX4, Cond.code yX4_isHomeWhole cX4_isHomeWhole 3 (some .boolean), Cond.fieldLink RX4 7 "TwinWritesModel" "homeStamp" "[I", Cond.methodLink RX4 141 yX4_isSlotWhole, Cond.instanceMethod yX4_isSlotWhole, Cond.selects RX4 yX4_isSlotWhole yX4_isSlotWhole, Cond.code yX4_isSlotWhole cX4_isSlotWhole 4 (some .boolean), Cond.methodLink RX4 102 yX4_writeHome, Cond.instanceMethod yX4_writeHome, Cond.selects RX4 yX4_writeHome yX4_writeHome, Cond.code yX4_writeHome cX4_writeHome 7 (some .boolean), Cond.fieldLink RX4 13 "TwinWritesModel" "homeWord" "[I", Cond.fieldLink RX4 54 "TwinWritesModel" "frameWord" "[I", Cond.fieldLink RX4 22 "TwinWritesModel" "besideWord" "[I", Cond.methodLink RX4 91 yX4_mayWrite, Cond.instanceMethod yX4_mayWrite, Cond.selects RX4 yX4_mayWrite yX4_mayWrite, Cond.code yX4_mayWrite cX4_mayWrite 1 (some .boolean)]
def wsX4_mend_r2 : List Cond := [Cond.fieldLink RX4 72 "TwinWritesModel" "power" "I", Cond.fieldLink RX4 88 "TwinWritesModel" "sectors" "I", Cond.methodLink RX4 85 yX4_goDown, Cond.instanceMethod yX4_goDown, Cond.selects RX4 yX4_goDown yX4_goDown, Cond.code yX4_goDown cX4_goDown 2 none, Cond.fieldLink RX4 78 "TwinWritesModel" "isDown" "Z", Cond.fieldLink RX4 82 "TwinWritesModel" "waiting" "I", Cond.fieldLink RX4 41 "TwinWritesModel" "framePage" "[I", Cond.fieldLink RX4 47 "TwinWritesModel" "isDirty" "[Z"]
def wsX4_mend : List Cond := .code yX4_mend cX4_mend 5 (some .boolean) :: ((wsX4_mend_r1 ++ wsX4_mend_r2) ++ wsX40)
def wsX4_recover_r1 : List Cond := [Cond.fieldLink RX4 75 "TwinWritesModel" "thrown" "I", Cond.fieldLink RX4 78 "TwinWritesModel" "isDown" "Z", Cond.fieldLink RX4 37 "TwinWritesModel" "mark" "I", Cond.fieldLink RX4 25 "TwinWritesModel" "logNumber" "[I", Cond.fieldLink RX4 28 "TwinWritesModel" "logPage" "[I", Cond.fieldLink RX4 44 "TwinWritesModel" "frameStamp" "[I", Cond.fieldLink RX4 54 "TwinWritesModel" "frameWord" "[I", Cond.fieldLink RX4 31 "TwinWritesModel" "logWhich" "[I", Cond.fieldLink RX4 34 "TwinWritesModel" "logWord" "[I", Cond.fieldLink RX4 47 "TwinWritesModel" "isDirty" "[Z", Cond.fieldLink RX4 57 "TwinWritesModel" "next" "I", Cond.methodLink RX4 120 yX4_refuses, Cond.instanceMethod yX4_refuses, Cond.selects RX4 yX4_refuses yX4_refuses, Cond.initialized RX4, Cond.code yX4_refuses cX4_refuses 3 (some .boolean), Cond.methodLink RX4 147 yX4_mend, Cond.instanceMethod yX4_mend, Cond.selects RX4 yX4_mend yX4_mend, Cond.code yX4_mend cX4_mend 5 (some .boolean), Cond.fieldLink RX4 19 "TwinWritesModel" "besidePage" "[I", Cond.fieldLink RX4 16 "TwinWritesModel" "besideStamp" "[I", Cond.fieldLink RX4 144 "TwinWritesModel" "mended" "I", Cond.methodLink RX4 138 yX4_isHomeWhole]
def wsX4_recover_r2 : List Cond := [Cond.instanceMethod yX4_isHomeWhole, Cond.selects RX4 yX4_isHomeWhole yX4_isHomeWhole, Cond.code yX4_isHomeWhole cX4_isHomeWhole 3 (some .boolean), Cond.fieldLink RX4 7 "TwinWritesModel" "homeStamp" "[I", Cond.methodLink RX4 141 yX4_isSlotWhole, Cond.instanceMethod yX4_isSlotWhole, Cond.selects RX4 yX4_isSlotWhole yX4_isSlotWhole, Cond.code yX4_isSlotWhole cX4_isSlotWhole 4 (some .boolean), Cond.methodLink RX4 102 yX4_writeHome, Cond.instanceMethod yX4_writeHome, Cond.selects RX4 yX4_writeHome yX4_writeHome, Cond.code yX4_writeHome cX4_writeHome 7 (some .boolean), Cond.fieldLink RX4 13 "TwinWritesModel" "homeWord" "[I", Cond.fieldLink RX4 22 "TwinWritesModel" "besideWord" "[I", Cond.methodLink RX4 91 yX4_mayWrite, Cond.instanceMethod yX4_mayWrite, Cond.selects RX4 yX4_mayWrite yX4_mayWrite, Cond.code yX4_mayWrite cX4_mayWrite 1 (some .boolean), Cond.fieldLink RX4 72 "TwinWritesModel" "power" "I", Cond.fieldLink RX4 88 "TwinWritesModel" "sectors" "I", Cond.methodLink RX4 85 yX4_goDown, Cond.instanceMethod yX4_goDown, Cond.selects RX4 yX4_goDown yX4_goDown, Cond.code yX4_goDown cX4_goDown 2 none]
def wsX4_recover_r3 : List Cond := [Cond.fieldLink RX4 82 "TwinWritesModel" "waiting" "I", Cond.fieldLink RX4 41 "TwinWritesModel" "framePage" "[I", Cond.methodLink RX4 131 yX4_bring, Cond.instanceMethod yX4_bring, Cond.selects RX4 yX4_bring yX4_bring, Cond.code yX4_bring cX4_bring 6 (some .int), Cond.fieldLink RX4 51 "TwinWritesModel" "asked" "[I", Cond.fieldLink RX4 113 "TwinWritesModel" "clock" "I", Cond.methodLink RX4 109 yX4_clean, Cond.instanceMethod yX4_clean, Cond.selects RX4 yX4_clean yX4_clean, Cond.code yX4_clean cX4_clean 4 (some .boolean), Cond.fieldLink RX4 106 "TwinWritesModel" "cleaned" "I", Cond.methodLink RX4 95 yX4_logWaiting, Cond.instanceMethod yX4_logWaiting, Cond.selects RX4 yX4_logWaiting yX4_logWaiting, Cond.code yX4_logWaiting cX4_logWaiting 3 (some .boolean), Cond.fieldLink RX4 60 "TwinWritesModel" "waitNumber" "[I", Cond.fieldLink RX4 63 "TwinWritesModel" "waitPage" "[I", Cond.fieldLink RX4 66 "TwinWritesModel" "waitWhich" "[I", Cond.fieldLink RX4 69 "TwinWritesModel" "waitWord" "[I", Cond.methodLink RX4 98 yX4_writeBeside, Cond.instanceMethod yX4_writeBeside, Cond.selects RX4 yX4_writeBeside yX4_writeBeside]
def wsX4_recover_r4 : List Cond := [Cond.code yX4_writeBeside cX4_writeBeside 6 (some .boolean)]
def wsX4_recover : List Cond := .code yX4_recover cX4_recover 4 (some .int) :: ((wsX4_recover_r1 ++ (wsX4_recover_r2 ++ (wsX4_recover_r3 ++ wsX4_recover_r4))) ++ wsX40)
def wsX4_cut : List Cond := .code yX4_cut cX4_cut 2 (some .int) :: ([.fieldLink RX4 75 "TwinWritesModel" "thrown" "I", .fieldLink RX4 78 "TwinWritesModel" "isDown" "Z", .fieldLink RX4 82 "TwinWritesModel" "waiting" "I", .methodLink RX4 120 yX4_refuses, .instanceMethod yX4_refuses, .selects RX4 yX4_refuses yX4_refuses, .initialized RX4, .code yX4_refuses cX4_refuses 3 (some .boolean), .methodLink RX4 85 yX4_goDown, .instanceMethod yX4_goDown, .selects RX4 yX4_goDown yX4_goDown, .code yX4_goDown cX4_goDown 2 none, .fieldLink RX4 72 "TwinWritesModel" "power" "I", .fieldLink RX4 41 "TwinWritesModel" "framePage" "[I", .fieldLink RX4 47 "TwinWritesModel" "isDirty" "[Z"] ++ wsX40)
def wsX4_disk : List Cond := .code yX4_disk cX4_disk 5 (some .int) :: ([.fieldLink RX4 75 "TwinWritesModel" "thrown" "I", .fieldLink RX4 13 "TwinWritesModel" "homeWord" "[I", .fieldLink RX4 7 "TwinWritesModel" "homeStamp" "[I", .fieldLink RX4 22 "TwinWritesModel" "besideWord" "[I", .fieldLink RX4 16 "TwinWritesModel" "besideStamp" "[I", .fieldLink RX4 19 "TwinWritesModel" "besidePage" "[I", .fieldLink RX4 37 "TwinWritesModel" "mark" "I", .fieldLink RX4 25 "TwinWritesModel" "logNumber" "[I", .fieldLink RX4 28 "TwinWritesModel" "logPage" "[I", .fieldLink RX4 31 "TwinWritesModel" "logWhich" "[I", .fieldLink RX4 34 "TwinWritesModel" "logWord" "[I", .methodLink RX4 116 yX4_in, .static yX4_in, .initialized RX4, .code yX4_in cX4_in 3 (some .boolean), .methodLink RX4 120 yX4_refuses, .instanceMethod yX4_refuses, .selects RX4 yX4_refuses yX4_refuses, .code yX4_refuses cX4_refuses 3 (some .boolean)] ++ wsX40)
def wsX4_frame : List Cond := .code yX4_frame cX4_frame 3 (some .int) :: ([.fieldLink RX4 75 "TwinWritesModel" "thrown" "I", .fieldLink RX4 41 "TwinWritesModel" "framePage" "[I", .fieldLink RX4 44 "TwinWritesModel" "frameStamp" "[I", .fieldLink RX4 47 "TwinWritesModel" "isDirty" "[Z", .fieldLink RX4 54 "TwinWritesModel" "frameWord" "[I", .methodLink RX4 116 yX4_in, .static yX4_in, .initialized RX4, .code yX4_in cX4_in 3 (some .boolean), .methodLink RX4 120 yX4_refuses, .instanceMethod yX4_refuses, .selects RX4 yX4_refuses yX4_refuses, .code yX4_refuses cX4_refuses 3 (some .boolean)] ++ wsX40)
def wsX4_count : List Cond := .code yX4_count cX4_count 2 (some .int) :: ([.fieldLink RX4 75 "TwinWritesModel" "thrown" "I", .fieldLink RX4 78 "TwinWritesModel" "isDown" "Z", .fieldLink RX4 57 "TwinWritesModel" "next" "I", .fieldLink RX4 82 "TwinWritesModel" "waiting" "I", .fieldLink RX4 88 "TwinWritesModel" "sectors" "I", .fieldLink RX4 106 "TwinWritesModel" "cleaned" "I", .fieldLink RX4 144 "TwinWritesModel" "mended" "I", .methodLink RX4 116 yX4_in, .static yX4_in, .initialized RX4, .code yX4_in cX4_in 3 (some .boolean), .methodLink RX4 120 yX4_refuses, .instanceMethod yX4_refuses, .selects RX4 yX4_refuses yX4_refuses, .code yX4_refuses cX4_refuses 3 (some .boolean), .methodLink RX4 124 yX4_room, .instanceMethod yX4_room, .selects RX4 yX4_room yX4_room, .code yX4_room cX4_room 1 (some .int), .fieldLink RX4 37 "TwinWritesModel" "mark" "I"] ++ wsX40)
def wsL_change_r1 : List Cond := [Cond.classLink RL 13 "java/lang/IndexOutOfBoundsException", Cond.classLink RL 15 "java/lang/IllegalStateException", Cond.methodLink RL 7 yX3_change, Cond.instanceMethod yX3_change, Cond.selects RX3 yX3_change yX3_change, Cond.initialized RX3, Cond.code yX3_change cX3_change 7 (some .int), Cond.classLink RX3 74 "java/lang/IndexOutOfBoundsException", Cond.initialized "java/lang/IndexOutOfBoundsException", Cond.classLink RX3 83 "java/lang/IllegalStateException", Cond.initialized "java/lang/IllegalStateException", Cond.fieldLink RX3 31 "TwinWrites" "down" "Z", Cond.fieldLink RX3 46 "TwinWrites" "frames" "[LTwinWrites$Frame;", Cond.fieldLink RX3 56 "TwinWrites" "nextNumber" "I", Cond.methodLink RX3 70 yX3_isIn, Cond.static yX3_isIn, Cond.code yX3_isIn cX3_isIn 2 (some .boolean), Cond.methodLink RX3 88 yX3_room, Cond.instanceMethod yX3_room, Cond.selects RX3 yX3_room yX3_room, Cond.code yX3_room cX3_room 1 (some .int), Cond.fieldLink RX3 24 "TwinWrites" "mark" "I", Cond.methodLink RX3 92 yX3_cleanAllAndMark, Cond.instanceMethod yX3_cleanAllAndMark]
def wsL_change_r2 : List Cond := [Cond.selects RX3 yX3_cleanAllAndMark yX3_cleanAllAndMark, Cond.code yX3_cleanAllAndMark cX3_cleanAllAndMark 2 (some .int), Cond.methodLink RX3 190 yX3_cleanDirty, Cond.instanceMethod yX3_cleanDirty, Cond.selects RX3 yX3_cleanDirty yX3_cleanDirty, Cond.code yX3_cleanDirty cX3_cleanDirty 6 (some .int), Cond.fieldLink RX3 174 "TwinWrites$Frame" "dirty" "Z", Cond.fieldLink RX3 15 "TwinWrites" "slots" "[LTwinWrites$Place;", Cond.fieldLink RX3 177 "TwinWrites$Frame" "page" "I", Cond.fieldLink RX3 180 "TwinWrites$Frame" "stamp" "I", Cond.fieldLink RX3 106 "TwinWrites$Frame" "words" "[I", Cond.fieldLink RX3 38 "TwinWrites" "pagesCleaned" "I", Cond.methodLink RX3 110 yX3_logWaiting, Cond.instanceMethod yX3_logWaiting, Cond.selects RX3 yX3_logWaiting yX3_logWaiting, Cond.code yX3_logWaiting cX3_logWaiting 5 (some .int), Cond.fieldLink RX3 53 "TwinWrites" "waitingCount" "I", Cond.fieldLink RX3 20 "TwinWrites" "log" "[LTwinWrites$Change;", Cond.fieldLink RX3 50 "TwinWrites" "waiting" "[LTwinWrites$Change;", Cond.methodLink RX3 158 yX3_powerHolds, Cond.instanceMethod yX3_powerHolds, Cond.selects RX3 yX3_powerHolds yX3_powerHolds, Cond.code yX3_powerHolds cX3_powerHolds 1 (some .boolean), Cond.fieldLink RX3 28 "TwinWrites" "sectorsLeft" "I"]
def wsL_change_r3 : List Cond := [Cond.fieldLink RX3 35 "TwinWrites" "sectorsWritten" "I", Cond.methodLink RX3 161 yJ9_floorMod_7cf53, Cond.static yJ9_floorMod_7cf53, Cond.initialized RJ9, Cond.code yJ9_floorMod_7cf53 cJ9_floorMod_7cf53 3 (some .int), Cond.methodLink RX3 166 yX0_copy, Cond.instanceMethod yX0_copy, Cond.selects RX0 yX0_copy yX0_copy, Cond.initialized RX0, Cond.code yX0_copy cX0_copy 2 none, Cond.fieldLink RX0 7 "TwinWrites$Change" "number" "I", Cond.fieldLink RX0 13 "TwinWrites$Change" "page" "I", Cond.fieldLink RX0 16 "TwinWrites$Change" "at" "I", Cond.fieldLink RX0 19 "TwinWrites$Change" "word" "I", Cond.methodLink RX0 22 yX0_set, Cond.instanceMethod yX0_set, Cond.selects RX0 yX0_set yX0_set, Cond.code yX0_set cX0_set 5 none, Cond.methodLink RX3 183 yX3_writePage, Cond.instanceMethod yX3_writePage, Cond.selects RX3 yX3_writePage yX3_writePage, Cond.code yX3_writePage cX3_writePage 6 (some .boolean), Cond.methodLink RX3 170 yX2_putSector, Cond.instanceMethod yX2_putSector]
def wsL_change_r4 : List Cond := [Cond.selects RX2 yX2_putSector yX2_putSector, Cond.initialized RX2, Cond.code yX2_putSector cX2_putSector 7 none, Cond.fieldLink RX2 9 "TwinWrites$Place" "words" "[I", Cond.fieldLink RX2 15 "TwinWrites$Place" "stamps" "[I", Cond.fieldLink RX2 18 "TwinWrites$Place" "pages" "[I", Cond.methodLink RX3 187 yX3_writeDirtyHome, Cond.instanceMethod yX3_writeDirtyHome, Cond.selects RX3 yX3_writeDirtyHome yX3_writeDirtyHome, Cond.code yX3_writeDirtyHome cX3_writeDirtyHome 5 (some .boolean), Cond.fieldLink RX3 11 "TwinWrites" "homes" "[LTwinWrites$Place;", Cond.methodLink RX3 95 yX3_lose, Cond.instanceMethod yX3_lose, Cond.selects RX3 yX3_lose yX3_lose, Cond.code yX3_lose cX3_lose 1 (some .int), Cond.methodLink RX3 124 yX3_goDown, Cond.instanceMethod yX3_goDown, Cond.selects RX3 yX3_goDown yX3_goDown, Cond.code yX3_goDown cX3_goDown 2 none, Cond.methodLink RX3 155 yX1_empty, Cond.instanceMethod yX1_empty, Cond.selects RX1 yX1_empty yX1_empty, Cond.initialized RX1, Cond.code yX1_empty cX1_empty 2 none]
def wsL_change_r5 : List Cond := [Cond.fieldLink RX1 9 "TwinWrites$Frame" "words" "[I", Cond.fieldLink RX1 15 "TwinWrites$Frame" "page" "I", Cond.fieldLink RX1 19 "TwinWrites$Frame" "stamp" "I", Cond.fieldLink RX1 22 "TwinWrites$Frame" "dirty" "Z", Cond.fieldLink RX1 26 "TwinWrites$Frame" "asked" "I", Cond.methodLink RX3 98 yX3_bring, Cond.instanceMethod yX3_bring, Cond.selects RX3 yX3_bring yX3_bring, Cond.code yX3_bring cX3_bring 3 (some .int), Cond.fieldLink RX3 59 "TwinWrites" "askings" "I", Cond.fieldLink RX3 203 "TwinWrites$Frame" "asked" "I", Cond.methodLink RX3 193 yX3_frameOf, Cond.instanceMethod yX3_frameOf, Cond.selects RX3 yX3_frameOf yX3_frameOf, Cond.code yX3_frameOf cX3_frameOf 3 (some .int), Cond.methodLink RX3 196 yX3_frameToFill, Cond.instanceMethod yX3_frameToFill, Cond.selects RX3 yX3_frameToFill yX3_frameToFill, Cond.code yX3_frameToFill cX3_frameToFill 3 (some .int), Cond.methodLink RX3 199 yX1_fill, Cond.instanceMethod yX1_fill, Cond.selects RX1 yX1_fill yX1_fill, Cond.code yX1_fill cX1_fill 4 none, Cond.fieldLink RX1 29 "TwinWrites$Place" "words" "[I"]
def wsL_change_r6 : List Cond := [Cond.fieldLink RX1 32 "TwinWrites$Place" "stamps" "[I", Cond.methodLink RX3 102 yX3_changeWords, Cond.instanceMethod yX3_changeWords, Cond.selects RX3 yX3_changeWords yX3_changeWords, Cond.code yX3_changeWords cX3_changeWords 8 none, Cond.methodLink RX3 206 yX0_set, Cond.methodLink RX3 210 yX1_changeWord, Cond.instanceMethod yX1_changeWord, Cond.selects RX1 yX1_changeWord yX1_changeWord, Cond.code yX1_changeWord cX1_changeWord 4 none]
def wsL_change : List Cond := .codeWith yL_change cL_change 8 (some .int) [(0, 16, 19, 13), (0, 16, 23, 15)] :: ((wsL_change_r1 ++ (wsL_change_r2 ++ (wsL_change_r3 ++ (wsL_change_r4 ++ (wsL_change_r5 ++ wsL_change_r6))))) ++ wsX30 ++ wsX10 ++ wsX00 ++ wsX20 ++ (vx_atS RX3 78 "java/lang/IndexOutOfBoundsException" ["java/lang/RuntimeException", "java/lang/Exception"]).filter goodWord ++ (vx_atS RX3 87 "java/lang/IllegalStateException" ["java/lang/RuntimeException", "java/lang/Exception"]).filter goodWord)
def wsL_read_r1 : List Cond := [Cond.classLink RL 13 "java/lang/IndexOutOfBoundsException", Cond.classLink RL 15 "java/lang/IllegalStateException", Cond.methodLink RL 17 yX3_read, Cond.instanceMethod yX3_read, Cond.selects RX3 yX3_read yX3_read, Cond.initialized RX3, Cond.code yX3_read cX3_read 4 (some .int), Cond.classLink RX3 74 "java/lang/IndexOutOfBoundsException", Cond.initialized "java/lang/IndexOutOfBoundsException", Cond.classLink RX3 83 "java/lang/IllegalStateException", Cond.initialized "java/lang/IllegalStateException", Cond.fieldLink RX3 31 "TwinWrites" "down" "Z", Cond.fieldLink RX3 62 "TwinWrites" "wordGot" "I", Cond.fieldLink RX3 46 "TwinWrites" "frames" "[LTwinWrites$Frame;", Cond.fieldLink RX3 106 "TwinWrites$Frame" "words" "[I", Cond.methodLink RX3 70 yX3_isIn, Cond.static yX3_isIn, Cond.code yX3_isIn cX3_isIn 2 (some .boolean), Cond.methodLink RX3 98 yX3_bring, Cond.instanceMethod yX3_bring, Cond.selects RX3 yX3_bring yX3_bring, Cond.code yX3_bring cX3_bring 3 (some .int), Cond.fieldLink RX3 174 "TwinWrites$Frame" "dirty" "Z", Cond.fieldLink RX3 11 "TwinWrites" "homes" "[LTwinWrites$Place;"]
def wsL_read_r2 : List Cond := [Cond.fieldLink RX3 59 "TwinWrites" "askings" "I", Cond.fieldLink RX3 203 "TwinWrites$Frame" "asked" "I", Cond.methodLink RX3 193 yX3_frameOf, Cond.instanceMethod yX3_frameOf, Cond.selects RX3 yX3_frameOf yX3_frameOf, Cond.code yX3_frameOf cX3_frameOf 3 (some .int), Cond.fieldLink RX3 177 "TwinWrites$Frame" "page" "I", Cond.methodLink RX3 196 yX3_frameToFill, Cond.instanceMethod yX3_frameToFill, Cond.selects RX3 yX3_frameToFill yX3_frameToFill, Cond.code yX3_frameToFill cX3_frameToFill 3 (some .int), Cond.methodLink RX3 190 yX3_cleanDirty, Cond.instanceMethod yX3_cleanDirty, Cond.selects RX3 yX3_cleanDirty yX3_cleanDirty, Cond.code yX3_cleanDirty cX3_cleanDirty 6 (some .int), Cond.fieldLink RX3 15 "TwinWrites" "slots" "[LTwinWrites$Place;", Cond.fieldLink RX3 180 "TwinWrites$Frame" "stamp" "I", Cond.fieldLink RX3 38 "TwinWrites" "pagesCleaned" "I", Cond.methodLink RX3 110 yX3_logWaiting, Cond.instanceMethod yX3_logWaiting, Cond.selects RX3 yX3_logWaiting yX3_logWaiting, Cond.code yX3_logWaiting cX3_logWaiting 5 (some .int), Cond.fieldLink RX3 53 "TwinWrites" "waitingCount" "I", Cond.fieldLink RX3 56 "TwinWrites" "nextNumber" "I"]
def wsL_read_r3 : List Cond := [Cond.fieldLink RX3 20 "TwinWrites" "log" "[LTwinWrites$Change;", Cond.fieldLink RX3 50 "TwinWrites" "waiting" "[LTwinWrites$Change;", Cond.methodLink RX3 158 yX3_powerHolds, Cond.instanceMethod yX3_powerHolds, Cond.selects RX3 yX3_powerHolds yX3_powerHolds, Cond.code yX3_powerHolds cX3_powerHolds 1 (some .boolean), Cond.fieldLink RX3 28 "TwinWrites" "sectorsLeft" "I", Cond.fieldLink RX3 35 "TwinWrites" "sectorsWritten" "I", Cond.methodLink RX3 161 yJ9_floorMod_7cf53, Cond.static yJ9_floorMod_7cf53, Cond.initialized RJ9, Cond.code yJ9_floorMod_7cf53 cJ9_floorMod_7cf53 3 (some .int), Cond.methodLink RX3 166 yX0_copy, Cond.instanceMethod yX0_copy, Cond.selects RX0 yX0_copy yX0_copy, Cond.initialized RX0, Cond.code yX0_copy cX0_copy 2 none, Cond.fieldLink RX0 7 "TwinWrites$Change" "number" "I", Cond.fieldLink RX0 13 "TwinWrites$Change" "page" "I", Cond.fieldLink RX0 16 "TwinWrites$Change" "at" "I", Cond.fieldLink RX0 19 "TwinWrites$Change" "word" "I", Cond.methodLink RX0 22 yX0_set, Cond.instanceMethod yX0_set, Cond.selects RX0 yX0_set yX0_set]
def wsL_read_r4 : List Cond := [Cond.code yX0_set cX0_set 5 none, Cond.methodLink RX3 183 yX3_writePage, Cond.instanceMethod yX3_writePage, Cond.selects RX3 yX3_writePage yX3_writePage, Cond.code yX3_writePage cX3_writePage 6 (some .boolean), Cond.methodLink RX3 170 yX2_putSector, Cond.instanceMethod yX2_putSector, Cond.selects RX2 yX2_putSector yX2_putSector, Cond.initialized RX2, Cond.code yX2_putSector cX2_putSector 7 none, Cond.fieldLink RX2 9 "TwinWrites$Place" "words" "[I", Cond.fieldLink RX2 15 "TwinWrites$Place" "stamps" "[I", Cond.fieldLink RX2 18 "TwinWrites$Place" "pages" "[I", Cond.methodLink RX3 187 yX3_writeDirtyHome, Cond.instanceMethod yX3_writeDirtyHome, Cond.selects RX3 yX3_writeDirtyHome yX3_writeDirtyHome, Cond.code yX3_writeDirtyHome cX3_writeDirtyHome 5 (some .boolean), Cond.methodLink RX3 199 yX1_fill, Cond.instanceMethod yX1_fill, Cond.selects RX1 yX1_fill yX1_fill, Cond.initialized RX1, Cond.code yX1_fill cX1_fill 4 none, Cond.fieldLink RX1 9 "TwinWrites$Frame" "words" "[I", Cond.fieldLink RX1 29 "TwinWrites$Place" "words" "[I"]
def wsL_read_r5 : List Cond := [Cond.fieldLink RX1 15 "TwinWrites$Frame" "page" "I", Cond.fieldLink RX1 32 "TwinWrites$Place" "stamps" "[I", Cond.fieldLink RX1 19 "TwinWrites$Frame" "stamp" "I", Cond.fieldLink RX1 22 "TwinWrites$Frame" "dirty" "Z", Cond.methodLink RX3 95 yX3_lose, Cond.instanceMethod yX3_lose, Cond.selects RX3 yX3_lose yX3_lose, Cond.code yX3_lose cX3_lose 1 (some .int), Cond.methodLink RX3 124 yX3_goDown, Cond.instanceMethod yX3_goDown, Cond.selects RX3 yX3_goDown yX3_goDown, Cond.code yX3_goDown cX3_goDown 2 none, Cond.methodLink RX3 155 yX1_empty, Cond.instanceMethod yX1_empty, Cond.selects RX1 yX1_empty yX1_empty, Cond.code yX1_empty cX1_empty 2 none, Cond.fieldLink RX1 26 "TwinWrites$Frame" "asked" "I"]
def wsL_read : List Cond := .codeWith yL_read cL_read 5 (some .int) [(0, 10, 13, 13), (0, 10, 17, 15)] :: ((wsL_read_r1 ++ (wsL_read_r2 ++ (wsL_read_r3 ++ (wsL_read_r4 ++ wsL_read_r5)))) ++ wsX30 ++ wsX10 ++ wsX00 ++ wsX20 ++ (vx_atS RX3 78 "java/lang/IndexOutOfBoundsException" ["java/lang/RuntimeException", "java/lang/Exception"]).filter goodWord ++ (vx_atS RX3 87 "java/lang/IllegalStateException" ["java/lang/RuntimeException", "java/lang/Exception"]).filter goodWord)
def wsL_sync_r1 : List Cond := [Cond.classLink RL 15 "java/lang/IllegalStateException", Cond.methodLink RL 21 yX3_sync, Cond.instanceMethod yX3_sync, Cond.selects RX3 yX3_sync yX3_sync, Cond.initialized RX3, Cond.code yX3_sync cX3_sync 2 (some .int), Cond.classLink RX3 83 "java/lang/IllegalStateException", Cond.initialized "java/lang/IllegalStateException", Cond.fieldLink RX3 31 "TwinWrites" "down" "Z", Cond.methodLink RX3 110 yX3_logWaiting, Cond.instanceMethod yX3_logWaiting, Cond.selects RX3 yX3_logWaiting yX3_logWaiting, Cond.code yX3_logWaiting cX3_logWaiting 5 (some .int), Cond.fieldLink RX3 53 "TwinWrites" "waitingCount" "I", Cond.fieldLink RX3 56 "TwinWrites" "nextNumber" "I", Cond.fieldLink RX3 20 "TwinWrites" "log" "[LTwinWrites$Change;", Cond.fieldLink RX3 50 "TwinWrites" "waiting" "[LTwinWrites$Change;", Cond.methodLink RX3 158 yX3_powerHolds, Cond.instanceMethod yX3_powerHolds, Cond.selects RX3 yX3_powerHolds yX3_powerHolds, Cond.code yX3_powerHolds cX3_powerHolds 1 (some .boolean), Cond.fieldLink RX3 28 "TwinWrites" "sectorsLeft" "I", Cond.fieldLink RX3 35 "TwinWrites" "sectorsWritten" "I", Cond.methodLink RX3 161 yJ9_floorMod_7cf53]
def wsL_sync_r2 : List Cond := [Cond.static yJ9_floorMod_7cf53, Cond.initialized RJ9, Cond.code yJ9_floorMod_7cf53 cJ9_floorMod_7cf53 3 (some .int), Cond.methodLink RX3 166 yX0_copy, Cond.instanceMethod yX0_copy, Cond.selects RX0 yX0_copy yX0_copy, Cond.initialized RX0, Cond.code yX0_copy cX0_copy 2 none, Cond.fieldLink RX0 7 "TwinWrites$Change" "number" "I", Cond.fieldLink RX0 13 "TwinWrites$Change" "page" "I", Cond.fieldLink RX0 16 "TwinWrites$Change" "at" "I", Cond.fieldLink RX0 19 "TwinWrites$Change" "word" "I", Cond.methodLink RX0 22 yX0_set, Cond.instanceMethod yX0_set, Cond.selects RX0 yX0_set yX0_set, Cond.code yX0_set cX0_set 5 none, Cond.methodLink RX3 95 yX3_lose, Cond.instanceMethod yX3_lose, Cond.selects RX3 yX3_lose yX3_lose, Cond.code yX3_lose cX3_lose 1 (some .int), Cond.methodLink RX3 124 yX3_goDown, Cond.instanceMethod yX3_goDown, Cond.selects RX3 yX3_goDown yX3_goDown, Cond.code yX3_goDown cX3_goDown 2 none]
def wsL_sync_r3 : List Cond := [Cond.fieldLink RX3 46 "TwinWrites" "frames" "[LTwinWrites$Frame;", Cond.methodLink RX3 155 yX1_empty, Cond.instanceMethod yX1_empty, Cond.selects RX1 yX1_empty yX1_empty, Cond.initialized RX1, Cond.code yX1_empty cX1_empty 2 none, Cond.fieldLink RX1 9 "TwinWrites$Frame" "words" "[I", Cond.fieldLink RX1 15 "TwinWrites$Frame" "page" "I", Cond.fieldLink RX1 19 "TwinWrites$Frame" "stamp" "I", Cond.fieldLink RX1 22 "TwinWrites$Frame" "dirty" "Z", Cond.fieldLink RX1 26 "TwinWrites$Frame" "asked" "I"]
def wsL_sync : List Cond := .codeWith yL_sync cL_sync 3 (some .int) [(0, 8, 11, 15)] :: ((wsL_sync_r1 ++ (wsL_sync_r2 ++ wsL_sync_r3)) ++ wsX30 ++ wsX00 ++ wsX10 ++ (vx_atS RX3 87 "java/lang/IllegalStateException" ["java/lang/RuntimeException", "java/lang/Exception"]).filter goodWord)
def wsL_checkpoint_r1 : List Cond := [Cond.classLink RL 15 "java/lang/IllegalStateException", Cond.methodLink RL 25 yX3_checkpoint, Cond.instanceMethod yX3_checkpoint, Cond.selects RX3 yX3_checkpoint yX3_checkpoint, Cond.initialized RX3, Cond.code yX3_checkpoint cX3_checkpoint 2 (some .int), Cond.classLink RX3 83 "java/lang/IllegalStateException", Cond.initialized "java/lang/IllegalStateException", Cond.fieldLink RX3 31 "TwinWrites" "down" "Z", Cond.methodLink RX3 92 yX3_cleanAllAndMark, Cond.instanceMethod yX3_cleanAllAndMark, Cond.selects RX3 yX3_cleanAllAndMark yX3_cleanAllAndMark, Cond.code yX3_cleanAllAndMark cX3_cleanAllAndMark 2 (some .int), Cond.fieldLink RX3 56 "TwinWrites" "nextNumber" "I", Cond.fieldLink RX3 24 "TwinWrites" "mark" "I", Cond.methodLink RX3 190 yX3_cleanDirty, Cond.instanceMethod yX3_cleanDirty, Cond.selects RX3 yX3_cleanDirty yX3_cleanDirty, Cond.code yX3_cleanDirty cX3_cleanDirty 6 (some .int), Cond.fieldLink RX3 46 "TwinWrites" "frames" "[LTwinWrites$Frame;", Cond.fieldLink RX3 174 "TwinWrites$Frame" "dirty" "Z", Cond.fieldLink RX3 15 "TwinWrites" "slots" "[LTwinWrites$Place;", Cond.fieldLink RX3 177 "TwinWrites$Frame" "page" "I", Cond.fieldLink RX3 180 "TwinWrites$Frame" "stamp" "I"]
def wsL_checkpoint_r2 : List Cond := [Cond.fieldLink RX3 106 "TwinWrites$Frame" "words" "[I", Cond.fieldLink RX3 38 "TwinWrites" "pagesCleaned" "I", Cond.methodLink RX3 110 yX3_logWaiting, Cond.instanceMethod yX3_logWaiting, Cond.selects RX3 yX3_logWaiting yX3_logWaiting, Cond.code yX3_logWaiting cX3_logWaiting 5 (some .int), Cond.fieldLink RX3 53 "TwinWrites" "waitingCount" "I", Cond.fieldLink RX3 20 "TwinWrites" "log" "[LTwinWrites$Change;", Cond.fieldLink RX3 50 "TwinWrites" "waiting" "[LTwinWrites$Change;", Cond.methodLink RX3 158 yX3_powerHolds, Cond.instanceMethod yX3_powerHolds, Cond.selects RX3 yX3_powerHolds yX3_powerHolds, Cond.code yX3_powerHolds cX3_powerHolds 1 (some .boolean), Cond.fieldLink RX3 28 "TwinWrites" "sectorsLeft" "I", Cond.fieldLink RX3 35 "TwinWrites" "sectorsWritten" "I", Cond.methodLink RX3 161 yJ9_floorMod_7cf53, Cond.static yJ9_floorMod_7cf53, Cond.initialized RJ9, Cond.code yJ9_floorMod_7cf53 cJ9_floorMod_7cf53 3 (some .int), Cond.methodLink RX3 166 yX0_copy, Cond.instanceMethod yX0_copy, Cond.selects RX0 yX0_copy yX0_copy, Cond.initialized RX0, Cond.code yX0_copy cX0_copy 2 none]
def wsL_checkpoint_r3 : List Cond := [Cond.fieldLink RX0 7 "TwinWrites$Change" "number" "I", Cond.fieldLink RX0 13 "TwinWrites$Change" "page" "I", Cond.fieldLink RX0 16 "TwinWrites$Change" "at" "I", Cond.fieldLink RX0 19 "TwinWrites$Change" "word" "I", Cond.methodLink RX0 22 yX0_set, Cond.instanceMethod yX0_set, Cond.selects RX0 yX0_set yX0_set, Cond.code yX0_set cX0_set 5 none, Cond.methodLink RX3 183 yX3_writePage, Cond.instanceMethod yX3_writePage, Cond.selects RX3 yX3_writePage yX3_writePage, Cond.code yX3_writePage cX3_writePage 6 (some .boolean), Cond.methodLink RX3 170 yX2_putSector, Cond.instanceMethod yX2_putSector, Cond.selects RX2 yX2_putSector yX2_putSector, Cond.initialized RX2, Cond.code yX2_putSector cX2_putSector 7 none, Cond.fieldLink RX2 9 "TwinWrites$Place" "words" "[I", Cond.fieldLink RX2 15 "TwinWrites$Place" "stamps" "[I", Cond.fieldLink RX2 18 "TwinWrites$Place" "pages" "[I", Cond.methodLink RX3 187 yX3_writeDirtyHome, Cond.instanceMethod yX3_writeDirtyHome, Cond.selects RX3 yX3_writeDirtyHome yX3_writeDirtyHome, Cond.code yX3_writeDirtyHome cX3_writeDirtyHome 5 (some .boolean)]
def wsL_checkpoint_r4 : List Cond := [Cond.fieldLink RX3 11 "TwinWrites" "homes" "[LTwinWrites$Place;", Cond.methodLink RX3 95 yX3_lose, Cond.instanceMethod yX3_lose, Cond.selects RX3 yX3_lose yX3_lose, Cond.code yX3_lose cX3_lose 1 (some .int), Cond.methodLink RX3 124 yX3_goDown, Cond.instanceMethod yX3_goDown, Cond.selects RX3 yX3_goDown yX3_goDown, Cond.code yX3_goDown cX3_goDown 2 none, Cond.methodLink RX3 155 yX1_empty, Cond.instanceMethod yX1_empty, Cond.selects RX1 yX1_empty yX1_empty, Cond.initialized RX1, Cond.code yX1_empty cX1_empty 2 none, Cond.fieldLink RX1 9 "TwinWrites$Frame" "words" "[I", Cond.fieldLink RX1 15 "TwinWrites$Frame" "page" "I", Cond.fieldLink RX1 19 "TwinWrites$Frame" "stamp" "I", Cond.fieldLink RX1 22 "TwinWrites$Frame" "dirty" "Z", Cond.fieldLink RX1 26 "TwinWrites$Frame" "asked" "I"]
def wsL_checkpoint : List Cond := .codeWith yL_checkpoint cL_checkpoint 3 (some .int) [(0, 8, 11, 15)] :: ((wsL_checkpoint_r1 ++ (wsL_checkpoint_r2 ++ (wsL_checkpoint_r3 ++ wsL_checkpoint_r4))) ++ wsX30 ++ wsX10 ++ wsX00 ++ wsX20 ++ (vx_atS RX3 87 "java/lang/IllegalStateException" ["java/lang/RuntimeException", "java/lang/Exception"]).filter goodWord)
def wsL_power : List Cond := .codeWith yL_power cL_power 3 (some .int) [(0, 5, 8, 13)] :: ([.classLink RL 13 "java/lang/IndexOutOfBoundsException", .methodLink RL 28 yX3_power, .instanceMethod yX3_power, .selects RX3 yX3_power yX3_power, .initialized RX3, .code yX3_power cX3_power 2 none, .classLink RX3 74 "java/lang/IndexOutOfBoundsException", .initialized "java/lang/IndexOutOfBoundsException", .fieldLink RX3 28 "TwinWrites" "sectorsLeft" "I"] ++ wsX30 ++ (vx_atS RX3 78 "java/lang/IndexOutOfBoundsException" ["java/lang/RuntimeException", "java/lang/Exception"]).filter goodWord)
def wsL_recover_r1 : List Cond := [Cond.classLink RL 15 "java/lang/IllegalStateException", Cond.methodLink RL 32 yX3_recover, Cond.instanceMethod yX3_recover, Cond.selects RX3 yX3_recover yX3_recover, Cond.initialized RX3, Cond.code yX3_recover cX3_recover 2 (some .int), Cond.classLink RX3 83 "java/lang/IllegalStateException", Cond.initialized "java/lang/IllegalStateException", Cond.fieldLink RX3 31 "TwinWrites" "down" "Z", Cond.fieldLink RX3 56 "TwinWrites" "nextNumber" "I", Cond.methodLink RX3 117 yX3_mendHomes, Cond.instanceMethod yX3_mendHomes, Cond.selects RX3 yX3_mendHomes yX3_mendHomes, Cond.code yX3_mendHomes cX3_mendHomes 4 (some .boolean), Cond.fieldLink RX3 11 "TwinWrites" "homes" "[LTwinWrites$Place;", Cond.fieldLink RX3 15 "TwinWrites" "slots" "[LTwinWrites$Place;", Cond.fieldLink RX3 220 "TwinWrites$Place" "stamps" "[I", Cond.fieldLink RX3 223 "TwinWrites$Place" "words" "[I", Cond.fieldLink RX3 41 "TwinWrites" "pagesMended" "I", Cond.methodLink RX3 214 yX2_isWhole, Cond.instanceMethod yX2_isWhole, Cond.selects RX2 yX2_isWhole yX2_isWhole, Cond.initialized RX2, Cond.code yX2_isWhole cX2_isWhole 2 (some .boolean)]
def wsL_recover_r2 : List Cond := [Cond.fieldLink RX2 15 "TwinWrites$Place" "stamps" "[I", Cond.fieldLink RX2 18 "TwinWrites$Place" "pages" "[I", Cond.methodLink RX3 217 yX3_slotToMendFrom, Cond.instanceMethod yX3_slotToMendFrom, Cond.selects RX3 yX3_slotToMendFrom yX3_slotToMendFrom, Cond.code yX3_slotToMendFrom cX3_slotToMendFrom 5 (some .int), Cond.fieldLink RX3 224 "TwinWrites$Place" "pages" "[I", Cond.methodLink RX3 183 yX3_writePage, Cond.instanceMethod yX3_writePage, Cond.selects RX3 yX3_writePage yX3_writePage, Cond.code yX3_writePage cX3_writePage 6 (some .boolean), Cond.methodLink RX3 158 yX3_powerHolds, Cond.instanceMethod yX3_powerHolds, Cond.selects RX3 yX3_powerHolds yX3_powerHolds, Cond.code yX3_powerHolds cX3_powerHolds 1 (some .boolean), Cond.fieldLink RX3 28 "TwinWrites" "sectorsLeft" "I", Cond.fieldLink RX3 35 "TwinWrites" "sectorsWritten" "I", Cond.methodLink RX3 170 yX2_putSector, Cond.instanceMethod yX2_putSector, Cond.selects RX2 yX2_putSector yX2_putSector, Cond.code yX2_putSector cX2_putSector 7 none, Cond.fieldLink RX2 9 "TwinWrites$Place" "words" "[I", Cond.methodLink RX3 95 yX3_lose, Cond.instanceMethod yX3_lose]
def wsL_recover_r3 : List Cond := [Cond.selects RX3 yX3_lose yX3_lose, Cond.code yX3_lose cX3_lose 1 (some .int), Cond.methodLink RX3 124 yX3_goDown, Cond.instanceMethod yX3_goDown, Cond.selects RX3 yX3_goDown yX3_goDown, Cond.code yX3_goDown cX3_goDown 2 none, Cond.fieldLink RX3 46 "TwinWrites" "frames" "[LTwinWrites$Frame;", Cond.fieldLink RX3 53 "TwinWrites" "waitingCount" "I", Cond.methodLink RX3 155 yX1_empty, Cond.instanceMethod yX1_empty, Cond.selects RX1 yX1_empty yX1_empty, Cond.initialized RX1, Cond.code yX1_empty cX1_empty 2 none, Cond.fieldLink RX1 9 "TwinWrites$Frame" "words" "[I", Cond.fieldLink RX1 15 "TwinWrites$Frame" "page" "I", Cond.fieldLink RX1 19 "TwinWrites$Frame" "stamp" "I", Cond.fieldLink RX1 22 "TwinWrites$Frame" "dirty" "Z", Cond.fieldLink RX1 26 "TwinWrites$Frame" "asked" "I", Cond.methodLink RX3 121 yX3_redoLogged, Cond.instanceMethod yX3_redoLogged, Cond.selects RX3 yX3_redoLogged yX3_redoLogged, Cond.code yX3_redoLogged cX3_redoLogged 5 (some .int), Cond.fieldLink RX3 24 "TwinWrites" "mark" "I", Cond.fieldLink RX3 20 "TwinWrites" "log" "[LTwinWrites$Change;"]
def wsL_recover_r4 : List Cond := [Cond.fieldLink RX3 227 "TwinWrites$Change" "number" "I", Cond.fieldLink RX3 230 "TwinWrites$Change" "page" "I", Cond.fieldLink RX3 180 "TwinWrites$Frame" "stamp" "I", Cond.fieldLink RX3 231 "TwinWrites$Change" "at" "I", Cond.fieldLink RX3 234 "TwinWrites$Change" "word" "I", Cond.methodLink RX3 161 yJ9_floorMod_7cf53, Cond.static yJ9_floorMod_7cf53, Cond.initialized RJ9, Cond.code yJ9_floorMod_7cf53 cJ9_floorMod_7cf53 3 (some .int), Cond.methodLink RX3 98 yX3_bring, Cond.instanceMethod yX3_bring, Cond.selects RX3 yX3_bring yX3_bring, Cond.code yX3_bring cX3_bring 3 (some .int), Cond.fieldLink RX3 174 "TwinWrites$Frame" "dirty" "Z", Cond.fieldLink RX3 59 "TwinWrites" "askings" "I", Cond.fieldLink RX3 203 "TwinWrites$Frame" "asked" "I", Cond.methodLink RX3 193 yX3_frameOf, Cond.instanceMethod yX3_frameOf, Cond.selects RX3 yX3_frameOf yX3_frameOf, Cond.code yX3_frameOf cX3_frameOf 3 (some .int), Cond.fieldLink RX3 177 "TwinWrites$Frame" "page" "I", Cond.methodLink RX3 196 yX3_frameToFill, Cond.instanceMethod yX3_frameToFill, Cond.selects RX3 yX3_frameToFill yX3_frameToFill]
def wsL_recover_r5 : List Cond := [Cond.code yX3_frameToFill cX3_frameToFill 3 (some .int), Cond.methodLink RX3 190 yX3_cleanDirty, Cond.instanceMethod yX3_cleanDirty, Cond.selects RX3 yX3_cleanDirty yX3_cleanDirty, Cond.code yX3_cleanDirty cX3_cleanDirty 6 (some .int), Cond.fieldLink RX3 106 "TwinWrites$Frame" "words" "[I", Cond.fieldLink RX3 38 "TwinWrites" "pagesCleaned" "I", Cond.methodLink RX3 110 yX3_logWaiting, Cond.instanceMethod yX3_logWaiting, Cond.selects RX3 yX3_logWaiting yX3_logWaiting, Cond.code yX3_logWaiting cX3_logWaiting 5 (some .int), Cond.fieldLink RX3 50 "TwinWrites" "waiting" "[LTwinWrites$Change;", Cond.methodLink RX3 166 yX0_copy, Cond.instanceMethod yX0_copy, Cond.selects RX0 yX0_copy yX0_copy, Cond.initialized RX0, Cond.code yX0_copy cX0_copy 2 none, Cond.fieldLink RX0 7 "TwinWrites$Change" "number" "I", Cond.fieldLink RX0 13 "TwinWrites$Change" "page" "I", Cond.fieldLink RX0 16 "TwinWrites$Change" "at" "I", Cond.fieldLink RX0 19 "TwinWrites$Change" "word" "I", Cond.methodLink RX0 22 yX0_set, Cond.instanceMethod yX0_set, Cond.selects RX0 yX0_set yX0_set]
def wsL_recover_r6 : List Cond := [Cond.code yX0_set cX0_set 5 none, Cond.methodLink RX3 187 yX3_writeDirtyHome, Cond.instanceMethod yX3_writeDirtyHome, Cond.selects RX3 yX3_writeDirtyHome yX3_writeDirtyHome, Cond.code yX3_writeDirtyHome cX3_writeDirtyHome 5 (some .boolean), Cond.methodLink RX3 199 yX1_fill, Cond.instanceMethod yX1_fill, Cond.selects RX1 yX1_fill yX1_fill, Cond.code yX1_fill cX1_fill 4 none, Cond.fieldLink RX1 29 "TwinWrites$Place" "words" "[I", Cond.fieldLink RX1 32 "TwinWrites$Place" "stamps" "[I", Cond.methodLink RX3 210 yX1_changeWord, Cond.instanceMethod yX1_changeWord, Cond.selects RX1 yX1_changeWord yX1_changeWord, Cond.code yX1_changeWord cX1_changeWord 4 none]
def wsL_recover : List Cond := .codeWith yL_recover cL_recover 3 (some .int) [(0, 8, 11, 15)] :: ((wsL_recover_r1 ++ (wsL_recover_r2 ++ (wsL_recover_r3 ++ (wsL_recover_r4 ++ (wsL_recover_r5 ++ wsL_recover_r6))))) ++ wsX30 ++ wsX20 ++ wsX10 ++ wsX00 ++ (vx_atS RX3 87 "java/lang/IllegalStateException" ["java/lang/RuntimeException", "java/lang/Exception"]).filter goodWord)
def wsL_cut_r1 : List Cond := [Cond.classLink RL 15 "java/lang/IllegalStateException", Cond.methodLink RL 35 yX3_cut, Cond.instanceMethod yX3_cut, Cond.selects RX3 yX3_cut yX3_cut, Cond.initialized RX3, Cond.code yX3_cut cX3_cut 2 (some .int), Cond.classLink RX3 83 "java/lang/IllegalStateException", Cond.initialized "java/lang/IllegalStateException", Cond.fieldLink RX3 31 "TwinWrites" "down" "Z", Cond.fieldLink RX3 53 "TwinWrites" "waitingCount" "I", Cond.methodLink RX3 124 yX3_goDown, Cond.instanceMethod yX3_goDown, Cond.selects RX3 yX3_goDown yX3_goDown, Cond.code yX3_goDown cX3_goDown 2 none, Cond.fieldLink RX3 46 "TwinWrites" "frames" "[LTwinWrites$Frame;", Cond.fieldLink RX3 28 "TwinWrites" "sectorsLeft" "I", Cond.methodLink RX3 155 yX1_empty, Cond.instanceMethod yX1_empty, Cond.selects RX1 yX1_empty yX1_empty, Cond.initialized RX1, Cond.code yX1_empty cX1_empty 2 none, Cond.fieldLink RX1 9 "TwinWrites$Frame" "words" "[I", Cond.fieldLink RX1 15 "TwinWrites$Frame" "page" "I", Cond.fieldLink RX1 19 "TwinWrites$Frame" "stamp" "I"]
def wsL_cut_r2 : List Cond := [Cond.fieldLink RX1 22 "TwinWrites$Frame" "dirty" "Z", Cond.fieldLink RX1 26 "TwinWrites$Frame" "asked" "I"]
def wsL_cut : List Cond := .codeWith yL_cut cL_cut 3 (some .int) [(0, 8, 11, 15)] :: ((wsL_cut_r1 ++ wsL_cut_r2) ++ wsX30 ++ wsX10 ++ (vx_atS RX3 87 "java/lang/IllegalStateException" ["java/lang/RuntimeException", "java/lang/Exception"]).filter goodWord)
def wsL_disk_r1 : List Cond := [Cond.classLink RL 13 "java/lang/IndexOutOfBoundsException", Cond.methodLink RL 38 yX3_disk, Cond.instanceMethod yX3_disk, Cond.selects RX3 yX3_disk yX3_disk, Cond.initialized RX3, Cond.code yX3_disk cX3_disk 4 (some .int), Cond.classLink RX3 74 "java/lang/IndexOutOfBoundsException", Cond.initialized "java/lang/IndexOutOfBoundsException", Cond.fieldLink RX3 11 "TwinWrites" "homes" "[LTwinWrites$Place;", Cond.fieldLink RX3 15 "TwinWrites" "slots" "[LTwinWrites$Place;", Cond.methodLink RX3 127 yX3_placeValue, Cond.static yX3_placeValue, Cond.code yX3_placeValue cX3_placeValue 4 (some .int), Cond.methodLink RX3 70 yX3_isIn, Cond.static yX3_isIn, Cond.code yX3_isIn cX3_isIn 2 (some .boolean), Cond.methodLink RX3 149 yX2_value, Cond.instanceMethod yX2_value, Cond.selects RX2 yX2_value yX2_value, Cond.initialized RX2, Cond.code yX2_value cX2_value 2 (some .int), Cond.fieldLink RX2 9 "TwinWrites$Place" "words" "[I", Cond.fieldLink RX2 15 "TwinWrites$Place" "stamps" "[I", Cond.fieldLink RX2 18 "TwinWrites$Place" "pages" "[I"]
def wsL_disk_r2 : List Cond := [Cond.methodLink RX3 131 yX3_recordValue, Cond.instanceMethod yX3_recordValue, Cond.selects RX3 yX3_recordValue yX3_recordValue, Cond.code yX3_recordValue cX3_recordValue 3 (some .int), Cond.fieldLink RX3 20 "TwinWrites" "log" "[LTwinWrites$Change;", Cond.methodLink RX3 152 yX0_value, Cond.instanceMethod yX0_value, Cond.selects RX0 yX0_value yX0_value, Cond.initialized RX0, Cond.code yX0_value cX0_value 2 (some .int), Cond.fieldLink RX0 7 "TwinWrites$Change" "number" "I", Cond.fieldLink RX0 13 "TwinWrites$Change" "page" "I", Cond.fieldLink RX0 16 "TwinWrites$Change" "at" "I", Cond.fieldLink RX0 19 "TwinWrites$Change" "word" "I", Cond.methodLink RX3 135 yX3_markValue, Cond.instanceMethod yX3_markValue, Cond.selects RX3 yX3_markValue yX3_markValue, Cond.code yX3_markValue cX3_markValue 3 (some .int), Cond.fieldLink RX3 24 "TwinWrites" "mark" "I"]
def wsL_disk : List Cond := .codeWith yL_disk cL_disk 6 (some .int) [(0, 12, 15, 13)] :: ((wsL_disk_r1 ++ wsL_disk_r2) ++ wsX30 ++ wsX20 ++ wsX00 ++ (vx_atS RX3 78 "java/lang/IndexOutOfBoundsException" ["java/lang/RuntimeException", "java/lang/Exception"]).filter goodWord)
def wsL_frame : List Cond := .codeWith yL_frame cL_frame 5 (some .int) [(0, 10, 13, 13)] :: ([.classLink RL 13 "java/lang/IndexOutOfBoundsException", .methodLink RL 42 yX3_frame, .instanceMethod yX3_frame, .selects RX3 yX3_frame yX3_frame, .initialized RX3, .code yX3_frame cX3_frame 3 (some .int), .classLink RX3 74 "java/lang/IndexOutOfBoundsException", .initialized "java/lang/IndexOutOfBoundsException", .fieldLink RX3 46 "TwinWrites" "frames" "[LTwinWrites$Frame;", .methodLink RX3 70 yX3_isIn, .static yX3_isIn, .code yX3_isIn cX3_isIn 2 (some .boolean), .methodLink RX3 142 yX1_value, .instanceMethod yX1_value, .selects RX1 yX1_value yX1_value, .initialized RX1, .code yX1_value cX1_value 2 (some .int), .fieldLink RX1 15 "TwinWrites$Frame" "page" "I", .fieldLink RX1 19 "TwinWrites$Frame" "stamp" "I", .fieldLink RX1 22 "TwinWrites$Frame" "dirty" "Z", .fieldLink RX1 9 "TwinWrites$Frame" "words" "[I"] ++ wsX30 ++ wsX10 ++ (vx_atS RX3 78 "java/lang/IndexOutOfBoundsException" ["java/lang/RuntimeException", "java/lang/Exception"]).filter goodWord)
def wsL_count : List Cond := .codeWith yL_count cL_count 4 (some .int) [(0, 9, 12, 13)] :: ([.classLink RL 13 "java/lang/IndexOutOfBoundsException", .methodLink RL 45 yX3_count, .instanceMethod yX3_count, .selects RX3 yX3_count yX3_count, .initialized RX3, .code yX3_count cX3_count 2 (some .int), .classLink RX3 74 "java/lang/IndexOutOfBoundsException", .initialized "java/lang/IndexOutOfBoundsException", .fieldLink RX3 31 "TwinWrites" "down" "Z", .fieldLink RX3 56 "TwinWrites" "nextNumber" "I", .fieldLink RX3 53 "TwinWrites" "waitingCount" "I", .fieldLink RX3 35 "TwinWrites" "sectorsWritten" "I", .fieldLink RX3 38 "TwinWrites" "pagesCleaned" "I", .fieldLink RX3 41 "TwinWrites" "pagesMended" "I", .methodLink RX3 88 yX3_room, .instanceMethod yX3_room, .selects RX3 yX3_room yX3_room, .code yX3_room cX3_room 1 (some .int), .fieldLink RX3 24 "TwinWrites" "mark" "I"] ++ wsX30 ++ (vx_atS RX3 78 "java/lang/IndexOutOfBoundsException" ["java/lang/RuntimeException", "java/lang/Exception"]).filter goodWord)
def wsL_law0_r1 : List Cond := [Cond.classLink RL 8 RX3, Cond.instantiable RX3 15, Cond.initialized RX3, Cond.classLink RL 50 RX4, Cond.instantiable RX4 29, Cond.initialized RX4, Cond.arrayClass .long, Cond.methodLink RL 49 yX3_init, Cond.instanceMethod yX3_init, Cond.code yX3_init cX3_init 2 none, Cond.methodLink RX3 3 objectInit, Cond.instanceMethod objectInit, Cond.code objectInit ⟨#[0xb1]⟩ 1 none, Cond.classLink RX3 9 RX2, Cond.fieldLink RX3 11 "TwinWrites" "homes" "[LTwinWrites$Place;", Cond.fieldLink RX3 15 "TwinWrites" "slots" "[LTwinWrites$Place;", Cond.classLink RX3 18 RX0, Cond.fieldLink RX3 20 "TwinWrites" "log" "[LTwinWrites$Change;", Cond.fieldLink RX3 24 "TwinWrites" "mark" "I", Cond.fieldLink RX3 28 "TwinWrites" "sectorsLeft" "I", Cond.fieldLink RX3 31 "TwinWrites" "down" "Z", Cond.fieldLink RX3 35 "TwinWrites" "sectorsWritten" "I", Cond.fieldLink RX3 38 "TwinWrites" "pagesCleaned" "I", Cond.fieldLink RX3 41 "TwinWrites" "pagesMended" "I"]
def wsL_law0_r2 : List Cond := [Cond.classLink RX3 44 RX1, Cond.fieldLink RX3 46 "TwinWrites" "frames" "[LTwinWrites$Frame;", Cond.fieldLink RX3 50 "TwinWrites" "waiting" "[LTwinWrites$Change;", Cond.fieldLink RX3 53 "TwinWrites" "waitingCount" "I", Cond.fieldLink RX3 56 "TwinWrites" "nextNumber" "I", Cond.fieldLink RX3 59 "TwinWrites" "askings" "I", Cond.fieldLink RX3 62 "TwinWrites" "wordGot" "I", Cond.instantiable RX2 3, Cond.initialized RX2, Cond.instantiable RX0 4, Cond.initialized RX0, Cond.instantiable RX1 5, Cond.initialized RX1, Cond.methodLink RX3 65 yX2_init, Cond.instanceMethod yX2_init, Cond.code yX2_init cX2_init 3 none, Cond.methodLink RX2 3 objectInit, Cond.arrayClass .int, Cond.fieldLink RX2 9 "TwinWrites$Place" "words" "[I", Cond.fieldLink RX2 15 "TwinWrites$Place" "stamps" "[I", Cond.fieldLink RX2 18 "TwinWrites$Place" "pages" "[I", Cond.instanceMethod yX0_init, Cond.code yX0_init cX0_init 1 none, Cond.methodLink RX0 1 objectInit]
def wsL_law0_r3 : List Cond := [Cond.fieldLink RX0 7 "TwinWrites$Change" "number" "I", Cond.fieldLink RX0 13 "TwinWrites$Change" "page" "I", Cond.fieldLink RX0 16 "TwinWrites$Change" "at" "I", Cond.fieldLink RX0 19 "TwinWrites$Change" "word" "I", Cond.instanceMethod yX1_init, Cond.code yX1_init cX1_init 1 none, Cond.methodLink RX1 3 objectInit, Cond.fieldLink RX1 9 "TwinWrites$Frame" "words" "[I", Cond.fieldLink RX1 15 "TwinWrites$Frame" "page" "I", Cond.fieldLink RX1 19 "TwinWrites$Frame" "stamp" "I", Cond.fieldLink RX1 22 "TwinWrites$Frame" "dirty" "Z", Cond.fieldLink RX1 26 "TwinWrites$Frame" "asked" "I", Cond.methodLink RL 52 yX4_init, Cond.instanceMethod yX4_init, Cond.code yX4_init cX4_init 1 none, Cond.methodLink RX4 1 objectInit, Cond.fieldLink RX4 7 "TwinWritesModel" "homeStamp" "[I", Cond.fieldLink RX4 13 "TwinWritesModel" "homeWord" "[I", Cond.fieldLink RX4 16 "TwinWritesModel" "besideStamp" "[I", Cond.fieldLink RX4 19 "TwinWritesModel" "besidePage" "[I", Cond.fieldLink RX4 22 "TwinWritesModel" "besideWord" "[I", Cond.fieldLink RX4 25 "TwinWritesModel" "logNumber" "[I", Cond.fieldLink RX4 28 "TwinWritesModel" "logPage" "[I", Cond.fieldLink RX4 31 "TwinWritesModel" "logWhich" "[I"]
def wsL_law0_r4 : List Cond := [Cond.fieldLink RX4 34 "TwinWritesModel" "logWord" "[I", Cond.fieldLink RX4 37 "TwinWritesModel" "mark" "I", Cond.fieldLink RX4 41 "TwinWritesModel" "framePage" "[I", Cond.fieldLink RX4 44 "TwinWritesModel" "frameStamp" "[I", Cond.arrayClass .boolean, Cond.fieldLink RX4 47 "TwinWritesModel" "isDirty" "[Z", Cond.fieldLink RX4 51 "TwinWritesModel" "asked" "[I", Cond.fieldLink RX4 54 "TwinWritesModel" "frameWord" "[I", Cond.fieldLink RX4 57 "TwinWritesModel" "next" "I", Cond.fieldLink RX4 60 "TwinWritesModel" "waitNumber" "[I", Cond.fieldLink RX4 63 "TwinWritesModel" "waitPage" "[I", Cond.fieldLink RX4 66 "TwinWritesModel" "waitWhich" "[I", Cond.fieldLink RX4 69 "TwinWritesModel" "waitWord" "[I", Cond.fieldLink RX4 72 "TwinWritesModel" "power" "I", Cond.methodLink RL 53 yL_change, Cond.static yL_change, Cond.initialized RL, Cond.codeWith yL_change cL_change 8 (some .int) [(0, 16, 19, 13), (0, 16, 23, 15)], Cond.classLink RL 13 "java/lang/IndexOutOfBoundsException", Cond.classLink RL 15 "java/lang/IllegalStateException", Cond.methodLink RL 7 yX3_change, Cond.instanceMethod yX3_change, Cond.selects RX3 yX3_change yX3_change, Cond.code yX3_change cX3_change 7 (some .int)]
def wsL_law0_r5 : List Cond := [Cond.classLink RX3 74 "java/lang/IndexOutOfBoundsException", Cond.initialized "java/lang/IndexOutOfBoundsException", Cond.classLink RX3 83 "java/lang/IllegalStateException", Cond.initialized "java/lang/IllegalStateException", Cond.methodLink RX3 70 yX3_isIn, Cond.static yX3_isIn, Cond.code yX3_isIn cX3_isIn 2 (some .boolean), Cond.methodLink RX3 88 yX3_room, Cond.instanceMethod yX3_room, Cond.selects RX3 yX3_room yX3_room, Cond.code yX3_room cX3_room 1 (some .int), Cond.methodLink RX3 92 yX3_cleanAllAndMark, Cond.instanceMethod yX3_cleanAllAndMark, Cond.selects RX3 yX3_cleanAllAndMark yX3_cleanAllAndMark, Cond.code yX3_cleanAllAndMark cX3_cleanAllAndMark 2 (some .int), Cond.methodLink RX3 190 yX3_cleanDirty, Cond.instanceMethod yX3_cleanDirty, Cond.selects RX3 yX3_cleanDirty yX3_cleanDirty, Cond.code yX3_cleanDirty cX3_cleanDirty 6 (some .int), Cond.fieldLink RX3 174 "TwinWrites$Frame" "dirty" "Z", Cond.fieldLink RX3 177 "TwinWrites$Frame" "page" "I", Cond.fieldLink RX3 180 "TwinWrites$Frame" "stamp" "I", Cond.fieldLink RX3 106 "TwinWrites$Frame" "words" "[I", Cond.methodLink RX3 110 yX3_logWaiting]
def wsL_law0_r6 : List Cond := [Cond.instanceMethod yX3_logWaiting, Cond.selects RX3 yX3_logWaiting yX3_logWaiting, Cond.code yX3_logWaiting cX3_logWaiting 5 (some .int), Cond.methodLink RX3 158 yX3_powerHolds, Cond.instanceMethod yX3_powerHolds, Cond.selects RX3 yX3_powerHolds yX3_powerHolds, Cond.code yX3_powerHolds cX3_powerHolds 1 (some .boolean), Cond.methodLink RX3 161 yJ9_floorMod_7cf53, Cond.static yJ9_floorMod_7cf53, Cond.initialized RJ9, Cond.code yJ9_floorMod_7cf53 cJ9_floorMod_7cf53 3 (some .int), Cond.methodLink RX3 166 yX0_copy, Cond.instanceMethod yX0_copy, Cond.selects RX0 yX0_copy yX0_copy, Cond.code yX0_copy cX0_copy 2 none, Cond.methodLink RX0 22 yX0_set, Cond.instanceMethod yX0_set, Cond.selects RX0 yX0_set yX0_set, Cond.code yX0_set cX0_set 5 none, Cond.methodLink RX3 183 yX3_writePage, Cond.instanceMethod yX3_writePage, Cond.selects RX3 yX3_writePage yX3_writePage, Cond.code yX3_writePage cX3_writePage 6 (some .boolean), Cond.methodLink RX3 170 yX2_putSector]
def wsL_law0_r7 : List Cond := [Cond.instanceMethod yX2_putSector, Cond.selects RX2 yX2_putSector yX2_putSector, Cond.code yX2_putSector cX2_putSector 7 none, Cond.methodLink RX3 187 yX3_writeDirtyHome, Cond.instanceMethod yX3_writeDirtyHome, Cond.selects RX3 yX3_writeDirtyHome yX3_writeDirtyHome, Cond.code yX3_writeDirtyHome cX3_writeDirtyHome 5 (some .boolean), Cond.methodLink RX3 95 yX3_lose, Cond.instanceMethod yX3_lose, Cond.selects RX3 yX3_lose yX3_lose, Cond.code yX3_lose cX3_lose 1 (some .int), Cond.methodLink RX3 124 yX3_goDown, Cond.instanceMethod yX3_goDown, Cond.selects RX3 yX3_goDown yX3_goDown, Cond.code yX3_goDown cX3_goDown 2 none, Cond.methodLink RX3 155 yX1_empty, Cond.instanceMethod yX1_empty, Cond.selects RX1 yX1_empty yX1_empty, Cond.code yX1_empty cX1_empty 2 none, Cond.methodLink RX3 98 yX3_bring, Cond.instanceMethod yX3_bring, Cond.selects RX3 yX3_bring yX3_bring, Cond.code yX3_bring cX3_bring 3 (some .int), Cond.fieldLink RX3 203 "TwinWrites$Frame" "asked" "I"]
def wsL_law0_r8 : List Cond := [Cond.methodLink RX3 193 yX3_frameOf, Cond.instanceMethod yX3_frameOf, Cond.selects RX3 yX3_frameOf yX3_frameOf, Cond.code yX3_frameOf cX3_frameOf 3 (some .int), Cond.methodLink RX3 196 yX3_frameToFill, Cond.instanceMethod yX3_frameToFill, Cond.selects RX3 yX3_frameToFill yX3_frameToFill, Cond.code yX3_frameToFill cX3_frameToFill 3 (some .int), Cond.methodLink RX3 199 yX1_fill, Cond.instanceMethod yX1_fill, Cond.selects RX1 yX1_fill yX1_fill, Cond.code yX1_fill cX1_fill 4 none, Cond.fieldLink RX1 29 "TwinWrites$Place" "words" "[I", Cond.fieldLink RX1 32 "TwinWrites$Place" "stamps" "[I", Cond.methodLink RX3 102 yX3_changeWords, Cond.instanceMethod yX3_changeWords, Cond.selects RX3 yX3_changeWords yX3_changeWords, Cond.code yX3_changeWords cX3_changeWords 8 none, Cond.methodLink RX3 206 yX0_set, Cond.methodLink RX3 210 yX1_changeWord, Cond.instanceMethod yX1_changeWord, Cond.selects RX1 yX1_changeWord yX1_changeWord, Cond.code yX1_changeWord cX1_changeWord 4 none, Cond.methodLink RL 58 yX4_change]
def wsL_law0_r9 : List Cond := [Cond.instanceMethod yX4_change, Cond.selects RX4 yX4_change yX4_change, Cond.code yX4_change cX4_change 9 (some .int), Cond.fieldLink RX4 75 "TwinWritesModel" "thrown" "I", Cond.fieldLink RX4 78 "TwinWritesModel" "isDown" "Z", Cond.fieldLink RX4 82 "TwinWritesModel" "waiting" "I", Cond.methodLink RX4 116 yX4_in, Cond.static yX4_in, Cond.code yX4_in cX4_in 3 (some .boolean), Cond.methodLink RX4 120 yX4_refuses, Cond.instanceMethod yX4_refuses, Cond.selects RX4 yX4_refuses yX4_refuses, Cond.code yX4_refuses cX4_refuses 3 (some .boolean), Cond.methodLink RX4 124 yX4_room, Cond.instanceMethod yX4_room, Cond.selects RX4 yX4_room yX4_room, Cond.code yX4_room cX4_room 1 (some .int), Cond.methodLink RX4 128 yX4_check, Cond.instanceMethod yX4_check, Cond.selects RX4 yX4_check yX4_check, Cond.code yX4_check cX4_check 2 (some .int), Cond.fieldLink RX4 106 "TwinWritesModel" "cleaned" "I", Cond.methodLink RX4 109 yX4_clean, Cond.instanceMethod yX4_clean]
def wsL_law0_r10 : List Cond := [Cond.selects RX4 yX4_clean yX4_clean, Cond.code yX4_clean cX4_clean 4 (some .boolean), Cond.methodLink RX4 95 yX4_logWaiting, Cond.instanceMethod yX4_logWaiting, Cond.selects RX4 yX4_logWaiting yX4_logWaiting, Cond.code yX4_logWaiting cX4_logWaiting 3 (some .boolean), Cond.methodLink RX4 91 yX4_mayWrite, Cond.instanceMethod yX4_mayWrite, Cond.selects RX4 yX4_mayWrite yX4_mayWrite, Cond.code yX4_mayWrite cX4_mayWrite 1 (some .boolean), Cond.fieldLink RX4 88 "TwinWritesModel" "sectors" "I", Cond.methodLink RX4 85 yX4_goDown, Cond.instanceMethod yX4_goDown, Cond.selects RX4 yX4_goDown yX4_goDown, Cond.code yX4_goDown cX4_goDown 2 none, Cond.methodLink RX4 98 yX4_writeBeside, Cond.instanceMethod yX4_writeBeside, Cond.selects RX4 yX4_writeBeside yX4_writeBeside, Cond.code yX4_writeBeside cX4_writeBeside 6 (some .boolean), Cond.methodLink RX4 102 yX4_writeHome, Cond.instanceMethod yX4_writeHome, Cond.selects RX4 yX4_writeHome yX4_writeHome, Cond.code yX4_writeHome cX4_writeHome 7 (some .boolean), Cond.methodLink RX4 131 yX4_bring]
def wsL_law0_r11 : List Cond := [Cond.instanceMethod yX4_bring, Cond.selects RX4 yX4_bring yX4_bring, Cond.code yX4_bring cX4_bring 6 (some .int), Cond.fieldLink RX4 113 "TwinWritesModel" "clock" "I", Cond.methodLink RL 59 yX4_thrown, Cond.instanceMethod yX4_thrown, Cond.selects RX4 yX4_thrown yX4_thrown, Cond.code yX4_thrown cX4_thrown 1 (some .int), Cond.methodLink RL 62 yL_read, Cond.static yL_read, Cond.codeWith yL_read cL_read 5 (some .int) [(0, 10, 13, 13), (0, 10, 17, 15)], Cond.methodLink RL 17 yX3_read, Cond.instanceMethod yX3_read, Cond.selects RX3 yX3_read yX3_read, Cond.code yX3_read cX3_read 4 (some .int), Cond.methodLink RL 65 yX4_read, Cond.instanceMethod yX4_read, Cond.selects RX4 yX4_read yX4_read, Cond.code yX4_read cX4_read 4 (some .int), Cond.fieldLink RX4 135 "TwinWritesModel" "got" "I", Cond.methodLink RL 66 yX3_got, Cond.instanceMethod yX3_got, Cond.selects RX3 yX3_got yX3_got, Cond.code yX3_got cX3_got 1 (some .int)]
def wsL_law0_r12 : List Cond := [Cond.methodLink RL 69 yX4_got, Cond.instanceMethod yX4_got, Cond.selects RX4 yX4_got yX4_got, Cond.code yX4_got cX4_got 1 (some .int), Cond.methodLink RL 70 yL_sync, Cond.static yL_sync, Cond.codeWith yL_sync cL_sync 3 (some .int) [(0, 8, 11, 15)], Cond.methodLink RL 21 yX3_sync, Cond.instanceMethod yX3_sync, Cond.selects RX3 yX3_sync yX3_sync, Cond.code yX3_sync cX3_sync 2 (some .int), Cond.methodLink RL 73 yX4_sync, Cond.instanceMethod yX4_sync, Cond.selects RX4 yX4_sync yX4_sync, Cond.code yX4_sync cX4_sync 2 (some .int), Cond.methodLink RL 74 yL_checkpoint, Cond.static yL_checkpoint, Cond.codeWith yL_checkpoint cL_checkpoint 3 (some .int) [(0, 8, 11, 15)], Cond.methodLink RL 25 yX3_checkpoint, Cond.instanceMethod yX3_checkpoint, Cond.selects RX3 yX3_checkpoint yX3_checkpoint, Cond.code yX3_checkpoint cX3_checkpoint 2 (some .int), Cond.methodLink RL 76 yX4_checkpoint, Cond.instanceMethod yX4_checkpoint]
def wsL_law0_r13 : List Cond := [Cond.selects RX4 yX4_checkpoint yX4_checkpoint, Cond.code yX4_checkpoint cX4_checkpoint 1 (some .int), Cond.methodLink RL 77 yL_power, Cond.static yL_power, Cond.codeWith yL_power cL_power 3 (some .int) [(0, 5, 8, 13)], Cond.methodLink RL 28 yX3_power, Cond.instanceMethod yX3_power, Cond.selects RX3 yX3_power yX3_power, Cond.code yX3_power cX3_power 2 none, Cond.methodLink RL 80 yX4_power, Cond.instanceMethod yX4_power, Cond.selects RX4 yX4_power yX4_power, Cond.code yX4_power cX4_power 2 none, Cond.methodLink RL 81 yL_recover, Cond.static yL_recover, Cond.codeWith yL_recover cL_recover 3 (some .int) [(0, 8, 11, 15)], Cond.methodLink RL 32 yX3_recover, Cond.instanceMethod yX3_recover, Cond.selects RX3 yX3_recover yX3_recover, Cond.code yX3_recover cX3_recover 2 (some .int), Cond.methodLink RX3 117 yX3_mendHomes, Cond.instanceMethod yX3_mendHomes, Cond.selects RX3 yX3_mendHomes yX3_mendHomes, Cond.code yX3_mendHomes cX3_mendHomes 4 (some .boolean)]
def wsL_law0_r14 : List Cond := [Cond.fieldLink RX3 220 "TwinWrites$Place" "stamps" "[I", Cond.fieldLink RX3 223 "TwinWrites$Place" "words" "[I", Cond.methodLink RX3 214 yX2_isWhole, Cond.instanceMethod yX2_isWhole, Cond.selects RX2 yX2_isWhole yX2_isWhole, Cond.code yX2_isWhole cX2_isWhole 2 (some .boolean), Cond.methodLink RX3 217 yX3_slotToMendFrom, Cond.instanceMethod yX3_slotToMendFrom, Cond.selects RX3 yX3_slotToMendFrom yX3_slotToMendFrom, Cond.code yX3_slotToMendFrom cX3_slotToMendFrom 5 (some .int), Cond.fieldLink RX3 224 "TwinWrites$Place" "pages" "[I", Cond.methodLink RX3 121 yX3_redoLogged, Cond.instanceMethod yX3_redoLogged, Cond.selects RX3 yX3_redoLogged yX3_redoLogged, Cond.code yX3_redoLogged cX3_redoLogged 5 (some .int), Cond.fieldLink RX3 227 "TwinWrites$Change" "number" "I", Cond.fieldLink RX3 230 "TwinWrites$Change" "page" "I", Cond.fieldLink RX3 231 "TwinWrites$Change" "at" "I", Cond.fieldLink RX3 234 "TwinWrites$Change" "word" "I", Cond.methodLink RL 83 yX4_recover, Cond.instanceMethod yX4_recover, Cond.selects RX4 yX4_recover yX4_recover, Cond.code yX4_recover cX4_recover 4 (some .int), Cond.methodLink RX4 147 yX4_mend]
def wsL_law0_r15 : List Cond := [Cond.instanceMethod yX4_mend, Cond.selects RX4 yX4_mend yX4_mend, Cond.code yX4_mend cX4_mend 5 (some .boolean), Cond.fieldLink RX4 144 "TwinWritesModel" "mended" "I", Cond.methodLink RX4 138 yX4_isHomeWhole, Cond.instanceMethod yX4_isHomeWhole, Cond.selects RX4 yX4_isHomeWhole yX4_isHomeWhole, Cond.code yX4_isHomeWhole cX4_isHomeWhole 3 (some .boolean), Cond.methodLink RX4 141 yX4_isSlotWhole, Cond.instanceMethod yX4_isSlotWhole, Cond.selects RX4 yX4_isSlotWhole yX4_isSlotWhole, Cond.code yX4_isSlotWhole cX4_isSlotWhole 4 (some .boolean), Cond.methodLink RL 84 yL_cut, Cond.static yL_cut, Cond.codeWith yL_cut cL_cut 3 (some .int) [(0, 8, 11, 15)], Cond.methodLink RL 35 yX3_cut, Cond.instanceMethod yX3_cut, Cond.selects RX3 yX3_cut yX3_cut, Cond.code yX3_cut cX3_cut 2 (some .int), Cond.methodLink RL 86 yX4_cut, Cond.instanceMethod yX4_cut, Cond.selects RX4 yX4_cut yX4_cut, Cond.code yX4_cut cX4_cut 2 (some .int), Cond.methodLink RL 87 yL_disk]
def wsL_law0_r16 : List Cond := [Cond.static yL_disk, Cond.codeWith yL_disk cL_disk 6 (some .int) [(0, 12, 15, 13)], Cond.methodLink RL 38 yX3_disk, Cond.instanceMethod yX3_disk, Cond.selects RX3 yX3_disk yX3_disk, Cond.code yX3_disk cX3_disk 4 (some .int), Cond.methodLink RX3 127 yX3_placeValue, Cond.static yX3_placeValue, Cond.code yX3_placeValue cX3_placeValue 4 (some .int), Cond.methodLink RX3 149 yX2_value, Cond.instanceMethod yX2_value, Cond.selects RX2 yX2_value yX2_value, Cond.code yX2_value cX2_value 2 (some .int), Cond.methodLink RX3 131 yX3_recordValue, Cond.instanceMethod yX3_recordValue, Cond.selects RX3 yX3_recordValue yX3_recordValue, Cond.code yX3_recordValue cX3_recordValue 3 (some .int), Cond.methodLink RX3 152 yX0_value, Cond.instanceMethod yX0_value, Cond.selects RX0 yX0_value yX0_value, Cond.code yX0_value cX0_value 2 (some .int), Cond.methodLink RX3 135 yX3_markValue, Cond.instanceMethod yX3_markValue, Cond.selects RX3 yX3_markValue yX3_markValue]
def wsL_law0_r17 : List Cond := [Cond.code yX3_markValue cX3_markValue 3 (some .int), Cond.methodLink RL 90 yX4_disk, Cond.instanceMethod yX4_disk, Cond.selects RX4 yX4_disk yX4_disk, Cond.code yX4_disk cX4_disk 5 (some .int), Cond.methodLink RL 91 yL_frame, Cond.static yL_frame, Cond.codeWith yL_frame cL_frame 5 (some .int) [(0, 10, 13, 13)], Cond.methodLink RL 42 yX3_frame, Cond.instanceMethod yX3_frame, Cond.selects RX3 yX3_frame yX3_frame, Cond.code yX3_frame cX3_frame 3 (some .int), Cond.methodLink RX3 142 yX1_value, Cond.instanceMethod yX1_value, Cond.selects RX1 yX1_value yX1_value, Cond.code yX1_value cX1_value 2 (some .int), Cond.methodLink RL 93 yX4_frame, Cond.instanceMethod yX4_frame, Cond.selects RX4 yX4_frame yX4_frame, Cond.code yX4_frame cX4_frame 3 (some .int), Cond.methodLink RL 94 yL_count, Cond.static yL_count, Cond.codeWith yL_count cL_count 4 (some .int) [(0, 9, 12, 13)], Cond.methodLink RL 45 yX3_count]
def wsL_law0_r18 : List Cond := [Cond.instanceMethod yX3_count, Cond.selects RX3 yX3_count yX3_count, Cond.code yX3_count cX3_count 2 (some .int), Cond.methodLink RL 97 yX4_count, Cond.instanceMethod yX4_count, Cond.selects RX4 yX4_count yX4_count, Cond.code yX4_count cX4_count 2 (some .int)]
def wsL_law0 : List Cond := (wsL_law0_r1 ++ (wsL_law0_r2 ++ (wsL_law0_r3 ++ (wsL_law0_r4 ++ (wsL_law0_r5 ++ (wsL_law0_r6 ++ (wsL_law0_r7 ++ (wsL_law0_r8 ++ (wsL_law0_r9 ++ (wsL_law0_r10 ++ (wsL_law0_r11 ++ (wsL_law0_r12 ++ (wsL_law0_r13 ++ (wsL_law0_r14 ++ (wsL_law0_r15 ++ (wsL_law0_r16 ++ (wsL_law0_r17 ++ wsL_law0_r18))))))))))))))))) ++ wsX30 ++ wsX40 ++ wsX20 ++ wsX00 ++ wsX10 ++ ([] : List Cond)
def wsL_law : List Cond := wsL_law0 ++ (vx_atS RX3 78 "java/lang/IndexOutOfBoundsException" ["java/lang/RuntimeException", "java/lang/Exception"]).filter goodWord ++ (vx_atS RX3 87 "java/lang/IllegalStateException" ["java/lang/RuntimeException", "java/lang/Exception"]).filter goodWord
set_option maxRecDepth 20000 in
abbrev vwCl : List vw_C := [(RX0, TX0, 4), (RX1, TX1, 5), (RX2, TX2, 3), (RX3, TX3, 15), (RX4, TX4, 29)]
end
section
set_option maxRecDepth 20000 in
theorem ggX0_copy_X0_set : GoodIn wsX0_copy wsX0_set := goodIn_r _ [9, 1, 2, 3, 4, 10, 11, 12, 13] (by decide +kernel) (by decide +kernel)
set_option maxRecDepth 20000 in
theorem gX0_copy_X0_set : GoodIn wsX0_copy (wsV RX0 22 RX0 yX0_set wsX0_set) := goodIn_app (goodIn_of _ (by decide +kernel)) ggX0_copy_X0_set
set_option maxRecDepth 20000 in
theorem ggX3_init_X2_init : GoodIn wsX3_init wsX2_init := goodIn_r _ [30, 31, 2, 3, 32, 33, 34, 35, 66, 67, 68] (by decide +kernel) (by decide +kernel)
set_option maxRecDepth 20000 in
theorem gX3_init_X2_init : GoodIn wsX3_init (wsX2_init) := ggX3_init_X2_init
set_option maxRecDepth 20000 in
theorem ggX3_init_X0_init : GoodIn wsX3_init wsX0_init := goodIn_r _ [37, 38, 2, 3, 39, 40, 41, 42, 69, 70, 71, 72] (by decide +kernel) (by decide +kernel)
set_option maxRecDepth 20000 in
theorem gX3_init_X0_init_n68 : GoodIn wsX3_init (wsX0_init) := ggX3_init_X0_init
set_option maxRecDepth 20000 in
theorem ggX3_init_X1_init : GoodIn wsX3_init wsX1_init := goodIn_r _ [44, 45, 2, 3, 32, 46, 47, 48, 49, 50, 73, 74, 75, 76, 77] (by decide +kernel) (by decide +kernel)
set_option maxRecDepth 20000 in
theorem gX3_init_X1_init_n69 : GoodIn wsX3_init (wsX1_init) := ggX3_init_X1_init
set_option maxRecDepth 20000 in
theorem ggX3_change_X3_isIn : GoodIn wsX3_change wsX3_isIn := goodIn_r _ [11] (by decide +kernel) (by decide +kernel)
set_option maxRecDepth 20000 in
theorem gX3_change_X3_isIn : GoodIn wsX3_change (va_wsS RX3 70 yX3_isIn wsX3_isIn) := goodIn_app (goodIn_of _ (by decide +kernel)) ggX3_change_X3_isIn
set_option maxRecDepth 20000 in
theorem ggX3_change_X3_room : GoodIn wsX3_change wsX3_room := goodIn_r _ [15, 16, 7, 125, 126, 127, 128, 129, 130, 131, 132, 133, 134, 135, 136, 137, 138, 139] (by decide +kernel) (by decide +kernel)
set_option maxRecDepth 20000 in
theorem gX3_change_X3_room : GoodIn wsX3_change (wsV RX3 88 RX3 yX3_room wsX3_room) := goodIn_app (goodIn_of _ (by decide +kernel)) ggX3_change_X3_room
set_option maxRecDepth 20000 in
theorem ggX3_change_X3_cleanAllAndMark : GoodIn wsX3_change wsX3_cleanAllAndMark := goodIn_r _ [20, 7, 16, 21, 22, 23, 10, 24, 6, 25, 26, 27, 28, 29, 30, 31, 32, 33, 34, 35, 36, 37, 38, 39, 40, 41, 42, 43, 44, 45, 46, 47, 48, 49, 50, 51, 52, 53, 54, 55, 56, 57, 58, 59, 60, 61, 62, 63, 64, 65, 66, 67, 68, 69, 70, 71, 72, 73, 74, 75, 76, 77, 125, 126, 127, 128, 129, 130, 131, 132, 133, 134, 135, 136, 137, 138, 139, 140, 141, 142, 143, 144, 145, 146, 147, 148, 149, 150, 151] (by decide +kernel) (by decide +kernel)
set_option maxRecDepth 20000 in
theorem gX3_change_X3_cleanAllAndMark : GoodIn wsX3_change (wsV RX3 92 RX3 yX3_cleanAllAndMark wsX3_cleanAllAndMark) := goodIn_app (goodIn_of _ (by decide +kernel)) ggX3_change_X3_cleanAllAndMark
set_option maxRecDepth 20000 in
theorem ggX3_change_X3_lose : GoodIn wsX3_change wsX3_lose := goodIn_r _ [81, 82, 83, 84, 10, 85, 6, 35, 42, 5, 86, 87, 88, 89, 90, 91, 92, 93, 94, 95, 125, 126, 127, 128, 129, 130, 131, 132, 133, 134, 135, 136, 137, 138, 139, 140, 141, 142, 143, 144] (by decide +kernel) (by decide +kernel)
set_option maxRecDepth 20000 in
theorem gX3_change_X3_lose : GoodIn wsX3_change (wsV RX3 95 RX3 yX3_lose wsX3_lose) := goodIn_app (goodIn_of _ (by decide +kernel)) ggX3_change_X3_lose
set_option maxRecDepth 20000 in
theorem ggX3_change_X3_bring : GoodIn wsX3_change wsX3_bring := goodIn_r _ [99, 6, 25, 77, 100, 101, 102, 103, 104, 10, 105, 27, 106, 107, 108, 109, 21, 22, 23, 24, 26, 28, 29, 30, 31, 32, 33, 34, 35, 7, 36, 37, 38, 39, 40, 41, 42, 43, 44, 45, 46, 47, 48, 49, 50, 51, 52, 53, 54, 55, 56, 57, 58, 59, 60, 61, 62, 63, 64, 65, 66, 67, 68, 69, 70, 71, 72, 73, 74, 75, 76, 110, 111, 112, 89, 113, 91, 114, 92, 115, 93, 94, 125, 126, 127, 128, 129, 130, 131, 132, 133, 134, 135, 136, 137, 138, 139, 140, 141, 142, 143, 144, 145, 146, 147, 148, 149, 150, 151] (by decide +kernel) (by decide +kernel)
set_option maxRecDepth 20000 in
theorem gX3_change_X3_bring : GoodIn wsX3_change (wsV RX3 98 RX3 yX3_bring wsX3_bring) := goodIn_app (goodIn_of _ (by decide +kernel)) ggX3_change_X3_bring
set_option maxRecDepth 20000 in
theorem ggX3_change_X3_changeWords : GoodIn wsX3_change wsX3_changeWords := goodIn_r _ [119, 37, 7, 27, 35, 44, 45, 46, 47, 120, 58, 59, 51, 60, 53, 54, 55, 56, 121, 122, 123, 89, 124, 91, 93, 94, 125, 126, 127, 128, 129, 130, 131, 132, 133, 134, 135, 136, 137, 138, 139, 140, 141, 142, 143, 144, 145, 146, 147, 148] (by decide +kernel) (by decide +kernel)
set_option maxRecDepth 20000 in
theorem gX3_change_X3_changeWords : GoodIn wsX3_change (wsV RX3 102 RX3 yX3_changeWords wsX3_changeWords) := goodIn_app (goodIn_of _ (by decide +kernel)) ggX3_change_X3_changeWords
set_option maxRecDepth 20000 in
theorem ggX3_read_X3_isIn : GoodIn wsX3_read wsX3_isIn := goodIn_r _ [12] (by decide +kernel) (by decide +kernel)
set_option maxRecDepth 20000 in
theorem gX3_read_X3_isIn : GoodIn wsX3_read (va_wsS RX3 70 yX3_isIn wsX3_isIn) := goodIn_app (goodIn_of _ (by decide +kernel)) ggX3_read_X3_isIn
set_option maxRecDepth 20000 in
theorem ggX3_read_X3_bring : GoodIn wsX3_read wsX3_bring := goodIn_r _ [16, 7, 17, 18, 19, 20, 21, 22, 23, 11, 24, 25, 26, 27, 28, 29, 30, 31, 32, 33, 34, 35, 8, 36, 37, 38, 39, 40, 41, 42, 43, 44, 45, 46, 47, 48, 49, 50, 51, 52, 53, 54, 55, 56, 57, 58, 59, 60, 61, 62, 63, 64, 65, 66, 67, 68, 69, 70, 71, 72, 73, 74, 75, 76, 77, 78, 79, 80, 81, 82, 83, 84, 85, 86, 87, 88, 89, 90, 91, 92, 93, 94, 108, 109, 110, 111, 112, 113, 114, 115, 116, 117, 118, 119, 120, 121, 122, 123, 124, 125, 126, 127, 128, 129, 130, 131, 132, 133, 134] (by decide +kernel) (by decide +kernel)
set_option maxRecDepth 20000 in
theorem gX3_read_X3_bring : GoodIn wsX3_read (wsV RX3 98 RX3 yX3_bring wsX3_bring) := goodIn_app (goodIn_of _ (by decide +kernel)) ggX3_read_X3_bring
set_option maxRecDepth 20000 in
theorem ggX3_read_X3_lose : GoodIn wsX3_read wsX3_lose := goodIn_r _ [98, 99, 100, 101, 11, 102, 7, 41, 49, 5, 103, 104, 105, 87, 106, 89, 91, 93, 94, 107, 108, 109, 110, 111, 112, 113, 114, 115, 116, 117, 118, 119, 120, 121, 122, 123, 124, 125, 126, 127] (by decide +kernel) (by decide +kernel)
set_option maxRecDepth 20000 in
theorem gX3_read_X3_lose : GoodIn wsX3_read (wsV RX3 95 RX3 yX3_lose wsX3_lose) := goodIn_app (goodIn_of _ (by decide +kernel)) ggX3_read_X3_lose
set_option maxRecDepth 20000 in
theorem ggX3_sync_X3_logWaiting : GoodIn wsX3_sync wsX3_logWaiting := goodIn_r _ [8, 9, 10, 11, 12, 13, 14, 15, 7, 16, 17, 18, 19, 20, 21, 22, 23, 24, 25, 26, 27, 28, 29, 30, 31, 32, 33, 34, 35, 55, 56, 57, 58, 59, 60, 61, 62, 63, 64, 65, 66, 67, 68, 69, 70, 71, 72, 73] (by decide +kernel) (by decide +kernel)
set_option maxRecDepth 20000 in
theorem gX3_sync_X3_logWaiting : GoodIn wsX3_sync (wsV RX3 110 RX3 yX3_logWaiting wsX3_logWaiting) := goodIn_app (goodIn_of _ (by decide +kernel)) ggX3_sync_X3_logWaiting
set_option maxRecDepth 20000 in
theorem ggX3_sync_X3_lose : GoodIn wsX3_sync wsX3_lose := goodIn_r _ [39, 40, 41, 42, 7, 43, 44, 9, 17, 3, 45, 46, 47, 48, 49, 50, 51, 52, 53, 54, 55, 56, 57, 58, 59, 60, 61, 62, 63, 64, 65, 66, 67, 68, 69, 74, 75, 76, 77, 78] (by decide +kernel) (by decide +kernel)
set_option maxRecDepth 20000 in
theorem gX3_sync_X3_lose : GoodIn wsX3_sync (wsV RX3 95 RX3 yX3_lose wsX3_lose) := goodIn_app (goodIn_of _ (by decide +kernel)) ggX3_sync_X3_lose
set_option maxRecDepth 20000 in
theorem ggX3_checkpoint_X3_cleanAllAndMark : GoodIn wsX3_checkpoint wsX3_cleanAllAndMark := goodIn_r _ [8, 9, 10, 11, 12, 13, 7, 14, 15, 16, 17, 18, 19, 20, 21, 22, 23, 24, 25, 26, 27, 28, 29, 30, 31, 32, 33, 34, 35, 36, 37, 38, 39, 40, 41, 42, 43, 44, 45, 46, 47, 48, 49, 50, 51, 52, 53, 54, 55, 56, 57, 58, 59, 60, 61, 62, 63, 64, 65, 66, 67, 68, 87, 88, 89, 90, 91, 92, 93, 94, 95, 96, 97, 98, 99, 100, 101, 102, 103, 104, 105, 106, 107, 108, 109, 110, 111, 112, 113] (by decide +kernel) (by decide +kernel)
set_option maxRecDepth 20000 in
theorem gX3_checkpoint_X3_cleanAllAndMark : GoodIn wsX3_checkpoint (wsV RX3 92 RX3 yX3_cleanAllAndMark wsX3_cleanAllAndMark) := goodIn_app (goodIn_of _ (by decide +kernel)) ggX3_checkpoint_X3_cleanAllAndMark
set_option maxRecDepth 20000 in
theorem ggX3_checkpoint_X3_lose : GoodIn wsX3_checkpoint wsX3_lose := goodIn_r _ [72, 73, 74, 75, 7, 76, 15, 26, 33, 3, 77, 78, 79, 80, 81, 82, 83, 84, 85, 86, 87, 88, 89, 90, 91, 92, 93, 94, 95, 96, 97, 98, 99, 100, 101, 102, 103, 104, 105, 106] (by decide +kernel) (by decide +kernel)
set_option maxRecDepth 20000 in
theorem gX3_checkpoint_X3_lose : GoodIn wsX3_checkpoint (wsV RX3 95 RX3 yX3_lose wsX3_lose) := goodIn_app (goodIn_of _ (by decide +kernel)) ggX3_checkpoint_X3_lose
set_option maxRecDepth 20000 in
theorem ggX3_recover_X3_mendHomes : GoodIn wsX3_recover wsX3_mendHomes := goodIn_r _ [9, 10, 11, 12, 13, 14, 15, 16, 17, 18, 19, 20, 21, 22, 23, 24, 8, 25, 26, 27, 28, 29, 30, 31, 32, 33, 34, 35, 36, 37, 38, 39, 40, 41, 131, 132, 133, 134, 135, 136, 137, 138, 139, 140, 141, 142, 143, 144, 145, 146, 147, 148] (by decide +kernel) (by decide +kernel)
set_option maxRecDepth 20000 in
theorem gX3_recover_X3_mendHomes : GoodIn wsX3_recover (wsV RX3 117 RX3 yX3_mendHomes wsX3_mendHomes) := goodIn_app (goodIn_of _ (by decide +kernel)) ggX3_recover_X3_mendHomes
set_option maxRecDepth 20000 in
theorem ggX3_recover_X3_lose : GoodIn wsX3_recover wsX3_lose := goodIn_r _ [45, 46, 47, 48, 8, 49, 50, 51, 35, 3, 52, 53, 54, 55, 56, 57, 58, 59, 60, 61, 131, 132, 133, 134, 135, 136, 137, 138, 139, 140, 141, 142, 143, 144, 145, 149, 150, 151, 152, 153] (by decide +kernel) (by decide +kernel)
set_option maxRecDepth 20000 in
theorem gX3_recover_X3_lose : GoodIn wsX3_recover (wsV RX3 95 RX3 yX3_lose wsX3_lose) := goodIn_app (goodIn_of _ (by decide +kernel)) ggX3_recover_X3_lose
set_option maxRecDepth 20000 in
theorem ggX3_recover_X3_redoLogged : GoodIn wsX3_recover wsX3_redoLogged := goodIn_r _ [65, 66, 67, 68, 69, 50, 70, 71, 72, 73, 74, 75, 76, 77, 78, 79, 8, 80, 81, 10, 82, 83, 84, 85, 86, 87, 88, 89, 90, 91, 92, 93, 94, 95, 96, 11, 97, 98, 99, 100, 101, 102, 51, 4, 103, 31, 32, 33, 34, 35, 36, 104, 105, 106, 107, 108, 109, 110, 111, 112, 113, 114, 115, 116, 27, 28, 29, 30, 37, 38, 39, 18, 40, 41, 20, 21, 117, 118, 119, 120, 121, 122, 123, 55, 124, 57, 125, 58, 126, 59, 60, 127, 128, 129, 130, 131, 132, 133, 134, 135, 136, 137, 138, 139, 140, 141, 142, 143, 144, 145, 154, 155, 156, 157, 149, 150, 151, 152, 153, 146, 147, 148] (by decide +kernel) (by decide +kernel)
set_option maxRecDepth 20000 in
theorem gX3_recover_X3_redoLogged : GoodIn wsX3_recover (wsV RX3 121 RX3 yX3_redoLogged wsX3_redoLogged) := goodIn_app (goodIn_of _ (by decide +kernel)) ggX3_recover_X3_redoLogged
end
section
set_option maxRecDepth 20000 in
theorem ggX3_cut_X3_goDown : GoodIn wsX3_cut wsX3_goDown := goodIn_r _ [9, 10, 4, 11, 3, 12, 13, 14, 15, 16, 17, 18, 19, 20, 21, 22, 23, 24, 25, 26, 27, 28, 29, 30, 31, 32, 33, 34, 35, 36, 37, 38, 39, 40, 41] (by decide +kernel) (by decide +kernel)
set_option maxRecDepth 20000 in
theorem gX3_cut_X3_goDown : GoodIn wsX3_cut (wsV RX3 124 RX3 yX3_goDown wsX3_goDown) := goodIn_app (goodIn_of _ (by decide +kernel)) ggX3_cut_X3_goDown
set_option maxRecDepth 20000 in
theorem ggX3_disk_X3_placeValue : GoodIn wsX3_disk wsX3_placeValue := goodIn_ca (goodIn_r _ [8, 1, 2, 9, 10, 7, 11, 12, 13, 14, 15, 16, 17, 18, 19, 54, 55, 56] (by decide +kernel) (by decide +kernel)) (goodIn_sub (fun _ h => List.mem_cons_of_mem _ (List.mem_append_right _ h)) (by decide +kernel))
set_option maxRecDepth 20000 in
theorem gX3_disk_X3_placeValue : GoodIn wsX3_disk (va_wsS RX3 127 yX3_placeValue wsX3_placeValue) := goodIn_app (goodIn_of _ (by decide +kernel)) ggX3_disk_X3_placeValue
set_option maxRecDepth 20000 in
theorem ggX3_disk_X3_recordValue : GoodIn wsX3_disk wsX3_recordValue := goodIn_ca (goodIn_r _ [23, 1, 2, 24, 9, 10, 7, 11, 25, 26, 27, 28, 29, 30, 31, 32, 33, 39, 40, 41, 42, 43, 44, 45, 46, 47, 48, 49, 50, 51, 52, 53, 57, 58, 59, 60] (by decide +kernel) (by decide +kernel)) (goodIn_sub (fun _ h => List.mem_cons_of_mem _ (List.mem_append_right _ h)) (by decide +kernel))
set_option maxRecDepth 20000 in
theorem gX3_disk_X3_recordValue : GoodIn wsX3_disk (wsV RX3 131 RX3 yX3_recordValue wsX3_recordValue) := goodIn_app (goodIn_of _ (by decide +kernel)) ggX3_disk_X3_recordValue
set_option maxRecDepth 20000 in
theorem ggX3_disk_X3_markValue : GoodIn wsX3_disk wsX3_markValue := goodIn_ca (goodIn_r _ [37, 1, 2, 38, 39, 40, 41, 42, 43, 44, 45, 46, 47, 48, 49, 50, 51, 52, 53] (by decide +kernel) (by decide +kernel)) (goodIn_sub (fun _ h => List.mem_cons_of_mem _ (List.mem_append_right _ h)) (by decide +kernel))
set_option maxRecDepth 20000 in
theorem gX3_disk_X3_markValue : GoodIn wsX3_disk (wsV RX3 135 RX3 yX3_markValue wsX3_markValue) := goodIn_app (goodIn_of _ (by decide +kernel)) ggX3_disk_X3_markValue
set_option maxRecDepth 20000 in
theorem ggX3_frame_X3_isIn : GoodIn wsX3_frame wsX3_isIn := goodIn_r _ [7] (by decide +kernel) (by decide +kernel)
set_option maxRecDepth 20000 in
theorem gX3_frame_X3_isIn : GoodIn wsX3_frame (va_wsS RX3 70 yX3_isIn wsX3_isIn) := goodIn_app (goodIn_of _ (by decide +kernel)) ggX3_frame_X3_isIn
set_option maxRecDepth 20000 in
theorem ggX3_frame_X1_value : GoodIn wsX3_frame wsX1_value := goodIn_r _ [12, 13, 14, 15, 16, 32, 33, 34, 35, 36] (by decide +kernel) (by decide +kernel)
set_option maxRecDepth 20000 in
theorem gX3_frame_X1_value : GoodIn wsX3_frame (wsV RX3 142 RX1 yX1_value wsX1_value) := goodIn_app (goodIn_of _ (by decide +kernel)) ggX3_frame_X1_value
set_option maxRecDepth 20000 in
theorem ggX3_count_X3_room : GoodIn wsX3_count wsX3_room := goodIn_r _ [13, 14, 4, 15, 16, 17, 18, 19, 20, 21, 22, 23, 24, 25, 26, 27, 28, 29] (by decide +kernel) (by decide +kernel)
set_option maxRecDepth 20000 in
theorem gX3_count_X3_room : GoodIn wsX3_count (wsV RX3 88 RX3 yX3_room wsX3_room) := goodIn_app (goodIn_of _ (by decide +kernel)) ggX3_count_X3_room
set_option maxRecDepth 20000 in
theorem ggX3_placeValue_X3_isIn : GoodIn wsX3_placeValue wsX3_isIn := goodIn_r _ [6] (by decide +kernel) (by decide +kernel)
set_option maxRecDepth 20000 in
theorem gX3_placeValue_X3_isIn : GoodIn wsX3_placeValue (va_wsS RX3 70 yX3_isIn wsX3_isIn) := goodIn_app (goodIn_of _ (by decide +kernel)) ggX3_placeValue_X3_isIn
set_option maxRecDepth 20000 in
theorem ggX3_placeValue_X2_value : GoodIn wsX3_placeValue wsX2_value := goodIn_r _ [11, 12, 13, 14, 15, 16, 17] (by decide +kernel) (by decide +kernel)
set_option maxRecDepth 20000 in
theorem gX3_placeValue_X2_value : GoodIn wsX3_placeValue (wsV RX3 149 RX2 yX2_value wsX2_value) := goodIn_app (goodIn_of _ (by decide +kernel)) ggX3_placeValue_X2_value
set_option maxRecDepth 20000 in
theorem ggX3_recordValue_X3_isIn : GoodIn wsX3_recordValue wsX3_isIn := goodIn_r _ [7] (by decide +kernel) (by decide +kernel)
set_option maxRecDepth 20000 in
theorem gX3_recordValue_X3_isIn : GoodIn wsX3_recordValue (va_wsS RX3 70 yX3_isIn wsX3_isIn) := goodIn_app (goodIn_of _ (by decide +kernel)) ggX3_recordValue_X3_isIn
set_option maxRecDepth 20000 in
theorem ggX3_recordValue_X0_value : GoodIn wsX3_recordValue wsX0_value := goodIn_r _ [12, 13, 14, 15, 16, 32, 33, 34, 35] (by decide +kernel) (by decide +kernel)
set_option maxRecDepth 20000 in
theorem gX3_recordValue_X0_value : GoodIn wsX3_recordValue (wsV RX3 152 RX0 yX0_value wsX0_value) := goodIn_app (goodIn_of _ (by decide +kernel)) ggX3_recordValue_X0_value
set_option maxRecDepth 20000 in
theorem ggX3_lose_X3_goDown : GoodIn wsX3_lose wsX3_goDown := goodIn_r _ [5, 6, 7, 8, 9, 10, 11, 12, 13, 14, 15, 16, 17, 18, 19, 20, 21, 22, 23, 24, 25, 26, 27, 28, 29, 30, 31, 32, 33, 34, 35, 36, 37, 38, 39] (by decide +kernel) (by decide +kernel)
set_option maxRecDepth 20000 in
theorem gX3_lose_X3_goDown : GoodIn wsX3_lose (wsV RX3 124 RX3 yX3_goDown wsX3_goDown) := goodIn_app (goodIn_of _ (by decide +kernel)) ggX3_lose_X3_goDown
set_option maxRecDepth 20000 in
theorem ggX3_goDown_X1_empty : GoodIn wsX3_goDown wsX1_empty := goodIn_r _ [9, 10, 11, 12, 13, 14, 30, 31, 32, 33, 34] (by decide +kernel) (by decide +kernel)
set_option maxRecDepth 20000 in
theorem gX3_goDown_X1_empty : GoodIn wsX3_goDown (wsV RX3 155 RX1 yX1_empty wsX1_empty) := goodIn_app (goodIn_of _ (by decide +kernel)) ggX3_goDown_X1_empty
set_option maxRecDepth 20000 in
theorem ggX3_logWaiting_X3_powerHolds : GoodIn wsX3_logWaiting wsX3_powerHolds := goodIn_r _ [9, 10, 11, 29, 30, 31, 32, 33, 34, 35, 36, 37, 38, 39, 40, 41, 42, 43] (by decide +kernel) (by decide +kernel)
set_option maxRecDepth 20000 in
theorem gX3_logWaiting_X3_powerHolds : GoodIn wsX3_logWaiting (wsV RX3 158 RX3 yX3_powerHolds wsX3_powerHolds) := goodIn_app (goodIn_of _ (by decide +kernel)) ggX3_logWaiting_X3_powerHolds
set_option maxRecDepth 20000 in
theorem ggX3_logWaiting_J9_floorMod_7cf53 : GoodIn wsX3_logWaiting wsJ9_floorMod_7cf53 := goodIn_r _ [15] (by decide +kernel) (by decide +kernel)
set_option maxRecDepth 20000 in
theorem gX3_logWaiting_J9_floorMod_7cf53 : GoodIn wsX3_logWaiting (va_wsS RX3 161 yJ9_floorMod_7cf53 wsJ9_floorMod_7cf53) := goodIn_app (goodIn_of _ (by decide +kernel)) ggX3_logWaiting_J9_floorMod_7cf53
set_option maxRecDepth 20000 in
theorem ggX3_logWaiting_X0_copy : GoodIn wsX3_logWaiting wsX0_copy := goodIn_r _ [20, 21, 22, 23, 24, 25, 26, 27, 19, 28, 44, 45, 46, 47] (by decide +kernel) (by decide +kernel)
set_option maxRecDepth 20000 in
theorem gX3_logWaiting_X0_copy : GoodIn wsX3_logWaiting (wsV RX3 166 RX0 yX0_copy wsX0_copy) := goodIn_app (goodIn_of _ (by decide +kernel)) ggX3_logWaiting_X0_copy
set_option maxRecDepth 20000 in
theorem ggX3_writePage_X3_powerHolds : GoodIn wsX3_writePage wsX3_powerHolds := goodIn_r _ [5, 6, 7, 16, 17, 18, 19, 20, 21, 22, 23, 24, 25, 26, 27, 28, 29, 30] (by decide +kernel) (by decide +kernel)
set_option maxRecDepth 20000 in
theorem gX3_writePage_X3_powerHolds : GoodIn wsX3_writePage (wsV RX3 158 RX3 yX3_powerHolds wsX3_powerHolds) := goodIn_app (goodIn_of _ (by decide +kernel)) ggX3_writePage_X3_powerHolds
set_option maxRecDepth 20000 in
theorem ggX3_writePage_X2_putSector : GoodIn wsX3_writePage wsX2_putSector := goodIn_r _ [12, 13, 14, 15, 31, 32, 33] (by decide +kernel) (by decide +kernel)
set_option maxRecDepth 20000 in
theorem gX3_writePage_X2_putSector : GoodIn wsX3_writePage (wsV RX3 170 RX2 yX2_putSector wsX2_putSector) := goodIn_app (goodIn_of _ (by decide +kernel)) ggX3_writePage_X2_putSector
set_option maxRecDepth 20000 in
theorem ggX3_cleanDirty_X3_logWaiting : GoodIn wsX3_cleanDirty wsX3_logWaiting := goodIn_r _ [12, 13, 14, 15, 16, 17, 18, 19, 11, 20, 21, 22, 23, 24, 25, 26, 27, 28, 29, 30, 31, 32, 33, 34, 35, 36, 37, 38, 39, 57, 58, 59, 60, 61, 62, 63, 64, 65, 66, 67, 68, 69, 70, 71, 77, 78, 79, 80] (by decide +kernel) (by decide +kernel)
set_option maxRecDepth 20000 in
theorem gX3_cleanDirty_X3_logWaiting : GoodIn wsX3_cleanDirty (wsV RX3 110 RX3 yX3_logWaiting wsX3_logWaiting) := goodIn_app (goodIn_of _ (by decide +kernel)) ggX3_cleanDirty_X3_logWaiting
set_option maxRecDepth 20000 in
theorem ggX3_cleanDirty_X3_writePage : GoodIn wsX3_cleanDirty wsX3_writePage := goodIn_r _ [43, 17, 18, 19, 11, 20, 21, 22, 44, 45, 46, 47, 48, 49, 50, 51, 57, 58, 59, 60, 61, 62, 63, 64, 65, 66, 67, 68, 69, 70, 71, 81, 82, 83] (by decide +kernel) (by decide +kernel)
set_option maxRecDepth 20000 in
theorem gX3_cleanDirty_X3_writePage : GoodIn wsX3_cleanDirty (wsV RX3 183 RX3 yX3_writePage wsX3_writePage) := goodIn_app (goodIn_of _ (by decide +kernel)) ggX3_cleanDirty_X3_writePage
end
section
set_option maxRecDepth 20000 in
theorem ggX3_cleanDirty_X3_writeDirtyHome : GoodIn wsX3_cleanDirty wsX3_writeDirtyHome := goodIn_r _ [55, 1, 2, 56, 4, 5, 6, 40, 41, 42, 11, 43, 17, 18, 19, 20, 21, 22, 44, 45, 46, 47, 48, 49, 50, 51, 57, 58, 59, 60, 61, 62, 63, 64, 65, 66, 67, 68, 69, 70, 71, 72, 73, 74, 75, 76, 81, 82, 83] (by decide +kernel) (by decide +kernel)
set_option maxRecDepth 20000 in
theorem gX3_cleanDirty_X3_writeDirtyHome : GoodIn wsX3_cleanDirty (wsV RX3 187 RX3 yX3_writeDirtyHome wsX3_writeDirtyHome) := goodIn_app (goodIn_of _ (by decide +kernel)) ggX3_cleanDirty_X3_writeDirtyHome
set_option maxRecDepth 20000 in
theorem ggX3_writeDirtyHome_X3_writePage : GoodIn wsX3_writeDirtyHome wsX3_writePage := goodIn_r _ [11, 12, 13, 14, 10, 15, 16, 17, 18, 19, 20, 21, 22, 23, 24, 25, 26, 27, 28, 29, 30, 31, 32, 33, 34, 35, 36, 37, 38, 39, 40, 46, 47, 48] (by decide +kernel) (by decide +kernel)
set_option maxRecDepth 20000 in
theorem gX3_writeDirtyHome_X3_writePage : GoodIn wsX3_writeDirtyHome (wsV RX3 183 RX3 yX3_writePage wsX3_writePage) := goodIn_app (goodIn_of _ (by decide +kernel)) ggX3_writeDirtyHome_X3_writePage
set_option maxRecDepth 20000 in
theorem ggX3_cleanAllAndMark_X3_cleanDirty : GoodIn wsX3_cleanAllAndMark wsX3_cleanDirty := goodIn_r _ [7, 8, 9, 10, 11, 12, 13, 14, 15, 16, 17, 6, 18, 19, 1, 20, 21, 22, 23, 24, 25, 26, 27, 28, 29, 30, 31, 32, 33, 34, 35, 36, 37, 38, 39, 40, 41, 42, 43, 44, 45, 46, 47, 48, 49, 50, 51, 52, 53, 54, 55, 56, 57, 58, 59, 60, 61, 62, 63, 64, 65, 66, 67, 68, 69, 70, 71, 72, 73, 74, 75, 76, 77, 78, 79, 80, 81, 82, 83, 84, 85, 86, 87, 88] (by decide +kernel) (by decide +kernel)
set_option maxRecDepth 20000 in
theorem gX3_cleanAllAndMark_X3_cleanDirty : GoodIn wsX3_cleanAllAndMark (wsV RX3 190 RX3 yX3_cleanDirty wsX3_cleanDirty) := goodIn_app (goodIn_of _ (by decide +kernel)) ggX3_cleanAllAndMark_X3_cleanDirty
set_option maxRecDepth 20000 in
theorem ggX3_cleanAllAndMark_X3_powerHolds : GoodIn wsX3_cleanAllAndMark wsX3_powerHolds := goodIn_r _ [25, 26, 27, 62, 63, 64, 65, 66, 67, 68, 69, 70, 71, 72, 73, 74, 75, 76] (by decide +kernel) (by decide +kernel)
set_option maxRecDepth 20000 in
theorem gX3_cleanAllAndMark_X3_powerHolds : GoodIn wsX3_cleanAllAndMark (wsV RX3 158 RX3 yX3_powerHolds wsX3_powerHolds) := goodIn_app (goodIn_of _ (by decide +kernel)) ggX3_cleanAllAndMark_X3_powerHolds
set_option maxRecDepth 20000 in
theorem ggX3_bring_X3_frameOf : GoodIn wsX3_bring wsX3_frameOf := goodIn_r _ [10, 1, 11, 82, 83, 84, 85, 86, 87, 88, 89, 90, 91, 92, 93, 94, 95, 96, 97, 98, 99, 100, 101] (by decide +kernel) (by decide +kernel)
set_option maxRecDepth 20000 in
theorem gX3_bring_X3_frameOf : GoodIn wsX3_bring (wsV RX3 193 RX3 yX3_frameOf wsX3_frameOf) := goodIn_app (goodIn_of _ (by decide +kernel)) ggX3_bring_X3_frameOf
set_option maxRecDepth 20000 in
theorem ggX3_bring_X3_frameToFill : GoodIn wsX3_bring wsX3_frameToFill := goodIn_r _ [15, 1, 5, 82, 83, 84, 85, 86, 87, 88, 89, 90, 91, 92, 93, 94, 95, 96, 97, 98, 99, 100, 101] (by decide +kernel) (by decide +kernel)
set_option maxRecDepth 20000 in
theorem gX3_bring_X3_frameToFill : GoodIn wsX3_bring (wsV RX3 196 RX3 yX3_frameToFill wsX3_frameToFill) := goodIn_app (goodIn_of _ (by decide +kernel)) ggX3_bring_X3_frameToFill
set_option maxRecDepth 20000 in
theorem ggX3_bring_X3_cleanDirty : GoodIn wsX3_bring wsX3_cleanDirty := goodIn_r _ [19, 1, 2, 20, 11, 21, 22, 23, 24, 25, 26, 9, 27, 28, 29, 30, 31, 32, 33, 34, 35, 36, 37, 38, 39, 40, 41, 42, 43, 44, 45, 46, 47, 48, 49, 50, 51, 52, 53, 54, 55, 56, 57, 58, 59, 60, 61, 62, 63, 64, 65, 66, 67, 68, 69, 70, 3, 82, 83, 84, 85, 86, 87, 88, 89, 90, 91, 92, 93, 94, 95, 96, 97, 98, 99, 100, 101, 102, 103, 104, 105, 106, 107, 108] (by decide +kernel) (by decide +kernel)
set_option maxRecDepth 20000 in
theorem gX3_bring_X3_cleanDirty : GoodIn wsX3_bring (wsV RX3 190 RX3 yX3_cleanDirty wsX3_cleanDirty) := goodIn_app (goodIn_of _ (by decide +kernel)) ggX3_bring_X3_cleanDirty
set_option maxRecDepth 20000 in
theorem ggX3_bring_X1_fill : GoodIn wsX3_bring wsX1_fill := goodIn_r _ [75, 76, 77, 78, 79, 80, 81, 97, 98, 99, 100, 101, 106, 107, 108] (by decide +kernel) (by decide +kernel)
set_option maxRecDepth 20000 in
theorem gX3_bring_X1_fill : GoodIn wsX3_bring (wsV RX3 199 RX1 yX1_fill wsX1_fill) := goodIn_app (goodIn_of _ (by decide +kernel)) ggX3_bring_X1_fill
set_option maxRecDepth 20000 in
theorem ggX3_changeWords_J9_floorMod_7cf53 : GoodIn wsX3_changeWords wsJ9_floorMod_7cf53 := goodIn_r _ [8] (by decide +kernel) (by decide +kernel)
set_option maxRecDepth 20000 in
theorem gX3_changeWords_J9_floorMod_7cf53 : GoodIn wsX3_changeWords (va_wsS RX3 161 yJ9_floorMod_7cf53 wsJ9_floorMod_7cf53) := goodIn_app (goodIn_of _ (by decide +kernel)) ggX3_changeWords_J9_floorMod_7cf53
set_option maxRecDepth 20000 in
theorem ggX3_changeWords_X0_set : GoodIn wsX3_changeWords wsX0_set := goodIn_r _ [13, 14, 15, 16, 17, 46, 47, 48, 49] (by decide +kernel) (by decide +kernel)
set_option maxRecDepth 20000 in
theorem gX3_changeWords_X0_set : GoodIn wsX3_changeWords (wsV RX3 206 RX0 yX0_set wsX0_set) := goodIn_app (goodIn_of _ (by decide +kernel)) ggX3_changeWords_X0_set
set_option maxRecDepth 20000 in
theorem ggX3_changeWords_X1_changeWord : GoodIn wsX3_changeWords wsX1_changeWord := goodIn_r _ [22, 23, 24, 25, 41, 42, 43, 44, 45] (by decide +kernel) (by decide +kernel)
set_option maxRecDepth 20000 in
theorem gX3_changeWords_X1_changeWord : GoodIn wsX3_changeWords (wsV RX3 210 RX1 yX1_changeWord wsX1_changeWord) := goodIn_app (goodIn_of _ (by decide +kernel)) ggX3_changeWords_X1_changeWord
set_option maxRecDepth 20000 in
theorem ggX3_mendHomes_X2_isWhole : GoodIn wsX3_mendHomes wsX2_isWhole := goodIn_r _ [10, 11, 12, 49, 50, 51] (by decide +kernel) (by decide +kernel)
set_option maxRecDepth 20000 in
theorem gX3_mendHomes_X2_isWhole : GoodIn wsX3_mendHomes (wsV RX3 214 RX2 yX2_isWhole wsX2_isWhole) := goodIn_app (goodIn_of _ (by decide +kernel)) ggX3_mendHomes_X2_isWhole
set_option maxRecDepth 20000 in
theorem ggX3_mendHomes_X3_slotToMendFrom : GoodIn wsX3_mendHomes wsX3_slotToMendFrom := goodIn_r _ [17, 2, 18, 3, 6, 7, 8, 9, 10, 11, 12, 34, 35, 36, 37, 38, 39, 40, 41, 42, 43, 44, 45, 46, 47, 48, 49, 50, 51] (by decide +kernel) (by decide +kernel)
set_option maxRecDepth 20000 in
theorem gX3_mendHomes_X3_slotToMendFrom : GoodIn wsX3_mendHomes (wsV RX3 217 RX3 yX3_slotToMendFrom wsX3_slotToMendFrom) := goodIn_app (goodIn_of _ (by decide +kernel)) ggX3_mendHomes_X3_slotToMendFrom
set_option maxRecDepth 20000 in
theorem ggX3_mendHomes_X3_writePage : GoodIn wsX3_mendHomes wsX3_writePage := goodIn_r _ [22, 23, 24, 25, 16, 26, 27, 28, 29, 30, 31, 9, 32, 33, 11, 12, 34, 35, 36, 37, 38, 39, 40, 41, 42, 43, 44, 45, 46, 47, 48, 49, 50, 51] (by decide +kernel) (by decide +kernel)
set_option maxRecDepth 20000 in
theorem gX3_mendHomes_X3_writePage : GoodIn wsX3_mendHomes (wsV RX3 183 RX3 yX3_writePage wsX3_writePage) := goodIn_app (goodIn_of _ (by decide +kernel)) ggX3_mendHomes_X3_writePage
set_option maxRecDepth 20000 in
theorem ggX3_slotToMendFrom_X2_isWhole : GoodIn wsX3_slotToMendFrom wsX2_isWhole := goodIn_r _ [8, 9, 10, 26, 27, 28] (by decide +kernel) (by decide +kernel)
set_option maxRecDepth 20000 in
theorem gX3_slotToMendFrom_X2_isWhole : GoodIn wsX3_slotToMendFrom (wsV RX3 214 RX2 yX2_isWhole wsX2_isWhole) := goodIn_app (goodIn_of _ (by decide +kernel)) ggX3_slotToMendFrom_X2_isWhole
set_option maxRecDepth 20000 in
theorem ggX3_redoLogged_J9_floorMod_7cf53 : GoodIn wsX3_redoLogged wsJ9_floorMod_7cf53 := goodIn_r _ [12] (by decide +kernel) (by decide +kernel)
set_option maxRecDepth 20000 in
theorem gX3_redoLogged_J9_floorMod_7cf53 : GoodIn wsX3_redoLogged (va_wsS RX3 161 yJ9_floorMod_7cf53 wsJ9_floorMod_7cf53) := goodIn_app (goodIn_of _ (by decide +kernel)) ggX3_redoLogged_J9_floorMod_7cf53
set_option maxRecDepth 20000 in
theorem ggX3_redoLogged_X3_bring : GoodIn wsX3_redoLogged wsX3_bring := goodIn_r _ [17, 5, 18, 19, 20, 21, 22, 23, 24, 16, 25, 26, 27, 28, 29, 30, 31, 32, 33, 34, 35, 6, 36, 37, 38, 39, 40, 41, 42, 43, 2, 44, 45, 46, 47, 48, 49, 50, 9, 10, 11, 12, 51, 52, 53, 54, 55, 56, 57, 58, 59, 60, 61, 62, 63, 64, 65, 66, 67, 68, 69, 70, 71, 72, 73, 74, 75, 76, 77, 78, 79, 80, 81, 82, 83, 84, 85, 86, 87, 88, 89, 90, 95, 96, 97, 98, 99, 100, 101, 102, 103, 104, 105, 106, 107, 108, 109, 114, 115, 116, 117, 118, 110, 111, 112, 113, 119, 120, 121] (by decide +kernel) (by decide +kernel)
set_option maxRecDepth 20000 in
theorem gX3_redoLogged_X3_bring : GoodIn wsX3_redoLogged (wsV RX3 98 RX3 yX3_bring wsX3_bring) := goodIn_app (goodIn_of _ (by decide +kernel)) ggX3_redoLogged_X3_bring
set_option maxRecDepth 20000 in
theorem ggX3_redoLogged_X1_changeWord : GoodIn wsX3_redoLogged wsX1_changeWord := goodIn_r _ [94, 85, 89, 90, 114, 115, 116, 117, 118] (by decide +kernel) (by decide +kernel)
set_option maxRecDepth 20000 in
theorem gX3_redoLogged_X1_changeWord : GoodIn wsX3_redoLogged (wsV RX3 210 RX1 yX1_changeWord wsX1_changeWord) := goodIn_app (goodIn_of _ (by decide +kernel)) ggX3_redoLogged_X1_changeWord
set_option maxRecDepth 20000 in
theorem ggX4_mayWrite_X4_goDown : GoodIn wsX4_mayWrite wsX4_goDown := goodIn_r _ [7, 1, 8, 9, 10, 11, 12, 13, 14, 15, 16, 17, 18, 19, 20, 21, 22, 23, 24, 25, 26, 27, 28, 29, 30, 31, 32, 33, 34, 35, 36, 37, 38, 39, 40] (by decide +kernel) (by decide +kernel)
set_option maxRecDepth 20000 in
theorem gX4_mayWrite_X4_goDown : GoodIn wsX4_mayWrite (wsV RX4 85 RX4 yX4_goDown wsX4_goDown) := goodIn_app (goodIn_of _ (by decide +kernel)) ggX4_mayWrite_X4_goDown
set_option maxRecDepth 20000 in
theorem ggX4_writeHome_X4_mayWrite : GoodIn wsX4_writeHome wsX4_mayWrite := goodIn_r _ [9, 10, 11, 12, 13, 14, 8, 15, 16, 17, 18, 19, 20, 21, 22, 23, 24, 25, 26, 27, 28, 29, 30, 31, 32, 33, 34, 35, 36, 37, 38, 39, 40, 41, 42, 43, 44, 45, 46, 47, 48] (by decide +kernel) (by decide +kernel)
set_option maxRecDepth 20000 in
theorem gX4_writeHome_X4_mayWrite : GoodIn wsX4_writeHome (wsV RX4 91 RX4 yX4_mayWrite wsX4_mayWrite) := goodIn_app (goodIn_of _ (by decide +kernel)) ggX4_writeHome_X4_mayWrite
end
section
set_option maxRecDepth 20000 in
theorem ggX4_writeBeside_X4_mayWrite : GoodIn wsX4_writeBeside wsX4_mayWrite := goodIn_r _ [11, 12, 13, 14, 15, 16, 10, 17, 18, 19, 1, 20, 21, 22, 23, 24, 25, 26, 27, 28, 29, 30, 31, 32, 33, 34, 35, 36, 37, 38, 39, 40, 41, 42, 43, 44, 45, 46, 47, 48, 49] (by decide +kernel) (by decide +kernel)
set_option maxRecDepth 20000 in
theorem gX4_writeBeside_X4_mayWrite : GoodIn wsX4_writeBeside (wsV RX4 91 RX4 yX4_mayWrite wsX4_mayWrite) := goodIn_app (goodIn_of _ (by decide +kernel)) ggX4_writeBeside_X4_mayWrite
set_option maxRecDepth 20000 in
theorem ggX4_logWaiting_X4_mayWrite : GoodIn wsX4_logWaiting wsX4_mayWrite := goodIn_r _ [14, 15, 16, 17, 18, 19, 13, 20, 21, 1, 22, 23, 24, 25, 26, 27, 28, 29, 30, 31, 32, 33, 34, 35, 36, 37, 38, 39, 40, 41, 42, 43, 44, 45, 46, 47, 48, 49, 50, 51, 52] (by decide +kernel) (by decide +kernel)
set_option maxRecDepth 20000 in
theorem gX4_logWaiting_X4_mayWrite : GoodIn wsX4_logWaiting (wsV RX4 91 RX4 yX4_mayWrite wsX4_mayWrite) := goodIn_app (goodIn_of _ (by decide +kernel)) ggX4_logWaiting_X4_mayWrite
set_option maxRecDepth 20000 in
theorem ggX4_clean_X4_logWaiting : GoodIn wsX4_clean wsX4_logWaiting := goodIn_r _ [9, 10, 11, 12, 13, 14, 15, 16, 17, 18, 19, 20, 21, 8, 22, 23, 24, 25, 26, 27, 28, 29, 2, 1, 44, 45, 46, 47, 48, 49, 50, 51, 52, 53, 54, 55, 56, 57, 58, 59, 60, 61, 62, 63, 64, 65, 66, 67, 68, 69, 70, 71, 72] (by decide +kernel) (by decide +kernel)
set_option maxRecDepth 20000 in
theorem gX4_clean_X4_logWaiting : GoodIn wsX4_clean (wsV RX4 95 RX4 yX4_logWaiting wsX4_logWaiting) := goodIn_app (goodIn_of _ (by decide +kernel)) ggX4_clean_X4_logWaiting
set_option maxRecDepth 20000 in
theorem ggX4_clean_X4_writeBeside : GoodIn wsX4_clean wsX4_writeBeside := goodIn_r _ [33, 2, 34, 3, 35, 36, 37, 19, 20, 21, 8, 22, 23, 24, 25, 26, 27, 28, 29, 10, 1, 44, 45, 46, 47, 48, 49, 50, 51, 52, 53, 54, 55, 56, 57, 58, 59, 60, 61, 62, 63, 64, 65, 66, 67, 68, 69, 70, 71, 72] (by decide +kernel) (by decide +kernel)
set_option maxRecDepth 20000 in
theorem gX4_clean_X4_writeBeside : GoodIn wsX4_clean (wsV RX4 98 RX4 yX4_writeBeside wsX4_writeBeside) := goodIn_app (goodIn_of _ (by decide +kernel)) ggX4_clean_X4_writeBeside
set_option maxRecDepth 20000 in
theorem ggX4_clean_X4_writeHome : GoodIn wsX4_clean wsX4_writeHome := goodIn_r _ [41, 42, 43, 37, 36, 19, 20, 21, 8, 22, 23, 24, 25, 26, 27, 28, 29, 10, 2, 1, 44, 45, 46, 47, 48, 49, 50, 51, 52, 53, 54, 55, 56, 57, 58, 59, 60, 61, 62, 63, 64, 65, 66, 67, 68, 69, 70, 71, 72] (by decide +kernel) (by decide +kernel)
set_option maxRecDepth 20000 in
theorem gX4_clean_X4_writeHome : GoodIn wsX4_clean (wsV RX4 102 RX4 yX4_writeHome wsX4_writeHome) := goodIn_app (goodIn_of _ (by decide +kernel)) ggX4_clean_X4_writeHome
set_option maxRecDepth 20000 in
theorem ggX4_bring_X4_clean : GoodIn wsX4_bring wsX4_clean := goodIn_r _ [13, 3, 1, 4, 14, 15, 16, 17, 12, 18, 19, 20, 21, 22, 23, 24, 25, 26, 27, 28, 29, 30, 31, 32, 33, 34, 35, 36, 37, 38, 39, 40, 41, 42, 43, 44, 45, 6, 46, 47, 48, 49, 5, 7, 50, 51, 52, 53, 54, 55, 56, 57, 58, 59, 60, 61, 62, 63, 64, 65, 66, 67, 68, 69, 70, 71, 72, 73, 74, 75, 76, 77, 78] (by decide +kernel) (by decide +kernel)
set_option maxRecDepth 20000 in
theorem gX4_bring_X4_clean : GoodIn wsX4_bring (wsV RX4 109 RX4 yX4_clean wsX4_clean) := goodIn_app (goodIn_of _ (by decide +kernel)) ggX4_bring_X4_clean
set_option maxRecDepth 20000 in
theorem ggX4_check_X4_clean : GoodIn wsX4_check wsX4_clean := goodIn_r _ [8, 9, 10, 11, 1, 12, 13, 14, 7, 15, 16, 17, 18, 19, 20, 21, 22, 23, 24, 25, 26, 27, 28, 29, 30, 31, 32, 33, 34, 35, 36, 37, 38, 39, 40, 41, 42, 43, 44, 45, 46, 47, 48, 49, 50, 51, 52, 53, 54, 55, 56, 57, 58, 59, 60, 61, 62, 63, 64, 65, 66, 67, 68, 69, 70, 71, 72, 73, 74, 75, 76, 77, 78] (by decide +kernel) (by decide +kernel)
set_option maxRecDepth 20000 in
theorem gX4_check_X4_clean : GoodIn wsX4_check (wsV RX4 109 RX4 yX4_clean wsX4_clean) := goodIn_app (goodIn_of _ (by decide +kernel)) ggX4_check_X4_clean
set_option maxRecDepth 20000 in
theorem ggX4_check_X4_mayWrite : GoodIn wsX4_check wsX4_mayWrite := goodIn_r _ [28, 29, 30, 31, 32, 33, 7, 34, 35, 16, 10, 9, 50, 51, 52, 53, 54, 55, 56, 57, 58, 59, 60, 61, 62, 63, 64, 65, 66, 67, 68, 69, 70, 71, 72, 73, 74, 75, 76, 77, 78] (by decide +kernel) (by decide +kernel)
set_option maxRecDepth 20000 in
theorem gX4_check_X4_mayWrite : GoodIn wsX4_check (wsV RX4 91 RX4 yX4_mayWrite wsX4_mayWrite) := goodIn_app (goodIn_of _ (by decide +kernel)) ggX4_check_X4_mayWrite
set_option maxRecDepth 20000 in
theorem ggX4_change_X4_in : GoodIn wsX4_change wsX4_in := goodIn_r _ [15] (by decide +kernel) (by decide +kernel)
set_option maxRecDepth 20000 in
theorem gX4_change_X4_in : GoodIn wsX4_change (va_wsS RX4 116 yX4_in wsX4_in) := goodIn_app (goodIn_of _ (by decide +kernel)) ggX4_change_X4_in
set_option maxRecDepth 20000 in
theorem ggX4_change_X4_refuses : GoodIn wsX4_change wsX4_refuses := goodIn_r _ [19, 1, 72, 73, 74, 75, 76, 77, 78, 79, 80, 81, 82, 83, 84, 85, 86, 87, 88, 89, 90, 91, 92, 93, 94, 95, 96, 97, 98, 99, 100] (by decide +kernel) (by decide +kernel)
set_option maxRecDepth 20000 in
theorem gX4_change_X4_refuses : GoodIn wsX4_change (wsV RX4 120 RX4 yX4_refuses wsX4_refuses) := goodIn_app (goodIn_of _ (by decide +kernel)) ggX4_change_X4_refuses
set_option maxRecDepth 20000 in
theorem ggX4_change_X4_room : GoodIn wsX4_change wsX4_room := goodIn_r _ [23, 24, 5, 72, 73, 74, 75, 76, 77, 78, 79, 80, 81, 82, 83, 84, 85, 86, 87, 88, 89, 90, 91, 92, 93, 94, 95, 96, 97, 98, 99, 100] (by decide +kernel) (by decide +kernel)
set_option maxRecDepth 20000 in
theorem gX4_change_X4_room : GoodIn wsX4_change (wsV RX4 124 RX4 yX4_room wsX4_room) := goodIn_app (goodIn_of _ (by decide +kernel)) ggX4_change_X4_room
set_option maxRecDepth 20000 in
theorem ggX4_change_X4_check : GoodIn wsX4_change wsX4_check := goodIn_r _ [28, 29, 5, 24, 30, 31, 32, 14, 33, 6, 34, 4, 35, 36, 37, 38, 8, 7, 39, 40, 9, 41, 10, 42, 11, 43, 44, 45, 46, 47, 48, 49, 50, 51, 52, 2, 53, 54, 55, 56, 57, 58, 59, 3, 60, 61, 62, 63, 64, 65, 72, 73, 74, 75, 76, 77, 78, 79, 80, 81, 82, 83, 84, 85, 86, 87, 88, 89, 90, 91, 92, 93, 94, 95, 96, 97, 98, 99, 100] (by decide +kernel) (by decide +kernel)
set_option maxRecDepth 20000 in
theorem gX4_change_X4_check : GoodIn wsX4_change (wsV RX4 128 RX4 yX4_check wsX4_check) := goodIn_app (goodIn_of _ (by decide +kernel)) ggX4_change_X4_check
set_option maxRecDepth 20000 in
theorem ggX4_change_X4_bring : GoodIn wsX4_change wsX4_bring := goodIn_r _ [69, 34, 70, 6, 4, 64, 3, 65, 71, 30, 31, 32, 14, 33, 29, 35, 36, 37, 38, 8, 7, 39, 40, 9, 41, 10, 42, 11, 43, 44, 45, 46, 47, 48, 49, 50, 51, 52, 2, 53, 54, 55, 56, 57, 58, 59, 60, 61, 62, 63, 72, 73, 74, 75, 76, 77, 78, 79, 80, 81, 82, 83, 84, 85, 86, 87, 88, 89, 90, 91, 92, 93, 94, 95, 96, 97, 98, 99, 100] (by decide +kernel) (by decide +kernel)
set_option maxRecDepth 20000 in
theorem gX4_change_X4_bring : GoodIn wsX4_change (wsV RX4 131 RX4 yX4_bring wsX4_bring) := goodIn_app (goodIn_of _ (by decide +kernel)) ggX4_change_X4_bring
set_option maxRecDepth 20000 in
theorem ggX4_read_X4_in : GoodIn wsX4_read wsX4_in := goodIn_r _ [8] (by decide +kernel) (by decide +kernel)
set_option maxRecDepth 20000 in
theorem gX4_read_X4_in : GoodIn wsX4_read (va_wsS RX4 116 yX4_in wsX4_in) := goodIn_app (goodIn_of _ (by decide +kernel)) ggX4_read_X4_in
set_option maxRecDepth 20000 in
theorem ggX4_read_X4_refuses : GoodIn wsX4_read wsX4_refuses := goodIn_r _ [12, 1, 63, 64, 65, 66, 67, 68, 69, 70, 71, 72, 73, 74, 75, 76, 77, 78, 79, 80, 81, 82, 83, 84, 85, 86, 87, 88, 89, 90, 91] (by decide +kernel) (by decide +kernel)
set_option maxRecDepth 20000 in
theorem gX4_read_X4_refuses : GoodIn wsX4_read (wsV RX4 120 RX4 yX4_refuses wsX4_refuses) := goodIn_app (goodIn_of _ (by decide +kernel)) ggX4_read_X4_refuses
set_option maxRecDepth 20000 in
theorem ggX4_read_X4_bring : GoodIn wsX4_read wsX4_bring := goodIn_r _ [16, 17, 18, 19, 20, 21, 3, 22, 23, 24, 25, 26, 7, 27, 28, 29, 30, 31, 32, 33, 34, 35, 36, 37, 38, 39, 40, 41, 42, 43, 44, 45, 46, 47, 48, 49, 50, 51, 2, 52, 53, 54, 55, 56, 57, 58, 59, 60, 61, 62, 63, 64, 65, 66, 67, 68, 69, 70, 71, 72, 73, 74, 75, 76, 77, 78, 79, 80, 81, 82, 83, 84, 85, 86, 87, 88, 89, 90, 91] (by decide +kernel) (by decide +kernel)
set_option maxRecDepth 20000 in
theorem gX4_read_X4_bring : GoodIn wsX4_read (wsV RX4 131 RX4 yX4_bring wsX4_bring) := goodIn_app (goodIn_of _ (by decide +kernel)) ggX4_read_X4_bring
set_option maxRecDepth 20000 in
theorem ggX4_sync_X4_refuses : GoodIn wsX4_sync wsX4_refuses := goodIn_r _ [8, 1, 33, 34, 35, 36, 37, 38, 39, 40, 41, 42, 43, 44, 45, 46, 47, 48, 49, 50, 51, 52, 53, 54, 55, 56, 57, 58, 59, 60, 61] (by decide +kernel) (by decide +kernel)
set_option maxRecDepth 20000 in
theorem gX4_sync_X4_refuses : GoodIn wsX4_sync (wsV RX4 120 RX4 yX4_refuses wsX4_refuses) := goodIn_app (goodIn_of _ (by decide +kernel)) ggX4_sync_X4_refuses
set_option maxRecDepth 20000 in
theorem ggX4_sync_X4_logWaiting : GoodIn wsX4_sync wsX4_logWaiting := goodIn_r _ [12, 3, 13, 14, 15, 16, 17, 18, 19, 20, 21, 22, 23, 7, 24, 25, 26, 27, 28, 29, 30, 2, 31, 32, 33, 34, 35, 36, 37, 38, 39, 40, 41, 42, 43, 44, 45, 46, 47, 48, 49, 50, 51, 52, 53, 54, 55, 56, 57, 58, 59, 60, 61] (by decide +kernel) (by decide +kernel)
set_option maxRecDepth 20000 in
theorem gX4_sync_X4_logWaiting : GoodIn wsX4_sync (wsV RX4 95 RX4 yX4_logWaiting wsX4_logWaiting) := goodIn_app (goodIn_of _ (by decide +kernel)) ggX4_sync_X4_logWaiting
set_option maxRecDepth 20000 in
theorem ggX4_checkpoint_X4_refuses : GoodIn wsX4_checkpoint wsX4_refuses := goodIn_r _ [7, 1, 59, 60, 61, 62, 63, 64, 65, 66, 67, 68, 69, 70, 71, 72, 73, 74, 75, 76, 77, 78, 79, 80, 81, 82, 83, 84, 85, 86, 87] (by decide +kernel) (by decide +kernel)
set_option maxRecDepth 20000 in
theorem gX4_checkpoint_X4_refuses : GoodIn wsX4_checkpoint (wsV RX4 120 RX4 yX4_refuses wsX4_refuses) := goodIn_app (goodIn_of _ (by decide +kernel)) ggX4_checkpoint_X4_refuses
set_option maxRecDepth 20000 in
theorem ggX4_checkpoint_X4_check : GoodIn wsX4_checkpoint wsX4_check := goodIn_r _ [11, 12, 13, 14, 15, 16, 17, 6, 18, 19, 20, 21, 22, 23, 24, 25, 26, 27, 28, 29, 30, 31, 32, 33, 34, 35, 36, 37, 38, 39, 40, 41, 42, 43, 44, 2, 45, 46, 47, 48, 49, 50, 51, 52, 53, 54, 55, 56, 57, 58, 59, 60, 61, 62, 63, 64, 65, 66, 67, 68, 69, 70, 71, 72, 73, 74, 75, 76, 77, 78, 79, 80, 81, 82, 83, 84, 85, 86, 87] (by decide +kernel) (by decide +kernel)
set_option maxRecDepth 20000 in
theorem gX4_checkpoint_X4_check : GoodIn wsX4_checkpoint (wsV RX4 128 RX4 yX4_check wsX4_check) := goodIn_app (goodIn_of _ (by decide +kernel)) ggX4_checkpoint_X4_check
end
section
set_option maxRecDepth 20000 in
theorem ggX4_power_X4_in : GoodIn wsX4_power wsX4_in := goodIn_r _ [6] (by decide +kernel) (by decide +kernel)
set_option maxRecDepth 20000 in
theorem gX4_power_X4_in : GoodIn wsX4_power (va_wsS RX4 116 yX4_in wsX4_in) := goodIn_app (goodIn_of _ (by decide +kernel)) ggX4_power_X4_in
set_option maxRecDepth 20000 in
theorem ggX4_power_X4_refuses : GoodIn wsX4_power wsX4_refuses := goodIn_r _ [10, 1, 11, 12, 13, 14, 15, 16, 17, 18, 19, 20, 21, 22, 23, 24, 25, 26, 27, 28, 29, 30, 31, 32, 33, 34, 35, 36, 37, 38, 39] (by decide +kernel) (by decide +kernel)
set_option maxRecDepth 20000 in
theorem gX4_power_X4_refuses : GoodIn wsX4_power (wsV RX4 120 RX4 yX4_refuses wsX4_refuses) := goodIn_app (goodIn_of _ (by decide +kernel)) ggX4_power_X4_refuses
set_option maxRecDepth 20000 in
theorem ggX4_mend_X4_isHomeWhole : GoodIn wsX4_mend wsX4_isHomeWhole := goodIn_r _ [8, 9, 35, 36, 37, 38, 39, 40, 41, 42, 43, 44, 45, 46, 47, 48, 49, 50, 51, 52, 53, 54, 55, 56, 57, 58, 59, 60, 61, 62, 63] (by decide +kernel) (by decide +kernel)
set_option maxRecDepth 20000 in
theorem gX4_mend_X4_isHomeWhole : GoodIn wsX4_mend (wsV RX4 138 RX4 yX4_isHomeWhole wsX4_isHomeWhole) := goodIn_app (goodIn_of _ (by decide +kernel)) ggX4_mend_X4_isHomeWhole
set_option maxRecDepth 20000 in
theorem ggX4_mend_X4_isSlotWhole : GoodIn wsX4_mend wsX4_isSlotWhole := goodIn_r _ [13, 2, 1, 35, 36, 37, 38, 39, 40, 41, 42, 43, 44, 45, 46, 47, 48, 49, 50, 51, 52, 53, 54, 55, 56, 57, 58, 59, 60, 61, 62, 63] (by decide +kernel) (by decide +kernel)
set_option maxRecDepth 20000 in
theorem gX4_mend_X4_isSlotWhole : GoodIn wsX4_mend (wsV RX4 141 RX4 yX4_isSlotWhole wsX4_isSlotWhole) := goodIn_app (goodIn_of _ (by decide +kernel)) ggX4_mend_X4_isSlotWhole
set_option maxRecDepth 20000 in
theorem ggX4_mend_X4_writeHome : GoodIn wsX4_mend wsX4_writeHome := goodIn_r _ [17, 9, 18, 19, 20, 21, 22, 23, 7, 24, 25, 26, 27, 28, 29, 30, 31, 32, 33, 34, 35, 36, 37, 38, 39, 40, 41, 42, 43, 44, 45, 46, 47, 48, 49, 50, 51, 52, 53, 54, 55, 56, 57, 58, 59, 60, 61, 62, 63] (by decide +kernel) (by decide +kernel)
set_option maxRecDepth 20000 in
theorem gX4_mend_X4_writeHome : GoodIn wsX4_mend (wsV RX4 102 RX4 yX4_writeHome wsX4_writeHome) := goodIn_app (goodIn_of _ (by decide +kernel)) ggX4_mend_X4_writeHome
set_option maxRecDepth 20000 in
theorem ggX4_recover_X4_refuses : GoodIn wsX4_recover wsX4_refuses := goodIn_r _ [16, 1, 74, 75, 76, 77, 78, 79, 80, 81, 82, 83, 84, 85, 86, 87, 88, 89, 90, 91, 92, 93, 94, 95, 96, 97, 98, 99, 100, 101, 102] (by decide +kernel) (by decide +kernel)
set_option maxRecDepth 20000 in
theorem gX4_recover_X4_refuses : GoodIn wsX4_recover (wsV RX4 120 RX4 yX4_refuses wsX4_refuses) := goodIn_app (goodIn_of _ (by decide +kernel)) ggX4_recover_X4_refuses
set_option maxRecDepth 20000 in
theorem ggX4_recover_X4_mend : GoodIn wsX4_recover wsX4_mend := goodIn_r _ [20, 21, 22, 23, 24, 25, 26, 15, 27, 28, 29, 30, 31, 32, 33, 34, 35, 36, 37, 7, 38, 39, 40, 41, 42, 43, 44, 45, 46, 47, 48, 2, 49, 50, 10, 74, 75, 76, 77, 78, 79, 80, 81, 82, 83, 84, 85, 86, 87, 88, 89, 90, 91, 92, 93, 94, 95, 96, 97, 98, 99, 100, 101, 102] (by decide +kernel) (by decide +kernel)
set_option maxRecDepth 20000 in
theorem gX4_recover_X4_mend : GoodIn wsX4_recover (wsV RX4 147 RX4 yX4_mend wsX4_mend) := goodIn_app (goodIn_of _ (by decide +kernel)) ggX4_recover_X4_mend
set_option maxRecDepth 20000 in
theorem ggX4_recover_X4_bring : GoodIn wsX4_recover wsX4_bring := goodIn_r _ [54, 50, 55, 10, 6, 28, 7, 37, 56, 57, 58, 59, 15, 60, 61, 62, 63, 64, 65, 49, 66, 4, 5, 67, 8, 68, 9, 69, 39, 40, 41, 42, 43, 44, 45, 46, 47, 48, 2, 70, 71, 72, 73, 22, 21, 38, 33, 34, 35, 36, 74, 75, 76, 77, 78, 79, 80, 81, 82, 83, 84, 85, 86, 87, 88, 89, 90, 91, 92, 93, 94, 95, 96, 97, 98, 99, 100, 101, 102] (by decide +kernel) (by decide +kernel)
set_option maxRecDepth 20000 in
theorem gX4_recover_X4_bring : GoodIn wsX4_recover (wsV RX4 131 RX4 yX4_bring wsX4_bring) := goodIn_app (goodIn_of _ (by decide +kernel)) ggX4_recover_X4_bring
set_option maxRecDepth 20000 in
theorem ggX4_cut_X4_refuses : GoodIn wsX4_cut wsX4_refuses := goodIn_r _ [8, 1, 16, 17, 18, 19, 20, 21, 22, 23, 24, 25, 26, 27, 28, 29, 30, 31, 32, 33, 34, 35, 36, 37, 38, 39, 40, 41, 42, 43, 44] (by decide +kernel) (by decide +kernel)
set_option maxRecDepth 20000 in
theorem gX4_cut_X4_refuses : GoodIn wsX4_cut (wsV RX4 120 RX4 yX4_refuses wsX4_refuses) := goodIn_app (goodIn_of _ (by decide +kernel)) ggX4_cut_X4_refuses
set_option maxRecDepth 20000 in
theorem ggX4_cut_X4_goDown : GoodIn wsX4_cut wsX4_goDown := goodIn_r _ [12, 13, 2, 3, 14, 15, 16, 17, 18, 19, 20, 21, 22, 23, 24, 25, 26, 27, 28, 29, 30, 31, 32, 33, 34, 35, 36, 37, 38, 39, 40, 41, 42, 43, 44] (by decide +kernel) (by decide +kernel)
set_option maxRecDepth 20000 in
theorem gX4_cut_X4_goDown : GoodIn wsX4_cut (wsV RX4 85 RX4 yX4_goDown wsX4_goDown) := goodIn_app (goodIn_of _ (by decide +kernel)) ggX4_cut_X4_goDown
set_option maxRecDepth 20000 in
theorem ggX4_disk_X4_in : GoodIn wsX4_disk wsX4_in := goodIn_r _ [15] (by decide +kernel) (by decide +kernel)
set_option maxRecDepth 20000 in
theorem gX4_disk_X4_in : GoodIn wsX4_disk (va_wsS RX4 116 yX4_in wsX4_in) := goodIn_app (goodIn_of _ (by decide +kernel)) ggX4_disk_X4_in
set_option maxRecDepth 20000 in
theorem ggX4_disk_X4_refuses : GoodIn wsX4_disk wsX4_refuses := goodIn_r _ [19, 1, 20, 21, 22, 23, 24, 25, 26, 27, 28, 29, 30, 31, 32, 33, 34, 35, 36, 37, 38, 39, 40, 41, 42, 43, 44, 45, 46, 47, 48] (by decide +kernel) (by decide +kernel)
set_option maxRecDepth 20000 in
theorem gX4_disk_X4_refuses : GoodIn wsX4_disk (wsV RX4 120 RX4 yX4_refuses wsX4_refuses) := goodIn_app (goodIn_of _ (by decide +kernel)) ggX4_disk_X4_refuses
set_option maxRecDepth 20000 in
theorem ggX4_frame_X4_in : GoodIn wsX4_frame wsX4_in := goodIn_r _ [9] (by decide +kernel) (by decide +kernel)
set_option maxRecDepth 20000 in
theorem gX4_frame_X4_in : GoodIn wsX4_frame (va_wsS RX4 116 yX4_in wsX4_in) := goodIn_app (goodIn_of _ (by decide +kernel)) ggX4_frame_X4_in
set_option maxRecDepth 20000 in
theorem ggX4_frame_X4_refuses : GoodIn wsX4_frame wsX4_refuses := goodIn_r _ [13, 1, 14, 15, 16, 17, 18, 19, 20, 21, 22, 23, 24, 25, 26, 27, 28, 29, 30, 31, 32, 33, 34, 35, 36, 37, 38, 39, 40, 41, 42] (by decide +kernel) (by decide +kernel)
set_option maxRecDepth 20000 in
theorem gX4_frame_X4_refuses : GoodIn wsX4_frame (wsV RX4 120 RX4 yX4_refuses wsX4_refuses) := goodIn_app (goodIn_of _ (by decide +kernel)) ggX4_frame_X4_refuses
set_option maxRecDepth 20000 in
theorem ggX4_count_X4_in : GoodIn wsX4_count wsX4_in := goodIn_r _ [11] (by decide +kernel) (by decide +kernel)
set_option maxRecDepth 20000 in
theorem gX4_count_X4_in : GoodIn wsX4_count (va_wsS RX4 116 yX4_in wsX4_in) := goodIn_app (goodIn_of _ (by decide +kernel)) ggX4_count_X4_in
set_option maxRecDepth 20000 in
theorem ggX4_count_X4_refuses : GoodIn wsX4_count wsX4_refuses := goodIn_r _ [15, 1, 21, 22, 23, 24, 25, 26, 27, 28, 29, 30, 31, 32, 33, 34, 35, 36, 37, 38, 39, 40, 41, 42, 43, 44, 45, 46, 47, 48, 49] (by decide +kernel) (by decide +kernel)
set_option maxRecDepth 20000 in
theorem gX4_count_X4_refuses : GoodIn wsX4_count (wsV RX4 120 RX4 yX4_refuses wsX4_refuses) := goodIn_app (goodIn_of _ (by decide +kernel)) ggX4_count_X4_refuses
set_option maxRecDepth 20000 in
theorem ggX4_count_X4_room : GoodIn wsX4_count wsX4_room := goodIn_r _ [19, 20, 3, 21, 22, 23, 24, 25, 26, 27, 28, 29, 30, 31, 32, 33, 34, 35, 36, 37, 38, 39, 40, 41, 42, 43, 44, 45, 46, 47, 48, 49] (by decide +kernel) (by decide +kernel)
set_option maxRecDepth 20000 in
theorem gX4_count_X4_room : GoodIn wsX4_count (wsV RX4 124 RX4 yX4_room wsX4_room) := goodIn_app (goodIn_of _ (by decide +kernel)) ggX4_count_X4_room
set_option maxRecDepth 20000 in
theorem ggL_change_X3_change : GoodIn wsL_change wsX3_change := goodIn_ca (goodIn_ca (goodIn_r _ [7, 8, 9, 10, 11, 12, 13, 14, 15, 16, 6, 17, 18, 19, 20, 21, 22, 23, 24, 25, 26, 27, 28, 29, 30, 31, 32, 33, 34, 35, 36, 37, 38, 39, 40, 41, 42, 43, 44, 45, 46, 47, 48, 49, 50, 51, 52, 53, 54, 55, 56, 57, 58, 59, 60, 61, 62, 63, 64, 65, 66, 67, 68, 69, 70, 71, 72, 73, 74, 75, 76, 77, 78, 79, 80, 81, 82, 83, 84, 85, 86, 87, 88, 89, 90, 91, 92, 93, 94, 95, 96, 97, 98, 99, 100, 101, 102, 103, 104, 105, 106, 107, 108, 109, 110, 111, 112, 113, 114, 115, 116, 117, 118, 119, 120, 121, 122, 123, 124, 125, 126, 127, 128, 129, 130, 131, 132, 133, 134, 135, 136, 137, 138, 139, 140, 141, 142, 143, 144, 145, 146, 147, 148, 149, 150, 151, 152, 153, 154, 155, 156, 157] (by decide +kernel) (by decide +kernel)) (goodIn_sub (fun _ h => List.mem_cons_of_mem _ (List.mem_append_left _ (List.mem_append_right _ h))) (by decide +kernel))) (goodIn_sub (fun _ h => List.mem_cons_of_mem _ (List.mem_append_right _ h)) (by decide +kernel))
set_option maxRecDepth 20000 in
theorem gL_change_X3_change : GoodIn wsL_change (wsV RL 7 RX3 yX3_change wsX3_change) := goodIn_app (goodIn_of _ (by decide +kernel)) ggL_change_X3_change
set_option maxRecDepth 20000 in
theorem ggL_read_X3_read : GoodIn wsL_read wsX3_read := goodIn_ca (goodIn_ca (goodIn_r _ [7, 8, 9, 10, 11, 12, 13, 14, 15, 16, 17, 6, 18, 19, 20, 21, 22, 23, 24, 25, 26, 27, 28, 29, 30, 31, 32, 33, 34, 35, 36, 37, 38, 39, 40, 41, 42, 43, 44, 45, 46, 47, 48, 49, 50, 51, 52, 53, 54, 55, 56, 57, 58, 59, 60, 61, 62, 63, 64, 65, 66, 67, 68, 69, 70, 71, 72, 73, 74, 75, 76, 77, 78, 79, 80, 81, 82, 83, 84, 85, 86, 87, 88, 89, 90, 91, 92, 93, 94, 95, 96, 97, 98, 99, 100, 101, 102, 103, 104, 105, 106, 107, 108, 109, 110, 111, 112, 113, 114, 115, 116, 117, 118, 119, 120, 121, 122, 123, 124, 125, 126, 127, 128, 129, 130, 131, 132, 133, 134, 135, 136, 137, 138, 139, 140] (by decide +kernel) (by decide +kernel)) (goodIn_sub (fun _ h => List.mem_cons_of_mem _ (List.mem_append_left _ (List.mem_append_right _ h))) (by decide +kernel))) (goodIn_sub (fun _ h => List.mem_cons_of_mem _ (List.mem_append_right _ h)) (by decide +kernel))
set_option maxRecDepth 20000 in
theorem gL_read_X3_read : GoodIn wsL_read (wsV RL 17 RX3 yX3_read wsX3_read) := goodIn_app (goodIn_of _ (by decide +kernel)) ggL_read_X3_read
set_option maxRecDepth 20000 in
theorem ggL_sync_X3_sync : GoodIn wsL_sync wsX3_sync := goodIn_ca (goodIn_r _ [6, 7, 8, 9, 10, 11, 12, 5, 13, 14, 15, 16, 17, 18, 19, 20, 21, 22, 23, 24, 25, 26, 27, 28, 29, 30, 31, 32, 33, 34, 35, 36, 37, 38, 39, 40, 41, 42, 43, 44, 45, 46, 47, 48, 49, 50, 51, 52, 53, 54, 55, 56, 57, 58, 59, 60, 61, 62, 63, 64, 65, 66, 67, 68, 69, 70, 71, 72, 73, 74, 75, 76, 77, 78, 79, 80, 81, 82, 83] (by decide +kernel) (by decide +kernel)) (goodIn_sub (fun _ h => List.mem_cons_of_mem _ (List.mem_append_right _ h)) (by decide +kernel))
set_option maxRecDepth 20000 in
theorem gL_sync_X3_sync : GoodIn wsL_sync (wsV RL 21 RX3 yX3_sync wsX3_sync) := goodIn_app (goodIn_of _ (by decide +kernel)) ggL_sync_X3_sync
end
section
set_option maxRecDepth 20000 in
theorem ggL_checkpoint_X3_checkpoint : GoodIn wsL_checkpoint wsX3_checkpoint := goodIn_ca (goodIn_r _ [6, 7, 8, 9, 10, 11, 12, 5, 13, 14, 15, 16, 17, 18, 19, 20, 21, 22, 23, 24, 25, 26, 27, 28, 29, 30, 31, 32, 33, 34, 35, 36, 37, 38, 39, 40, 41, 42, 43, 44, 45, 46, 47, 48, 49, 50, 51, 52, 53, 54, 55, 56, 57, 58, 59, 60, 61, 62, 63, 64, 65, 66, 67, 68, 69, 70, 71, 72, 73, 74, 75, 76, 77, 78, 79, 80, 81, 82, 83, 84, 85, 86, 87, 88, 89, 90, 91, 92, 93, 94, 95, 96, 97, 98, 99, 100, 101, 102, 103, 104, 105, 106, 107, 108, 109, 110, 111, 112, 113, 114, 115, 116, 117, 118] (by decide +kernel) (by decide +kernel)) (goodIn_sub (fun _ h => List.mem_cons_of_mem _ (List.mem_append_right _ h)) (by decide +kernel))
set_option maxRecDepth 20000 in
theorem gL_checkpoint_X3_checkpoint : GoodIn wsL_checkpoint (wsV RL 25 RX3 yX3_checkpoint wsX3_checkpoint) := goodIn_app (goodIn_of _ (by decide +kernel)) ggL_checkpoint_X3_checkpoint
set_option maxRecDepth 20000 in
theorem ggL_power_X3_power : GoodIn wsL_power wsX3_power := goodIn_ca (goodIn_r _ [6, 7, 8, 9, 10, 11, 12, 13, 14, 15, 16, 17, 18, 19, 20, 21, 22, 23, 24] (by decide +kernel) (by decide +kernel)) (goodIn_sub (fun _ h => List.mem_cons_of_mem _ (List.mem_append_right _ h)) (by decide +kernel))
set_option maxRecDepth 20000 in
theorem gL_power_X3_power : GoodIn wsL_power (wsV RL 28 RX3 yX3_power wsX3_power) := goodIn_app (goodIn_of _ (by decide +kernel)) ggL_power_X3_power
set_option maxRecDepth 20000 in
theorem ggL_recover_X3_recover : GoodIn wsL_recover wsX3_recover := goodIn_ca (goodIn_r _ [6, 7, 8, 9, 10, 11, 12, 13, 5, 14, 15, 16, 17, 18, 19, 20, 21, 22, 23, 24, 25, 26, 27, 28, 29, 30, 31, 32, 33, 34, 35, 36, 37, 38, 39, 40, 41, 42, 43, 44, 45, 46, 47, 48, 49, 50, 51, 52, 53, 54, 55, 56, 57, 58, 59, 60, 61, 62, 63, 64, 65, 66, 67, 68, 69, 70, 71, 72, 73, 74, 75, 76, 77, 78, 79, 80, 81, 82, 83, 84, 85, 86, 87, 88, 89, 90, 91, 92, 93, 94, 95, 96, 97, 98, 99, 100, 101, 102, 103, 104, 105, 106, 107, 108, 109, 110, 111, 112, 113, 114, 115, 116, 117, 118, 119, 120, 121, 122, 123, 124, 125, 126, 127, 128, 129, 130, 131, 132, 133, 134, 135, 136, 137, 138, 139, 140, 141, 142, 143, 144, 145, 146, 147, 148, 149, 150, 151, 152, 153, 154, 155, 156, 157, 158, 159, 160, 161, 162] (by decide +kernel) (by decide +kernel)) (goodIn_sub (fun _ h => List.mem_cons_of_mem _ (List.mem_append_right _ h)) (by decide +kernel))
set_option maxRecDepth 20000 in
theorem gL_recover_X3_recover : GoodIn wsL_recover (wsV RL 32 RX3 yX3_recover wsX3_recover) := goodIn_app (goodIn_of _ (by decide +kernel)) ggL_recover_X3_recover
set_option maxRecDepth 20000 in
theorem ggL_cut_X3_cut : GoodIn wsL_cut wsX3_cut := goodIn_ca (goodIn_r _ [6, 7, 8, 9, 10, 11, 12, 13, 5, 14, 15, 16, 17, 18, 19, 20, 21, 22, 23, 24, 25, 26, 27, 28, 29, 30, 31, 32, 33, 34, 35, 36, 37, 38, 39, 40, 41, 42, 43, 44, 45, 46] (by decide +kernel) (by decide +kernel)) (goodIn_sub (fun _ h => List.mem_cons_of_mem _ (List.mem_append_right _ h)) (by decide +kernel))
set_option maxRecDepth 20000 in
theorem gL_cut_X3_cut : GoodIn wsL_cut (wsV RL 35 RX3 yX3_cut wsX3_cut) := goodIn_app (goodIn_of _ (by decide +kernel)) ggL_cut_X3_cut
set_option maxRecDepth 20000 in
theorem ggL_disk_X3_disk : GoodIn wsL_disk wsX3_disk := goodIn_ca (goodIn_r _ [6, 7, 8, 9, 10, 11, 12, 5, 13, 14, 15, 16, 17, 18, 19, 20, 21, 22, 23, 24, 25, 26, 27, 28, 29, 30, 31, 32, 33, 34, 35, 36, 37, 38, 39, 40, 41, 42, 43, 44, 45, 46, 47, 48, 49, 50, 51, 52, 53, 54, 55, 56, 57, 58, 59, 60, 61, 62, 63, 64, 65] (by decide +kernel) (by decide +kernel)) (goodIn_sub (fun _ h => List.mem_cons_of_mem _ (List.mem_append_right _ h)) (by decide +kernel))
set_option maxRecDepth 20000 in
theorem gL_disk_X3_disk : GoodIn wsL_disk (wsV RL 38 RX3 yX3_disk wsX3_disk) := goodIn_app (goodIn_of _ (by decide +kernel)) ggL_disk_X3_disk
set_option maxRecDepth 20000 in
theorem ggL_frame_X3_frame : GoodIn wsL_frame wsX3_frame := goodIn_ca (goodIn_r _ [6, 7, 8, 9, 10, 11, 5, 12, 13, 14, 15, 16, 17, 18, 19, 20, 21, 22, 23, 24, 25, 26, 27, 28, 29, 30, 31, 32, 33, 34, 35, 36, 37, 38, 39, 40, 41] (by decide +kernel) (by decide +kernel)) (goodIn_sub (fun _ h => List.mem_cons_of_mem _ (List.mem_append_right _ h)) (by decide +kernel))
set_option maxRecDepth 20000 in
theorem gL_frame_X3_frame : GoodIn wsL_frame (wsV RL 42 RX3 yX3_frame wsX3_frame) := goodIn_app (goodIn_of _ (by decide +kernel)) ggL_frame_X3_frame
set_option maxRecDepth 20000 in
theorem ggL_count_X3_count : GoodIn wsL_count wsX3_count := goodIn_ca (goodIn_r _ [6, 7, 8, 9, 10, 11, 12, 13, 14, 15, 16, 17, 5, 18, 19, 20, 21, 22, 23, 24, 25, 26, 27, 28, 29, 30, 31, 32, 33, 34] (by decide +kernel) (by decide +kernel)) (goodIn_sub (fun _ h => List.mem_cons_of_mem _ (List.mem_append_right _ h)) (by decide +kernel))
set_option maxRecDepth 20000 in
theorem gL_count_X3_count : GoodIn wsL_count (wsV RL 45 RX3 yX3_count wsX3_count) := goodIn_app (goodIn_of _ (by decide +kernel)) ggL_count_X3_count
end
section
theorem dX0_init_0 : decode cX0_init 0 = .ok (.aload_n 0, 1) := by decide +kernel
theorem dX0_init_1 : decode cX0_init 1 = .ok (.invokespecial 1, 3) := by decide +kernel
theorem dX0_init_4 : decode cX0_init 4 = .ok (.aload_n 0, 1) := by decide +kernel
theorem dX0_init_5 : decode cX0_init 5 = .ok (.iconst 0, 1) := by decide +kernel
theorem dX0_init_6 : decode cX0_init 6 = .ok (.putfield 7, 3) := by decide +kernel
theorem dX0_init_9 : decode cX0_init 9 = .ok (.aload_n 0, 1) := by decide +kernel
theorem dX0_init_10 : decode cX0_init 10 = .ok (.iconst 0, 1) := by decide +kernel
theorem dX0_init_11 : decode cX0_init 11 = .ok (.putfield 13, 3) := by decide +kernel
theorem dX0_init_14 : decode cX0_init 14 = .ok (.aload_n 0, 1) := by decide +kernel
theorem dX0_init_15 : decode cX0_init 15 = .ok (.iconst 0, 1) := by decide +kernel
theorem dX0_init_16 : decode cX0_init 16 = .ok (.putfield 16, 3) := by decide +kernel
theorem dX0_init_19 : decode cX0_init 19 = .ok (.aload_n 0, 1) := by decide +kernel
theorem dX0_init_20 : decode cX0_init 20 = .ok (.iconst 0, 1) := by decide +kernel
theorem dX0_init_21 : decode cX0_init 21 = .ok (.putfield 19, 3) := by decide +kernel
theorem dX0_init_24 : decode cX0_init 24 = .ok (.return_, 1) := by decide +kernel
theorem dX0_set_0 : decode cX0_set 0 = .ok (.aload_n 0, 1) := by decide +kernel
theorem dX0_set_1 : decode cX0_set 1 = .ok (.iload_n 1, 1) := by decide +kernel
theorem dX0_set_2 : decode cX0_set 2 = .ok (.putfield 7, 3) := by decide +kernel
theorem dX0_set_5 : decode cX0_set 5 = .ok (.aload_n 0, 1) := by decide +kernel
theorem dX0_set_6 : decode cX0_set 6 = .ok (.iload_n 2, 1) := by decide +kernel
theorem dX0_set_7 : decode cX0_set 7 = .ok (.putfield 13, 3) := by decide +kernel
theorem dX0_set_10 : decode cX0_set 10 = .ok (.aload_n 0, 1) := by decide +kernel
theorem dX0_set_11 : decode cX0_set 11 = .ok (.iload_n 3, 1) := by decide +kernel
theorem dX0_set_12 : decode cX0_set 12 = .ok (.putfield 16, 3) := by decide +kernel
theorem dX0_set_15 : decode cX0_set 15 = .ok (.aload_n 0, 1) := by decide +kernel
theorem dX0_set_16 : decode cX0_set 16 = .ok (.iload 4, 2) := by decide +kernel
theorem dX0_set_18 : decode cX0_set 18 = .ok (.putfield 19, 3) := by decide +kernel
theorem dX0_set_21 : decode cX0_set 21 = .ok (.return_, 1) := by decide +kernel
theorem dX0_copy_0 : decode cX0_copy 0 = .ok (.aload_n 0, 1) := by decide +kernel
theorem dX0_copy_1 : decode cX0_copy 1 = .ok (.aload_n 1, 1) := by decide +kernel
theorem dX0_copy_2 : decode cX0_copy 2 = .ok (.getfield 7, 3) := by decide +kernel
theorem dX0_copy_5 : decode cX0_copy 5 = .ok (.aload_n 1, 1) := by decide +kernel
theorem dX0_copy_6 : decode cX0_copy 6 = .ok (.getfield 13, 3) := by decide +kernel
theorem dX0_copy_9 : decode cX0_copy 9 = .ok (.aload_n 1, 1) := by decide +kernel
theorem dX0_copy_10 : decode cX0_copy 10 = .ok (.getfield 16, 3) := by decide +kernel
theorem dX0_copy_13 : decode cX0_copy 13 = .ok (.aload_n 1, 1) := by decide +kernel
theorem dX0_copy_14 : decode cX0_copy 14 = .ok (.getfield 19, 3) := by decide +kernel
theorem dX0_copy_17 : decode cX0_copy 17 = .ok (.invokevirtual 22, 3) := by decide +kernel
theorem dX0_copy_20 : decode cX0_copy 20 = .ok (.return_, 1) := by decide +kernel
theorem dX0_value_0 : decode cX0_value 0 = .ok (.iload_n 1, 1) := by decide +kernel
theorem dX0_value_1 : decode cX0_value 1 = .ok (.tableswitch 42 0 2 #[27, 32, 37], 27) := by decide +kernel
theorem dX0_value_28 : decode cX0_value 28 = .ok (.aload_n 0, 1) := by decide +kernel
theorem dX0_value_29 : decode cX0_value 29 = .ok (.getfield 7, 3) := by decide +kernel
theorem dX0_value_32 : decode cX0_value 32 = .ok (.ireturn, 1) := by decide +kernel
theorem dX0_value_33 : decode cX0_value 33 = .ok (.aload_n 0, 1) := by decide +kernel
theorem dX0_value_34 : decode cX0_value 34 = .ok (.getfield 13, 3) := by decide +kernel
theorem dX0_value_37 : decode cX0_value 37 = .ok (.ireturn, 1) := by decide +kernel
theorem dX0_value_38 : decode cX0_value 38 = .ok (.aload_n 0, 1) := by decide +kernel
theorem dX0_value_39 : decode cX0_value 39 = .ok (.getfield 16, 3) := by decide +kernel
theorem dX0_value_42 : decode cX0_value 42 = .ok (.ireturn, 1) := by decide +kernel
theorem dX0_value_43 : decode cX0_value 43 = .ok (.aload_n 0, 1) := by decide +kernel
theorem dX0_value_44 : decode cX0_value 44 = .ok (.getfield 19, 3) := by decide +kernel
theorem dX0_value_47 : decode cX0_value 47 = .ok (.ireturn, 1) := by decide +kernel
theorem dX1_init_0 : decode cX1_init 0 = .ok (.aload_n 0, 1) := by decide +kernel
theorem dX1_init_1 : decode cX1_init 1 = .ok (.invokespecial 3, 3) := by decide +kernel
theorem dX1_init_4 : decode cX1_init 4 = .ok (.aload_n 0, 1) := by decide +kernel
theorem dX1_init_5 : decode cX1_init 5 = .ok (.bipush 16, 2) := by decide +kernel
theorem dX1_init_7 : decode cX1_init 7 = .ok (.newarray .int, 2) := by decide +kernel
theorem dX1_init_9 : decode cX1_init 9 = .ok (.putfield 9, 3) := by decide +kernel
theorem dX1_init_12 : decode cX1_init 12 = .ok (.aload_n 0, 1) := by decide +kernel
theorem dX1_init_13 : decode cX1_init 13 = .ok (.iconst (-1), 1) := by decide +kernel
theorem dX1_init_14 : decode cX1_init 14 = .ok (.putfield 15, 3) := by decide +kernel
theorem dX1_init_17 : decode cX1_init 17 = .ok (.aload_n 0, 1) := by decide +kernel
theorem dX1_init_18 : decode cX1_init 18 = .ok (.iconst 0, 1) := by decide +kernel
theorem dX1_init_19 : decode cX1_init 19 = .ok (.putfield 19, 3) := by decide +kernel
theorem dX1_init_22 : decode cX1_init 22 = .ok (.aload_n 0, 1) := by decide +kernel
theorem dX1_init_23 : decode cX1_init 23 = .ok (.iconst 0, 1) := by decide +kernel
theorem dX1_init_24 : decode cX1_init 24 = .ok (.putfield 22, 3) := by decide +kernel
theorem dX1_init_27 : decode cX1_init 27 = .ok (.aload_n 0, 1) := by decide +kernel
theorem dX1_init_28 : decode cX1_init 28 = .ok (.iconst 0, 1) := by decide +kernel
theorem dX1_init_29 : decode cX1_init 29 = .ok (.putfield 26, 3) := by decide +kernel
theorem dX1_init_32 : decode cX1_init 32 = .ok (.return_, 1) := by decide +kernel
theorem dX1_empty_0 : decode cX1_empty 0 = .ok (.iconst 0, 1) := by decide +kernel
theorem dX1_empty_1 : decode cX1_empty 1 = .ok (.istore_n 1, 1) := by decide +kernel
theorem dX1_empty_2 : decode cX1_empty 2 = .ok (.iload_n 1, 1) := by decide +kernel
theorem dX1_empty_3 : decode cX1_empty 3 = .ok (.bipush 16, 2) := by decide +kernel
theorem dX1_empty_5 : decode cX1_empty 5 = .ok (.if_icmp .ge 16, 3) := by decide +kernel
theorem dX1_empty_8 : decode cX1_empty 8 = .ok (.aload_n 0, 1) := by decide +kernel
theorem dX1_empty_9 : decode cX1_empty 9 = .ok (.getfield 9, 3) := by decide +kernel
theorem dX1_empty_12 : decode cX1_empty 12 = .ok (.iload_n 1, 1) := by decide +kernel
theorem dX1_empty_13 : decode cX1_empty 13 = .ok (.iconst 0, 1) := by decide +kernel
theorem dX1_empty_14 : decode cX1_empty 14 = .ok (.iastore, 1) := by decide +kernel
theorem dX1_empty_15 : decode cX1_empty 15 = .ok (.iinc 1 1, 3) := by decide +kernel
theorem dX1_empty_18 : decode cX1_empty 18 = .ok (.goto (-16), 3) := by decide +kernel
theorem dX1_empty_21 : decode cX1_empty 21 = .ok (.aload_n 0, 1) := by decide +kernel
theorem dX1_empty_22 : decode cX1_empty 22 = .ok (.iconst (-1), 1) := by decide +kernel
theorem dX1_empty_23 : decode cX1_empty 23 = .ok (.putfield 15, 3) := by decide +kernel
theorem dX1_empty_26 : decode cX1_empty 26 = .ok (.aload_n 0, 1) := by decide +kernel
theorem dX1_empty_27 : decode cX1_empty 27 = .ok (.iconst 0, 1) := by decide +kernel
theorem dX1_empty_28 : decode cX1_empty 28 = .ok (.putfield 19, 3) := by decide +kernel
theorem dX1_empty_31 : decode cX1_empty 31 = .ok (.aload_n 0, 1) := by decide +kernel
theorem dX1_empty_32 : decode cX1_empty 32 = .ok (.iconst 0, 1) := by decide +kernel
theorem dX1_empty_33 : decode cX1_empty 33 = .ok (.putfield 22, 3) := by decide +kernel
theorem dX1_empty_36 : decode cX1_empty 36 = .ok (.aload_n 0, 1) := by decide +kernel
theorem dX1_empty_37 : decode cX1_empty 37 = .ok (.iconst 0, 1) := by decide +kernel
theorem dX1_empty_38 : decode cX1_empty 38 = .ok (.putfield 26, 3) := by decide +kernel
theorem dX1_empty_41 : decode cX1_empty 41 = .ok (.return_, 1) := by decide +kernel
theorem dX1_fill_0 : decode cX1_fill 0 = .ok (.iconst 0, 1) := by decide +kernel
theorem dX1_fill_1 : decode cX1_fill 1 = .ok (.istore_n 3, 1) := by decide +kernel
theorem dX1_fill_2 : decode cX1_fill 2 = .ok (.iload_n 3, 1) := by decide +kernel
theorem dX1_fill_3 : decode cX1_fill 3 = .ok (.bipush 16, 2) := by decide +kernel
theorem dX1_fill_5 : decode cX1_fill 5 = .ok (.if_icmp .ge 21, 3) := by decide +kernel
theorem dX1_fill_8 : decode cX1_fill 8 = .ok (.aload_n 0, 1) := by decide +kernel
theorem dX1_fill_9 : decode cX1_fill 9 = .ok (.getfield 9, 3) := by decide +kernel
theorem dX1_fill_12 : decode cX1_fill 12 = .ok (.iload_n 3, 1) := by decide +kernel
theorem dX1_fill_13 : decode cX1_fill 13 = .ok (.aload_n 2, 1) := by decide +kernel
theorem dX1_fill_14 : decode cX1_fill 14 = .ok (.getfield 29, 3) := by decide +kernel
theorem dX1_fill_17 : decode cX1_fill 17 = .ok (.iload_n 3, 1) := by decide +kernel
theorem dX1_fill_18 : decode cX1_fill 18 = .ok (.iaload, 1) := by decide +kernel
theorem dX1_fill_19 : decode cX1_fill 19 = .ok (.iastore, 1) := by decide +kernel
theorem dX1_fill_20 : decode cX1_fill 20 = .ok (.iinc 3 1, 3) := by decide +kernel
theorem dX1_fill_23 : decode cX1_fill 23 = .ok (.goto (-21), 3) := by decide +kernel
theorem dX1_fill_26 : decode cX1_fill 26 = .ok (.aload_n 0, 1) := by decide +kernel
theorem dX1_fill_27 : decode cX1_fill 27 = .ok (.iload_n 1, 1) := by decide +kernel
theorem dX1_fill_28 : decode cX1_fill 28 = .ok (.putfield 15, 3) := by decide +kernel
theorem dX1_fill_31 : decode cX1_fill 31 = .ok (.aload_n 0, 1) := by decide +kernel
theorem dX1_fill_32 : decode cX1_fill 32 = .ok (.aload_n 2, 1) := by decide +kernel
theorem dX1_fill_33 : decode cX1_fill 33 = .ok (.getfield 32, 3) := by decide +kernel
theorem dX1_fill_36 : decode cX1_fill 36 = .ok (.iconst 0, 1) := by decide +kernel
theorem dX1_fill_37 : decode cX1_fill 37 = .ok (.iaload, 1) := by decide +kernel
theorem dX1_fill_38 : decode cX1_fill 38 = .ok (.putfield 19, 3) := by decide +kernel
theorem dX1_fill_41 : decode cX1_fill 41 = .ok (.aload_n 0, 1) := by decide +kernel
theorem dX1_fill_42 : decode cX1_fill 42 = .ok (.iconst 0, 1) := by decide +kernel
theorem dX1_fill_43 : decode cX1_fill 43 = .ok (.putfield 22, 3) := by decide +kernel
theorem dX1_fill_46 : decode cX1_fill 46 = .ok (.return_, 1) := by decide +kernel
theorem dX1_changeWord_0 : decode cX1_changeWord 0 = .ok (.aload_n 0, 1) := by decide +kernel
theorem dX1_changeWord_1 : decode cX1_changeWord 1 = .ok (.getfield 9, 3) := by decide +kernel
theorem dX1_changeWord_4 : decode cX1_changeWord 4 = .ok (.iload_n 1, 1) := by decide +kernel
theorem dX1_changeWord_5 : decode cX1_changeWord 5 = .ok (.iload_n 2, 1) := by decide +kernel
theorem dX1_changeWord_6 : decode cX1_changeWord 6 = .ok (.iastore, 1) := by decide +kernel
theorem dX1_changeWord_7 : decode cX1_changeWord 7 = .ok (.aload_n 0, 1) := by decide +kernel
theorem dX1_changeWord_8 : decode cX1_changeWord 8 = .ok (.iload_n 3, 1) := by decide +kernel
theorem dX1_changeWord_9 : decode cX1_changeWord 9 = .ok (.putfield 19, 3) := by decide +kernel
theorem dX1_changeWord_12 : decode cX1_changeWord 12 = .ok (.aload_n 0, 1) := by decide +kernel
theorem dX1_changeWord_13 : decode cX1_changeWord 13 = .ok (.iconst 1, 1) := by decide +kernel
theorem dX1_changeWord_14 : decode cX1_changeWord 14 = .ok (.putfield 22, 3) := by decide +kernel
theorem dX1_changeWord_17 : decode cX1_changeWord 17 = .ok (.return_, 1) := by decide +kernel
theorem dX1_value_0 : decode cX1_value 0 = .ok (.iload_n 1, 1) := by decide +kernel
theorem dX1_value_1 : decode cX1_value 1 = .ok (.tableswitch 50 0 2 #[27, 32, 37], 27) := by decide +kernel
theorem dX1_value_28 : decode cX1_value 28 = .ok (.aload_n 0, 1) := by decide +kernel
theorem dX1_value_29 : decode cX1_value 29 = .ok (.getfield 15, 3) := by decide +kernel
theorem dX1_value_32 : decode cX1_value 32 = .ok (.ireturn, 1) := by decide +kernel
theorem dX1_value_33 : decode cX1_value 33 = .ok (.aload_n 0, 1) := by decide +kernel
theorem dX1_value_34 : decode cX1_value 34 = .ok (.getfield 19, 3) := by decide +kernel
theorem dX1_value_37 : decode cX1_value 37 = .ok (.ireturn, 1) := by decide +kernel
theorem dX1_value_38 : decode cX1_value 38 = .ok (.aload_n 0, 1) := by decide +kernel
theorem dX1_value_39 : decode cX1_value 39 = .ok (.getfield 22, 3) := by decide +kernel
theorem dX1_value_42 : decode cX1_value 42 = .ok (.ifCond .eq 7, 3) := by decide +kernel
theorem dX1_value_45 : decode cX1_value 45 = .ok (.iconst 1, 1) := by decide +kernel
theorem dX1_value_46 : decode cX1_value 46 = .ok (.goto 4, 3) := by decide +kernel
theorem dX1_value_49 : decode cX1_value 49 = .ok (.iconst 0, 1) := by decide +kernel
theorem dX1_value_50 : decode cX1_value 50 = .ok (.ireturn, 1) := by decide +kernel
theorem dX1_value_51 : decode cX1_value 51 = .ok (.aload_n 0, 1) := by decide +kernel
theorem dX1_value_52 : decode cX1_value 52 = .ok (.getfield 9, 3) := by decide +kernel
theorem dX1_value_55 : decode cX1_value 55 = .ok (.iload_n 1, 1) := by decide +kernel
theorem dX1_value_56 : decode cX1_value 56 = .ok (.iconst 3, 1) := by decide +kernel
theorem dX1_value_57 : decode cX1_value 57 = .ok (.isub, 1) := by decide +kernel
theorem dX1_value_58 : decode cX1_value 58 = .ok (.iaload, 1) := by decide +kernel
theorem dX1_value_59 : decode cX1_value 59 = .ok (.ireturn, 1) := by decide +kernel
theorem dX2_init_0 : decode cX2_init 0 = .ok (.aload_n 0, 1) := by decide +kernel
theorem dX2_init_1 : decode cX2_init 1 = .ok (.invokespecial 3, 3) := by decide +kernel
theorem dX2_init_4 : decode cX2_init 4 = .ok (.aload_n 0, 1) := by decide +kernel
theorem dX2_init_5 : decode cX2_init 5 = .ok (.bipush 16, 2) := by decide +kernel
theorem dX2_init_7 : decode cX2_init 7 = .ok (.newarray .int, 2) := by decide +kernel
theorem dX2_init_9 : decode cX2_init 9 = .ok (.putfield 9, 3) := by decide +kernel
theorem dX2_init_12 : decode cX2_init 12 = .ok (.aload_n 0, 1) := by decide +kernel
theorem dX2_init_13 : decode cX2_init 13 = .ok (.iconst 4, 1) := by decide +kernel
theorem dX2_init_14 : decode cX2_init 14 = .ok (.newarray .int, 2) := by decide +kernel
theorem dX2_init_16 : decode cX2_init 16 = .ok (.putfield 15, 3) := by decide +kernel
theorem dX2_init_19 : decode cX2_init 19 = .ok (.aload_n 0, 1) := by decide +kernel
theorem dX2_init_20 : decode cX2_init 20 = .ok (.iconst 4, 1) := by decide +kernel
theorem dX2_init_21 : decode cX2_init 21 = .ok (.newarray .int, 2) := by decide +kernel
theorem dX2_init_23 : decode cX2_init 23 = .ok (.putfield 18, 3) := by decide +kernel
theorem dX2_init_26 : decode cX2_init 26 = .ok (.iconst 0, 1) := by decide +kernel
theorem dX2_init_27 : decode cX2_init 27 = .ok (.istore_n 2, 1) := by decide +kernel
theorem dX2_init_28 : decode cX2_init 28 = .ok (.iload_n 2, 1) := by decide +kernel
theorem dX2_init_29 : decode cX2_init 29 = .ok (.iconst 4, 1) := by decide +kernel
theorem dX2_init_30 : decode cX2_init 30 = .ok (.if_icmp .ge 16, 3) := by decide +kernel
theorem dX2_init_33 : decode cX2_init 33 = .ok (.aload_n 0, 1) := by decide +kernel
theorem dX2_init_34 : decode cX2_init 34 = .ok (.getfield 18, 3) := by decide +kernel
theorem dX2_init_37 : decode cX2_init 37 = .ok (.iload_n 2, 1) := by decide +kernel
theorem dX2_init_38 : decode cX2_init 38 = .ok (.iload_n 1, 1) := by decide +kernel
theorem dX2_init_39 : decode cX2_init 39 = .ok (.iastore, 1) := by decide +kernel
theorem dX2_init_40 : decode cX2_init 40 = .ok (.iinc 2 1, 3) := by decide +kernel
theorem dX2_init_43 : decode cX2_init 43 = .ok (.goto (-15), 3) := by decide +kernel
theorem dX2_init_46 : decode cX2_init 46 = .ok (.return_, 1) := by decide +kernel
theorem dX2_putSector_0 : decode cX2_putSector 0 = .ok (.iload_n 1, 1) := by decide +kernel
theorem dX2_putSector_1 : decode cX2_putSector 1 = .ok (.iconst 4, 1) := by decide +kernel
theorem dX2_putSector_2 : decode cX2_putSector 2 = .ok (.imul, 1) := by decide +kernel
theorem dX2_putSector_3 : decode cX2_putSector 3 = .ok (.istore 5, 2) := by decide +kernel
theorem dX2_putSector_5 : decode cX2_putSector 5 = .ok (.iload 5, 2) := by decide +kernel
theorem dX2_putSector_7 : decode cX2_putSector 7 = .ok (.istore 6, 2) := by decide +kernel
theorem dX2_putSector_9 : decode cX2_putSector 9 = .ok (.iload 6, 2) := by decide +kernel
theorem dX2_putSector_11 : decode cX2_putSector 11 = .ok (.iload 5, 2) := by decide +kernel
theorem dX2_putSector_13 : decode cX2_putSector 13 = .ok (.iconst 4, 1) := by decide +kernel
theorem dX2_putSector_14 : decode cX2_putSector 14 = .ok (.iadd, 1) := by decide +kernel
theorem dX2_putSector_15 : decode cX2_putSector 15 = .ok (.if_icmp .ge 21, 3) := by decide +kernel
theorem dX2_putSector_18 : decode cX2_putSector 18 = .ok (.aload_n 0, 1) := by decide +kernel
theorem dX2_putSector_19 : decode cX2_putSector 19 = .ok (.getfield 9, 3) := by decide +kernel
theorem dX2_putSector_22 : decode cX2_putSector 22 = .ok (.iload 6, 2) := by decide +kernel
theorem dX2_putSector_24 : decode cX2_putSector 24 = .ok (.aload 4, 2) := by decide +kernel
theorem dX2_putSector_26 : decode cX2_putSector 26 = .ok (.iload 6, 2) := by decide +kernel
theorem dX2_putSector_28 : decode cX2_putSector 28 = .ok (.iaload, 1) := by decide +kernel
theorem dX2_putSector_29 : decode cX2_putSector 29 = .ok (.iastore, 1) := by decide +kernel
theorem dX2_putSector_30 : decode cX2_putSector 30 = .ok (.iinc 6 1, 3) := by decide +kernel
theorem dX2_putSector_33 : decode cX2_putSector 33 = .ok (.goto (-24), 3) := by decide +kernel
theorem dX2_putSector_36 : decode cX2_putSector 36 = .ok (.aload_n 0, 1) := by decide +kernel
theorem dX2_putSector_37 : decode cX2_putSector 37 = .ok (.getfield 15, 3) := by decide +kernel
theorem dX2_putSector_40 : decode cX2_putSector 40 = .ok (.iload_n 1, 1) := by decide +kernel
theorem dX2_putSector_41 : decode cX2_putSector 41 = .ok (.iload_n 3, 1) := by decide +kernel
theorem dX2_putSector_42 : decode cX2_putSector 42 = .ok (.iastore, 1) := by decide +kernel
theorem dX2_putSector_43 : decode cX2_putSector 43 = .ok (.aload_n 0, 1) := by decide +kernel
theorem dX2_putSector_44 : decode cX2_putSector 44 = .ok (.getfield 18, 3) := by decide +kernel
theorem dX2_putSector_47 : decode cX2_putSector 47 = .ok (.iload_n 1, 1) := by decide +kernel
theorem dX2_putSector_48 : decode cX2_putSector 48 = .ok (.iload_n 2, 1) := by decide +kernel
theorem dX2_putSector_49 : decode cX2_putSector 49 = .ok (.iastore, 1) := by decide +kernel
theorem dX2_putSector_50 : decode cX2_putSector 50 = .ok (.return_, 1) := by decide +kernel
theorem dX2_isWhole_0 : decode cX2_isWhole 0 = .ok (.iconst 1, 1) := by decide +kernel
theorem dX2_isWhole_1 : decode cX2_isWhole 1 = .ok (.istore_n 1, 1) := by decide +kernel
theorem dX2_isWhole_2 : decode cX2_isWhole 2 = .ok (.iload_n 1, 1) := by decide +kernel
theorem dX2_isWhole_3 : decode cX2_isWhole 3 = .ok (.iconst 4, 1) := by decide +kernel
theorem dX2_isWhole_4 : decode cX2_isWhole 4 = .ok (.if_icmp .ge 41, 3) := by decide +kernel
theorem dX2_isWhole_7 : decode cX2_isWhole 7 = .ok (.aload_n 0, 1) := by decide +kernel
theorem dX2_isWhole_8 : decode cX2_isWhole 8 = .ok (.getfield 15, 3) := by decide +kernel
theorem dX2_isWhole_11 : decode cX2_isWhole 11 = .ok (.iload_n 1, 1) := by decide +kernel
theorem dX2_isWhole_12 : decode cX2_isWhole 12 = .ok (.iaload, 1) := by decide +kernel
theorem dX2_isWhole_13 : decode cX2_isWhole 13 = .ok (.aload_n 0, 1) := by decide +kernel
theorem dX2_isWhole_14 : decode cX2_isWhole 14 = .ok (.getfield 15, 3) := by decide +kernel
theorem dX2_isWhole_17 : decode cX2_isWhole 17 = .ok (.iconst 0, 1) := by decide +kernel
theorem dX2_isWhole_18 : decode cX2_isWhole 18 = .ok (.iaload, 1) := by decide +kernel
theorem dX2_isWhole_19 : decode cX2_isWhole 19 = .ok (.if_icmp .ne 18, 3) := by decide +kernel
theorem dX2_isWhole_22 : decode cX2_isWhole 22 = .ok (.aload_n 0, 1) := by decide +kernel
theorem dX2_isWhole_23 : decode cX2_isWhole 23 = .ok (.getfield 18, 3) := by decide +kernel
theorem dX2_isWhole_26 : decode cX2_isWhole 26 = .ok (.iload_n 1, 1) := by decide +kernel
theorem dX2_isWhole_27 : decode cX2_isWhole 27 = .ok (.iaload, 1) := by decide +kernel
theorem dX2_isWhole_28 : decode cX2_isWhole 28 = .ok (.aload_n 0, 1) := by decide +kernel
theorem dX2_isWhole_29 : decode cX2_isWhole 29 = .ok (.getfield 18, 3) := by decide +kernel
theorem dX2_isWhole_32 : decode cX2_isWhole 32 = .ok (.iconst 0, 1) := by decide +kernel
theorem dX2_isWhole_33 : decode cX2_isWhole 33 = .ok (.iaload, 1) := by decide +kernel
theorem dX2_isWhole_34 : decode cX2_isWhole 34 = .ok (.if_icmp .eq 5, 3) := by decide +kernel
theorem dX2_isWhole_37 : decode cX2_isWhole 37 = .ok (.iconst 0, 1) := by decide +kernel
theorem dX2_isWhole_38 : decode cX2_isWhole 38 = .ok (.ireturn, 1) := by decide +kernel
theorem dX2_isWhole_39 : decode cX2_isWhole 39 = .ok (.iinc 1 1, 3) := by decide +kernel
theorem dX2_isWhole_42 : decode cX2_isWhole 42 = .ok (.goto (-40), 3) := by decide +kernel
theorem dX2_isWhole_45 : decode cX2_isWhole 45 = .ok (.iconst 1, 1) := by decide +kernel
theorem dX2_isWhole_46 : decode cX2_isWhole 46 = .ok (.ireturn, 1) := by decide +kernel
theorem dX2_value_0 : decode cX2_value 0 = .ok (.iload_n 1, 1) := by decide +kernel
theorem dX2_value_1 : decode cX2_value 1 = .ok (.bipush 16, 2) := by decide +kernel
theorem dX2_value_3 : decode cX2_value 3 = .ok (.if_icmp .ge 10, 3) := by decide +kernel
theorem dX2_value_6 : decode cX2_value 6 = .ok (.aload_n 0, 1) := by decide +kernel
theorem dX2_value_7 : decode cX2_value 7 = .ok (.getfield 9, 3) := by decide +kernel
theorem dX2_value_10 : decode cX2_value 10 = .ok (.iload_n 1, 1) := by decide +kernel
theorem dX2_value_11 : decode cX2_value 11 = .ok (.iaload, 1) := by decide +kernel
theorem dX2_value_12 : decode cX2_value 12 = .ok (.ireturn, 1) := by decide +kernel
theorem dX2_value_13 : decode cX2_value 13 = .ok (.iload_n 1, 1) := by decide +kernel
theorem dX2_value_14 : decode cX2_value 14 = .ok (.bipush 20, 2) := by decide +kernel
theorem dX2_value_16 : decode cX2_value 16 = .ok (.if_icmp .ge 15, 3) := by decide +kernel
theorem dX2_value_19 : decode cX2_value 19 = .ok (.aload_n 0, 1) := by decide +kernel
theorem dX2_value_20 : decode cX2_value 20 = .ok (.getfield 15, 3) := by decide +kernel
theorem dX2_value_23 : decode cX2_value 23 = .ok (.iload_n 1, 1) := by decide +kernel
theorem dX2_value_24 : decode cX2_value 24 = .ok (.bipush 16, 2) := by decide +kernel
theorem dX2_value_26 : decode cX2_value 26 = .ok (.isub, 1) := by decide +kernel
theorem dX2_value_27 : decode cX2_value 27 = .ok (.iaload, 1) := by decide +kernel
theorem dX2_value_28 : decode cX2_value 28 = .ok (.goto 12, 3) := by decide +kernel
theorem dX2_value_31 : decode cX2_value 31 = .ok (.aload_n 0, 1) := by decide +kernel
theorem dX2_value_32 : decode cX2_value 32 = .ok (.getfield 18, 3) := by decide +kernel
theorem dX2_value_35 : decode cX2_value 35 = .ok (.iload_n 1, 1) := by decide +kernel
theorem dX2_value_36 : decode cX2_value 36 = .ok (.bipush 20, 2) := by decide +kernel
theorem dX2_value_38 : decode cX2_value 38 = .ok (.isub, 1) := by decide +kernel
theorem dX2_value_39 : decode cX2_value 39 = .ok (.iaload, 1) := by decide +kernel
theorem dX2_value_40 : decode cX2_value 40 = .ok (.ireturn, 1) := by decide +kernel
theorem dX3_init_0 : decode cX3_init 0 = .ok (.aload_n 0, 1) := by decide +kernel
theorem dX3_init_1 : decode cX3_init 1 = .ok (.invokespecial 3, 3) := by decide +kernel
theorem dX3_init_4 : decode cX3_init 4 = .ok (.aload_n 0, 1) := by decide +kernel
theorem dX3_init_5 : decode cX3_init 5 = .ok (.bipush 12, 2) := by decide +kernel
theorem dX3_init_7 : decode cX3_init 7 = .ok (.anewarray 9, 3) := by decide +kernel
theorem dX3_init_10 : decode cX3_init 10 = .ok (.putfield 11, 3) := by decide +kernel
theorem dX3_init_13 : decode cX3_init 13 = .ok (.aload_n 0, 1) := by decide +kernel
theorem dX3_init_14 : decode cX3_init 14 = .ok (.iconst 4, 1) := by decide +kernel
theorem dX3_init_15 : decode cX3_init 15 = .ok (.anewarray 9, 3) := by decide +kernel
theorem dX3_init_18 : decode cX3_init 18 = .ok (.putfield 15, 3) := by decide +kernel
theorem dX3_init_21 : decode cX3_init 21 = .ok (.aload_n 0, 1) := by decide +kernel
theorem dX3_init_22 : decode cX3_init 22 = .ok (.bipush 12, 2) := by decide +kernel
theorem dX3_init_24 : decode cX3_init 24 = .ok (.anewarray 18, 3) := by decide +kernel
theorem dX3_init_27 : decode cX3_init 27 = .ok (.putfield 20, 3) := by decide +kernel
theorem dX3_init_30 : decode cX3_init 30 = .ok (.aload_n 0, 1) := by decide +kernel
theorem dX3_init_31 : decode cX3_init 31 = .ok (.iconst 1, 1) := by decide +kernel
theorem dX3_init_32 : decode cX3_init 32 = .ok (.putfield 24, 3) := by decide +kernel
theorem dX3_init_35 : decode cX3_init 35 = .ok (.aload_n 0, 1) := by decide +kernel
theorem dX3_init_36 : decode cX3_init 36 = .ok (.iconst (-1), 1) := by decide +kernel
theorem dX3_init_37 : decode cX3_init 37 = .ok (.putfield 28, 3) := by decide +kernel
theorem dX3_init_40 : decode cX3_init 40 = .ok (.aload_n 0, 1) := by decide +kernel
theorem dX3_init_41 : decode cX3_init 41 = .ok (.iconst 0, 1) := by decide +kernel
theorem dX3_init_42 : decode cX3_init 42 = .ok (.putfield 31, 3) := by decide +kernel
theorem dX3_init_45 : decode cX3_init 45 = .ok (.aload_n 0, 1) := by decide +kernel
theorem dX3_init_46 : decode cX3_init 46 = .ok (.iconst 0, 1) := by decide +kernel
theorem dX3_init_47 : decode cX3_init 47 = .ok (.putfield 35, 3) := by decide +kernel
theorem dX3_init_50 : decode cX3_init 50 = .ok (.aload_n 0, 1) := by decide +kernel
theorem dX3_init_51 : decode cX3_init 51 = .ok (.iconst 0, 1) := by decide +kernel
theorem dX3_init_52 : decode cX3_init 52 = .ok (.putfield 38, 3) := by decide +kernel
theorem dX3_init_55 : decode cX3_init 55 = .ok (.aload_n 0, 1) := by decide +kernel
theorem dX3_init_56 : decode cX3_init 56 = .ok (.iconst 0, 1) := by decide +kernel
theorem dX3_init_57 : decode cX3_init 57 = .ok (.putfield 41, 3) := by decide +kernel
theorem dX3_init_60 : decode cX3_init 60 = .ok (.aload_n 0, 1) := by decide +kernel
theorem dX3_init_61 : decode cX3_init 61 = .ok (.iconst 4, 1) := by decide +kernel
theorem dX3_init_62 : decode cX3_init 62 = .ok (.anewarray 44, 3) := by decide +kernel
theorem dX3_init_65 : decode cX3_init 65 = .ok (.putfield 46, 3) := by decide +kernel
theorem dX3_init_68 : decode cX3_init 68 = .ok (.aload_n 0, 1) := by decide +kernel
theorem dX3_init_69 : decode cX3_init 69 = .ok (.bipush 12, 2) := by decide +kernel
theorem dX3_init_71 : decode cX3_init 71 = .ok (.anewarray 18, 3) := by decide +kernel
theorem dX3_init_74 : decode cX3_init 74 = .ok (.putfield 50, 3) := by decide +kernel
theorem dX3_init_77 : decode cX3_init 77 = .ok (.aload_n 0, 1) := by decide +kernel
theorem dX3_init_78 : decode cX3_init 78 = .ok (.iconst 0, 1) := by decide +kernel
theorem dX3_init_79 : decode cX3_init 79 = .ok (.putfield 53, 3) := by decide +kernel
theorem dX3_init_82 : decode cX3_init 82 = .ok (.aload_n 0, 1) := by decide +kernel
theorem dX3_init_83 : decode cX3_init 83 = .ok (.iconst 1, 1) := by decide +kernel
theorem dX3_init_84 : decode cX3_init 84 = .ok (.putfield 56, 3) := by decide +kernel
theorem dX3_init_87 : decode cX3_init 87 = .ok (.aload_n 0, 1) := by decide +kernel
theorem dX3_init_88 : decode cX3_init 88 = .ok (.iconst 0, 1) := by decide +kernel
theorem dX3_init_89 : decode cX3_init 89 = .ok (.putfield 59, 3) := by decide +kernel
theorem dX3_init_92 : decode cX3_init 92 = .ok (.aload_n 0, 1) := by decide +kernel
theorem dX3_init_93 : decode cX3_init 93 = .ok (.iconst 0, 1) := by decide +kernel
theorem dX3_init_94 : decode cX3_init 94 = .ok (.putfield 62, 3) := by decide +kernel
theorem dX3_init_97 : decode cX3_init 97 = .ok (.iconst 0, 1) := by decide +kernel
theorem dX3_init_98 : decode cX3_init 98 = .ok (.istore_n 1, 1) := by decide +kernel
theorem dX3_init_99 : decode cX3_init 99 = .ok (.iload_n 1, 1) := by decide +kernel
theorem dX3_init_100 : decode cX3_init 100 = .ok (.bipush 12, 2) := by decide +kernel
theorem dX3_init_102 : decode cX3_init 102 = .ok (.if_icmp .ge 23, 3) := by decide +kernel
theorem dX3_init_105 : decode cX3_init 105 = .ok (.aload_n 0, 1) := by decide +kernel
theorem dX3_init_106 : decode cX3_init 106 = .ok (.getfield 11, 3) := by decide +kernel
theorem dX3_init_109 : decode cX3_init 109 = .ok (.iload_n 1, 1) := by decide +kernel
theorem dX3_init_110 : decode cX3_init 110 = .ok (.new 9, 3) := by decide +kernel
theorem dX3_init_113 : decode cX3_init 113 = .ok (.dup, 1) := by decide +kernel
theorem dX3_init_114 : decode cX3_init 114 = .ok (.iload_n 1, 1) := by decide +kernel
theorem dX3_init_115 : decode cX3_init 115 = .ok (.invokespecial 65, 3) := by decide +kernel
theorem dX3_init_118 : decode cX3_init 118 = .ok (.aastore, 1) := by decide +kernel
theorem dX3_init_119 : decode cX3_init 119 = .ok (.iinc 1 1, 3) := by decide +kernel
theorem dX3_init_122 : decode cX3_init 122 = .ok (.goto (-23), 3) := by decide +kernel
theorem dX3_init_125 : decode cX3_init 125 = .ok (.iconst 0, 1) := by decide +kernel
theorem dX3_init_126 : decode cX3_init 126 = .ok (.istore_n 1, 1) := by decide +kernel
theorem dX3_init_127 : decode cX3_init 127 = .ok (.iload_n 1, 1) := by decide +kernel
theorem dX3_init_128 : decode cX3_init 128 = .ok (.iconst 4, 1) := by decide +kernel
theorem dX3_init_129 : decode cX3_init 129 = .ok (.if_icmp .ge 23, 3) := by decide +kernel
theorem dX3_init_132 : decode cX3_init 132 = .ok (.aload_n 0, 1) := by decide +kernel
theorem dX3_init_133 : decode cX3_init 133 = .ok (.getfield 15, 3) := by decide +kernel
theorem dX3_init_136 : decode cX3_init 136 = .ok (.iload_n 1, 1) := by decide +kernel
theorem dX3_init_137 : decode cX3_init 137 = .ok (.new 9, 3) := by decide +kernel
theorem dX3_init_140 : decode cX3_init 140 = .ok (.dup, 1) := by decide +kernel
theorem dX3_init_141 : decode cX3_init 141 = .ok (.iconst 0, 1) := by decide +kernel
theorem dX3_init_142 : decode cX3_init 142 = .ok (.invokespecial 65, 3) := by decide +kernel
theorem dX3_init_145 : decode cX3_init 145 = .ok (.aastore, 1) := by decide +kernel
theorem dX3_init_146 : decode cX3_init 146 = .ok (.iinc 1 1, 3) := by decide +kernel
theorem dX3_init_149 : decode cX3_init 149 = .ok (.goto (-22), 3) := by decide +kernel
theorem dX3_init_152 : decode cX3_init 152 = .ok (.iconst 0, 1) := by decide +kernel
theorem dX3_init_153 : decode cX3_init 153 = .ok (.istore_n 1, 1) := by decide +kernel
theorem dX3_init_154 : decode cX3_init 154 = .ok (.iload_n 1, 1) := by decide +kernel
theorem dX3_init_155 : decode cX3_init 155 = .ok (.bipush 12, 2) := by decide +kernel
theorem dX3_init_157 : decode cX3_init 157 = .ok (.if_icmp .ge 35, 3) := by decide +kernel
theorem dX3_init_160 : decode cX3_init 160 = .ok (.aload_n 0, 1) := by decide +kernel
theorem dX3_init_161 : decode cX3_init 161 = .ok (.getfield 20, 3) := by decide +kernel
theorem dX3_init_164 : decode cX3_init 164 = .ok (.iload_n 1, 1) := by decide +kernel
theorem dX3_init_165 : decode cX3_init 165 = .ok (.new 18, 3) := by decide +kernel
theorem dX3_init_168 : decode cX3_init 168 = .ok (.dup, 1) := by decide +kernel
theorem dX3_init_169 : decode cX3_init 169 = .ok (.invokespecial 68, 3) := by decide +kernel
theorem dX3_init_172 : decode cX3_init 172 = .ok (.aastore, 1) := by decide +kernel
theorem dX3_init_173 : decode cX3_init 173 = .ok (.aload_n 0, 1) := by decide +kernel
theorem dX3_init_174 : decode cX3_init 174 = .ok (.getfield 50, 3) := by decide +kernel
theorem dX3_init_177 : decode cX3_init 177 = .ok (.iload_n 1, 1) := by decide +kernel
theorem dX3_init_178 : decode cX3_init 178 = .ok (.new 18, 3) := by decide +kernel
theorem dX3_init_181 : decode cX3_init 181 = .ok (.dup, 1) := by decide +kernel
theorem dX3_init_182 : decode cX3_init 182 = .ok (.invokespecial 68, 3) := by decide +kernel
theorem dX3_init_185 : decode cX3_init 185 = .ok (.aastore, 1) := by decide +kernel
theorem dX3_init_186 : decode cX3_init 186 = .ok (.iinc 1 1, 3) := by decide +kernel
theorem dX3_init_189 : decode cX3_init 189 = .ok (.goto (-35), 3) := by decide +kernel
theorem dX3_init_192 : decode cX3_init 192 = .ok (.iconst 0, 1) := by decide +kernel
theorem dX3_init_193 : decode cX3_init 193 = .ok (.istore_n 1, 1) := by decide +kernel
theorem dX3_init_194 : decode cX3_init 194 = .ok (.iload_n 1, 1) := by decide +kernel
theorem dX3_init_195 : decode cX3_init 195 = .ok (.iconst 4, 1) := by decide +kernel
theorem dX3_init_196 : decode cX3_init 196 = .ok (.if_icmp .ge 22, 3) := by decide +kernel
theorem dX3_init_199 : decode cX3_init 199 = .ok (.aload_n 0, 1) := by decide +kernel
theorem dX3_init_200 : decode cX3_init 200 = .ok (.getfield 46, 3) := by decide +kernel
theorem dX3_init_203 : decode cX3_init 203 = .ok (.iload_n 1, 1) := by decide +kernel
theorem dX3_init_204 : decode cX3_init 204 = .ok (.new 44, 3) := by decide +kernel
theorem dX3_init_207 : decode cX3_init 207 = .ok (.dup, 1) := by decide +kernel
theorem dX3_init_208 : decode cX3_init 208 = .ok (.invokespecial 69, 3) := by decide +kernel
theorem dX3_init_211 : decode cX3_init 211 = .ok (.aastore, 1) := by decide +kernel
theorem dX3_init_212 : decode cX3_init 212 = .ok (.iinc 1 1, 3) := by decide +kernel
theorem dX3_init_215 : decode cX3_init 215 = .ok (.goto (-21), 3) := by decide +kernel
theorem dX3_init_218 : decode cX3_init 218 = .ok (.return_, 1) := by decide +kernel
theorem dX3_change_0 : decode cX3_change 0 = .ok (.iload_n 1, 1) := by decide +kernel
theorem dX3_change_1 : decode cX3_change 1 = .ok (.bipush 12, 2) := by decide +kernel
theorem dX3_change_3 : decode cX3_change 3 = .ok (.invokestatic 70, 3) := by decide +kernel
theorem dX3_change_6 : decode cX3_change 6 = .ok (.ifCond .eq 12, 3) := by decide +kernel
theorem dX3_change_9 : decode cX3_change 9 = .ok (.iload_n 2, 1) := by decide +kernel
theorem dX3_change_10 : decode cX3_change 10 = .ok (.bipush 16, 2) := by decide +kernel
theorem dX3_change_12 : decode cX3_change 12 = .ok (.invokestatic 70, 3) := by decide +kernel
theorem dX3_change_15 : decode cX3_change 15 = .ok (.ifCond .ne 13, 3) := by decide +kernel
theorem dX3_change_18 : decode cX3_change 18 = .ok (.new 74, 3) := by decide +kernel
theorem dX3_change_21 : decode cX3_change 21 = .ok (.dup, 1) := by decide +kernel
theorem dX3_change_22 : decode cX3_change 22 = .ok (.ldc 76, 2) := by decide +kernel
theorem dX3_change_24 : decode cX3_change 24 = .ok (.invokespecial 78, 3) := by decide +kernel
theorem dX3_change_27 : decode cX3_change 27 = .ok (.athrow, 1) := by decide +kernel
theorem dX3_change_28 : decode cX3_change 28 = .ok (.iload_n 3, 1) := by decide +kernel
theorem dX3_change_29 : decode cX3_change 29 = .ok (.iconst 1, 1) := by decide +kernel
theorem dX3_change_30 : decode cX3_change 30 = .ok (.if_icmp .lt 11, 3) := by decide +kernel
theorem dX3_change_33 : decode cX3_change 33 = .ok (.iload_n 3, 1) := by decide +kernel
theorem dX3_change_34 : decode cX3_change 34 = .ok (.bipush 16, 2) := by decide +kernel
theorem dX3_change_36 : decode cX3_change 36 = .ok (.iload_n 2, 1) := by decide +kernel
theorem dX3_change_37 : decode cX3_change 37 = .ok (.isub, 1) := by decide +kernel
theorem dX3_change_38 : decode cX3_change 38 = .ok (.if_icmp .le 13, 3) := by decide +kernel
theorem dX3_change_41 : decode cX3_change 41 = .ok (.new 74, 3) := by decide +kernel
theorem dX3_change_44 : decode cX3_change 44 = .ok (.dup, 1) := by decide +kernel
theorem dX3_change_45 : decode cX3_change 45 = .ok (.ldc 81, 2) := by decide +kernel
theorem dX3_change_47 : decode cX3_change 47 = .ok (.invokespecial 78, 3) := by decide +kernel
theorem dX3_change_50 : decode cX3_change 50 = .ok (.athrow, 1) := by decide +kernel
theorem dX3_change_51 : decode cX3_change 51 = .ok (.aload_n 0, 1) := by decide +kernel
theorem dX3_change_52 : decode cX3_change 52 = .ok (.getfield 31, 3) := by decide +kernel
theorem dX3_change_55 : decode cX3_change 55 = .ok (.ifCond .eq 13, 3) := by decide +kernel
theorem dX3_change_58 : decode cX3_change 58 = .ok (.new 83, 3) := by decide +kernel
theorem dX3_change_61 : decode cX3_change 61 = .ok (.dup, 1) := by decide +kernel
theorem dX3_change_62 : decode cX3_change 62 = .ok (.ldc 85, 2) := by decide +kernel
theorem dX3_change_64 : decode cX3_change 64 = .ok (.invokespecial 87, 3) := by decide +kernel
theorem dX3_change_67 : decode cX3_change 67 = .ok (.athrow, 1) := by decide +kernel
theorem dX3_change_68 : decode cX3_change 68 = .ok (.aload_n 0, 1) := by decide +kernel
theorem dX3_change_69 : decode cX3_change 69 = .ok (.invokevirtual 88, 3) := by decide +kernel
theorem dX3_change_72 : decode cX3_change 72 = .ok (.iload_n 3, 1) := by decide +kernel
theorem dX3_change_73 : decode cX3_change 73 = .ok (.if_icmp .ge 28, 3) := by decide +kernel
theorem dX3_change_76 : decode cX3_change 76 = .ok (.aload_n 0, 1) := by decide +kernel
theorem dX3_change_77 : decode cX3_change 77 = .ok (.invokevirtual 92, 3) := by decide +kernel
theorem dX3_change_80 : decode cX3_change 80 = .ok (.bipush (-3), 2) := by decide +kernel
theorem dX3_change_82 : decode cX3_change 82 = .ok (.if_icmp .ne 8, 3) := by decide +kernel
theorem dX3_change_85 : decode cX3_change 85 = .ok (.aload_n 0, 1) := by decide +kernel
theorem dX3_change_86 : decode cX3_change 86 = .ok (.invokevirtual 95, 3) := by decide +kernel
theorem dX3_change_89 : decode cX3_change 89 = .ok (.ireturn, 1) := by decide +kernel
theorem dX3_change_90 : decode cX3_change 90 = .ok (.aload_n 0, 1) := by decide +kernel
theorem dX3_change_91 : decode cX3_change 91 = .ok (.invokevirtual 88, 3) := by decide +kernel
theorem dX3_change_94 : decode cX3_change 94 = .ok (.iload_n 3, 1) := by decide +kernel
theorem dX3_change_95 : decode cX3_change 95 = .ok (.if_icmp .ge 6, 3) := by decide +kernel
theorem dX3_change_98 : decode cX3_change 98 = .ok (.bipush (-2), 2) := by decide +kernel
theorem dX3_change_100 : decode cX3_change 100 = .ok (.ireturn, 1) := by decide +kernel
theorem dX3_change_101 : decode cX3_change 101 = .ok (.aload_n 0, 1) := by decide +kernel
theorem dX3_change_102 : decode cX3_change 102 = .ok (.iload_n 1, 1) := by decide +kernel
theorem dX3_change_103 : decode cX3_change 103 = .ok (.invokevirtual 98, 3) := by decide +kernel
theorem dX3_change_106 : decode cX3_change 106 = .ok (.istore 6, 2) := by decide +kernel
theorem dX3_change_108 : decode cX3_change 108 = .ok (.iload 6, 2) := by decide +kernel
theorem dX3_change_110 : decode cX3_change 110 = .ok (.bipush (-3), 2) := by decide +kernel
theorem dX3_change_112 : decode cX3_change 112 = .ok (.if_icmp .ne 8, 3) := by decide +kernel
theorem dX3_change_115 : decode cX3_change 115 = .ok (.aload_n 0, 1) := by decide +kernel
theorem dX3_change_116 : decode cX3_change 116 = .ok (.invokevirtual 95, 3) := by decide +kernel
theorem dX3_change_119 : decode cX3_change 119 = .ok (.ireturn, 1) := by decide +kernel
theorem dX3_change_120 : decode cX3_change 120 = .ok (.aload_n 0, 1) := by decide +kernel
theorem dX3_change_121 : decode cX3_change 121 = .ok (.aload_n 0, 1) := by decide +kernel
theorem dX3_change_122 : decode cX3_change 122 = .ok (.getfield 46, 3) := by decide +kernel
theorem dX3_change_125 : decode cX3_change 125 = .ok (.iload 6, 2) := by decide +kernel
theorem dX3_change_127 : decode cX3_change 127 = .ok (.aaload, 1) := by decide +kernel
theorem dX3_change_128 : decode cX3_change 128 = .ok (.iload_n 2, 1) := by decide +kernel
theorem dX3_change_129 : decode cX3_change 129 = .ok (.iload_n 3, 1) := by decide +kernel
theorem dX3_change_130 : decode cX3_change 130 = .ok (.iload 4, 2) := by decide +kernel
theorem dX3_change_132 : decode cX3_change 132 = .ok (.iload 5, 2) := by decide +kernel
theorem dX3_change_134 : decode cX3_change 134 = .ok (.invokevirtual 102, 3) := by decide +kernel
theorem dX3_change_137 : decode cX3_change 137 = .ok (.aload_n 0, 1) := by decide +kernel
theorem dX3_change_138 : decode cX3_change 138 = .ok (.getfield 56, 3) := by decide +kernel
theorem dX3_change_141 : decode cX3_change 141 = .ok (.iconst 1, 1) := by decide +kernel
theorem dX3_change_142 : decode cX3_change 142 = .ok (.isub, 1) := by decide +kernel
theorem dX3_change_143 : decode cX3_change 143 = .ok (.ireturn, 1) := by decide +kernel
theorem dX3_read_0 : decode cX3_read 0 = .ok (.iload_n 1, 1) := by decide +kernel
theorem dX3_read_1 : decode cX3_read 1 = .ok (.bipush 12, 2) := by decide +kernel
theorem dX3_read_3 : decode cX3_read 3 = .ok (.invokestatic 70, 3) := by decide +kernel
theorem dX3_read_6 : decode cX3_read 6 = .ok (.ifCond .eq 12, 3) := by decide +kernel
theorem dX3_read_9 : decode cX3_read 9 = .ok (.iload_n 2, 1) := by decide +kernel
theorem dX3_read_10 : decode cX3_read 10 = .ok (.bipush 16, 2) := by decide +kernel
theorem dX3_read_12 : decode cX3_read 12 = .ok (.invokestatic 70, 3) := by decide +kernel
theorem dX3_read_15 : decode cX3_read 15 = .ok (.ifCond .ne 13, 3) := by decide +kernel
theorem dX3_read_18 : decode cX3_read 18 = .ok (.new 74, 3) := by decide +kernel
theorem dX3_read_21 : decode cX3_read 21 = .ok (.dup, 1) := by decide +kernel
theorem dX3_read_22 : decode cX3_read 22 = .ok (.ldc 76, 2) := by decide +kernel
theorem dX3_read_24 : decode cX3_read 24 = .ok (.invokespecial 78, 3) := by decide +kernel
theorem dX3_read_27 : decode cX3_read 27 = .ok (.athrow, 1) := by decide +kernel
theorem dX3_read_28 : decode cX3_read 28 = .ok (.aload_n 0, 1) := by decide +kernel
theorem dX3_read_29 : decode cX3_read 29 = .ok (.getfield 31, 3) := by decide +kernel
theorem dX3_read_32 : decode cX3_read 32 = .ok (.ifCond .eq 13, 3) := by decide +kernel
theorem dX3_read_35 : decode cX3_read 35 = .ok (.new 83, 3) := by decide +kernel
theorem dX3_read_38 : decode cX3_read 38 = .ok (.dup, 1) := by decide +kernel
theorem dX3_read_39 : decode cX3_read 39 = .ok (.ldc 85, 2) := by decide +kernel
theorem dX3_read_41 : decode cX3_read 41 = .ok (.invokespecial 87, 3) := by decide +kernel
theorem dX3_read_44 : decode cX3_read 44 = .ok (.athrow, 1) := by decide +kernel
theorem dX3_read_45 : decode cX3_read 45 = .ok (.aload_n 0, 1) := by decide +kernel
theorem dX3_read_46 : decode cX3_read 46 = .ok (.iload_n 1, 1) := by decide +kernel
theorem dX3_read_47 : decode cX3_read 47 = .ok (.invokevirtual 98, 3) := by decide +kernel
theorem dX3_read_50 : decode cX3_read 50 = .ok (.istore_n 3, 1) := by decide +kernel
theorem dX3_read_51 : decode cX3_read 51 = .ok (.iload_n 3, 1) := by decide +kernel
theorem dX3_read_52 : decode cX3_read 52 = .ok (.bipush (-3), 2) := by decide +kernel
theorem dX3_read_54 : decode cX3_read 54 = .ok (.if_icmp .ne 13, 3) := by decide +kernel
theorem dX3_read_57 : decode cX3_read 57 = .ok (.aload_n 0, 1) := by decide +kernel
theorem dX3_read_58 : decode cX3_read 58 = .ok (.iconst 0, 1) := by decide +kernel
theorem dX3_read_59 : decode cX3_read 59 = .ok (.putfield 62, 3) := by decide +kernel
theorem dX3_read_62 : decode cX3_read 62 = .ok (.aload_n 0, 1) := by decide +kernel
theorem dX3_read_63 : decode cX3_read 63 = .ok (.invokevirtual 95, 3) := by decide +kernel
theorem dX3_read_66 : decode cX3_read 66 = .ok (.ireturn, 1) := by decide +kernel
theorem dX3_read_67 : decode cX3_read 67 = .ok (.aload_n 0, 1) := by decide +kernel
theorem dX3_read_68 : decode cX3_read 68 = .ok (.aload_n 0, 1) := by decide +kernel
theorem dX3_read_69 : decode cX3_read 69 = .ok (.getfield 46, 3) := by decide +kernel
theorem dX3_read_72 : decode cX3_read 72 = .ok (.iload_n 3, 1) := by decide +kernel
theorem dX3_read_73 : decode cX3_read 73 = .ok (.aaload, 1) := by decide +kernel
theorem dX3_read_74 : decode cX3_read 74 = .ok (.getfield 106, 3) := by decide +kernel
theorem dX3_read_77 : decode cX3_read 77 = .ok (.iload_n 2, 1) := by decide +kernel
theorem dX3_read_78 : decode cX3_read 78 = .ok (.iaload, 1) := by decide +kernel
theorem dX3_read_79 : decode cX3_read 79 = .ok (.putfield 62, 3) := by decide +kernel
theorem dX3_read_82 : decode cX3_read 82 = .ok (.iconst 1, 1) := by decide +kernel
theorem dX3_read_83 : decode cX3_read 83 = .ok (.ireturn, 1) := by decide +kernel
theorem dX3_got_0 : decode cX3_got 0 = .ok (.aload_n 0, 1) := by decide +kernel
theorem dX3_got_1 : decode cX3_got 1 = .ok (.getfield 62, 3) := by decide +kernel
theorem dX3_got_4 : decode cX3_got 4 = .ok (.ireturn, 1) := by decide +kernel
theorem dX3_sync_0 : decode cX3_sync 0 = .ok (.aload_n 0, 1) := by decide +kernel
theorem dX3_sync_1 : decode cX3_sync 1 = .ok (.getfield 31, 3) := by decide +kernel
theorem dX3_sync_4 : decode cX3_sync 4 = .ok (.ifCond .eq 13, 3) := by decide +kernel
theorem dX3_sync_7 : decode cX3_sync 7 = .ok (.new 83, 3) := by decide +kernel
theorem dX3_sync_10 : decode cX3_sync 10 = .ok (.dup, 1) := by decide +kernel
theorem dX3_sync_11 : decode cX3_sync 11 = .ok (.ldc 85, 2) := by decide +kernel
theorem dX3_sync_13 : decode cX3_sync 13 = .ok (.invokespecial 87, 3) := by decide +kernel
theorem dX3_sync_16 : decode cX3_sync 16 = .ok (.athrow, 1) := by decide +kernel
theorem dX3_sync_17 : decode cX3_sync 17 = .ok (.aload_n 0, 1) := by decide +kernel
theorem dX3_sync_18 : decode cX3_sync 18 = .ok (.invokevirtual 110, 3) := by decide +kernel
theorem dX3_sync_21 : decode cX3_sync 21 = .ok (.istore_n 1, 1) := by decide +kernel
theorem dX3_sync_22 : decode cX3_sync 22 = .ok (.iload_n 1, 1) := by decide +kernel
theorem dX3_sync_23 : decode cX3_sync 23 = .ok (.bipush (-3), 2) := by decide +kernel
theorem dX3_sync_25 : decode cX3_sync 25 = .ok (.if_icmp .ne 10, 3) := by decide +kernel
theorem dX3_sync_28 : decode cX3_sync 28 = .ok (.aload_n 0, 1) := by decide +kernel
theorem dX3_sync_29 : decode cX3_sync 29 = .ok (.invokevirtual 95, 3) := by decide +kernel
theorem dX3_sync_32 : decode cX3_sync 32 = .ok (.goto 4, 3) := by decide +kernel
theorem dX3_sync_35 : decode cX3_sync 35 = .ok (.iload_n 1, 1) := by decide +kernel
theorem dX3_sync_36 : decode cX3_sync 36 = .ok (.ireturn, 1) := by decide +kernel
theorem dX3_checkpoint_0 : decode cX3_checkpoint 0 = .ok (.aload_n 0, 1) := by decide +kernel
theorem dX3_checkpoint_1 : decode cX3_checkpoint 1 = .ok (.getfield 31, 3) := by decide +kernel
theorem dX3_checkpoint_4 : decode cX3_checkpoint 4 = .ok (.ifCond .eq 13, 3) := by decide +kernel
theorem dX3_checkpoint_7 : decode cX3_checkpoint 7 = .ok (.new 83, 3) := by decide +kernel
theorem dX3_checkpoint_10 : decode cX3_checkpoint 10 = .ok (.dup, 1) := by decide +kernel
theorem dX3_checkpoint_11 : decode cX3_checkpoint 11 = .ok (.ldc 85, 2) := by decide +kernel
theorem dX3_checkpoint_13 : decode cX3_checkpoint 13 = .ok (.invokespecial 87, 3) := by decide +kernel
theorem dX3_checkpoint_16 : decode cX3_checkpoint 16 = .ok (.athrow, 1) := by decide +kernel
theorem dX3_checkpoint_17 : decode cX3_checkpoint 17 = .ok (.aload_n 0, 1) := by decide +kernel
theorem dX3_checkpoint_18 : decode cX3_checkpoint 18 = .ok (.invokevirtual 92, 3) := by decide +kernel
theorem dX3_checkpoint_21 : decode cX3_checkpoint 21 = .ok (.istore_n 1, 1) := by decide +kernel
theorem dX3_checkpoint_22 : decode cX3_checkpoint 22 = .ok (.iload_n 1, 1) := by decide +kernel
theorem dX3_checkpoint_23 : decode cX3_checkpoint 23 = .ok (.bipush (-3), 2) := by decide +kernel
theorem dX3_checkpoint_25 : decode cX3_checkpoint 25 = .ok (.if_icmp .ne 10, 3) := by decide +kernel
theorem dX3_checkpoint_28 : decode cX3_checkpoint 28 = .ok (.aload_n 0, 1) := by decide +kernel
theorem dX3_checkpoint_29 : decode cX3_checkpoint 29 = .ok (.invokevirtual 95, 3) := by decide +kernel
theorem dX3_checkpoint_32 : decode cX3_checkpoint 32 = .ok (.goto 4, 3) := by decide +kernel
theorem dX3_checkpoint_35 : decode cX3_checkpoint 35 = .ok (.iload_n 1, 1) := by decide +kernel
theorem dX3_checkpoint_36 : decode cX3_checkpoint 36 = .ok (.ireturn, 1) := by decide +kernel
theorem dX3_power_0 : decode cX3_power 0 = .ok (.iload_n 1, 1) := by decide +kernel
theorem dX3_power_1 : decode cX3_power 1 = .ok (.iconst (-1), 1) := by decide +kernel
theorem dX3_power_2 : decode cX3_power 2 = .ok (.if_icmp .lt 10, 3) := by decide +kernel
theorem dX3_power_5 : decode cX3_power 5 = .ok (.iload_n 1, 1) := by decide +kernel
theorem dX3_power_6 : decode cX3_power 6 = .ok (.sipush 10000, 3) := by decide +kernel
theorem dX3_power_9 : decode cX3_power 9 = .ok (.if_icmp .le 13, 3) := by decide +kernel
theorem dX3_power_12 : decode cX3_power 12 = .ok (.new 74, 3) := by decide +kernel
theorem dX3_power_15 : decode cX3_power 15 = .ok (.dup, 1) := by decide +kernel
theorem dX3_power_16 : decode cX3_power 16 = .ok (.ldc 113, 2) := by decide +kernel
theorem dX3_power_18 : decode cX3_power 18 = .ok (.invokespecial 78, 3) := by decide +kernel
theorem dX3_power_21 : decode cX3_power 21 = .ok (.athrow, 1) := by decide +kernel
theorem dX3_power_22 : decode cX3_power 22 = .ok (.aload_n 0, 1) := by decide +kernel
theorem dX3_power_23 : decode cX3_power 23 = .ok (.iload_n 1, 1) := by decide +kernel
theorem dX3_power_24 : decode cX3_power 24 = .ok (.putfield 28, 3) := by decide +kernel
theorem dX3_power_27 : decode cX3_power 27 = .ok (.return_, 1) := by decide +kernel
theorem dX3_recover_0 : decode cX3_recover 0 = .ok (.aload_n 0, 1) := by decide +kernel
theorem dX3_recover_1 : decode cX3_recover 1 = .ok (.getfield 31, 3) := by decide +kernel
theorem dX3_recover_4 : decode cX3_recover 4 = .ok (.ifCond .ne 13, 3) := by decide +kernel
theorem dX3_recover_7 : decode cX3_recover 7 = .ok (.new 83, 3) := by decide +kernel
theorem dX3_recover_10 : decode cX3_recover 10 = .ok (.dup, 1) := by decide +kernel
theorem dX3_recover_11 : decode cX3_recover 11 = .ok (.ldc 115, 2) := by decide +kernel
theorem dX3_recover_13 : decode cX3_recover 13 = .ok (.invokespecial 87, 3) := by decide +kernel
theorem dX3_recover_16 : decode cX3_recover 16 = .ok (.athrow, 1) := by decide +kernel
theorem dX3_recover_17 : decode cX3_recover 17 = .ok (.aload_n 0, 1) := by decide +kernel
theorem dX3_recover_18 : decode cX3_recover 18 = .ok (.invokevirtual 117, 3) := by decide +kernel
theorem dX3_recover_21 : decode cX3_recover 21 = .ok (.ifCond .ne 8, 3) := by decide +kernel
theorem dX3_recover_24 : decode cX3_recover 24 = .ok (.aload_n 0, 1) := by decide +kernel
theorem dX3_recover_25 : decode cX3_recover 25 = .ok (.invokevirtual 95, 3) := by decide +kernel
theorem dX3_recover_28 : decode cX3_recover 28 = .ok (.ireturn, 1) := by decide +kernel
theorem dX3_recover_29 : decode cX3_recover 29 = .ok (.aload_n 0, 1) := by decide +kernel
theorem dX3_recover_30 : decode cX3_recover 30 = .ok (.invokevirtual 121, 3) := by decide +kernel
theorem dX3_recover_33 : decode cX3_recover 33 = .ok (.istore_n 1, 1) := by decide +kernel
theorem dX3_recover_34 : decode cX3_recover 34 = .ok (.iload_n 1, 1) := by decide +kernel
theorem dX3_recover_35 : decode cX3_recover 35 = .ok (.bipush (-3), 2) := by decide +kernel
theorem dX3_recover_37 : decode cX3_recover 37 = .ok (.if_icmp .ne 8, 3) := by decide +kernel
theorem dX3_recover_40 : decode cX3_recover 40 = .ok (.aload_n 0, 1) := by decide +kernel
theorem dX3_recover_41 : decode cX3_recover 41 = .ok (.invokevirtual 95, 3) := by decide +kernel
theorem dX3_recover_44 : decode cX3_recover 44 = .ok (.ireturn, 1) := by decide +kernel
theorem dX3_recover_45 : decode cX3_recover 45 = .ok (.aload_n 0, 1) := by decide +kernel
theorem dX3_recover_46 : decode cX3_recover 46 = .ok (.iload_n 1, 1) := by decide +kernel
theorem dX3_recover_47 : decode cX3_recover 47 = .ok (.putfield 56, 3) := by decide +kernel
theorem dX3_recover_50 : decode cX3_recover 50 = .ok (.aload_n 0, 1) := by decide +kernel
theorem dX3_recover_51 : decode cX3_recover 51 = .ok (.iconst 0, 1) := by decide +kernel
theorem dX3_recover_52 : decode cX3_recover 52 = .ok (.putfield 31, 3) := by decide +kernel
theorem dX3_recover_55 : decode cX3_recover 55 = .ok (.aload_n 0, 1) := by decide +kernel
theorem dX3_recover_56 : decode cX3_recover 56 = .ok (.getfield 56, 3) := by decide +kernel
theorem dX3_recover_59 : decode cX3_recover 59 = .ok (.iconst 1, 1) := by decide +kernel
theorem dX3_recover_60 : decode cX3_recover 60 = .ok (.isub, 1) := by decide +kernel
theorem dX3_recover_61 : decode cX3_recover 61 = .ok (.ireturn, 1) := by decide +kernel
theorem dX3_cut_0 : decode cX3_cut 0 = .ok (.aload_n 0, 1) := by decide +kernel
theorem dX3_cut_1 : decode cX3_cut 1 = .ok (.getfield 31, 3) := by decide +kernel
theorem dX3_cut_4 : decode cX3_cut 4 = .ok (.ifCond .eq 13, 3) := by decide +kernel
theorem dX3_cut_7 : decode cX3_cut 7 = .ok (.new 83, 3) := by decide +kernel
theorem dX3_cut_10 : decode cX3_cut 10 = .ok (.dup, 1) := by decide +kernel
theorem dX3_cut_11 : decode cX3_cut 11 = .ok (.ldc 85, 2) := by decide +kernel
theorem dX3_cut_13 : decode cX3_cut 13 = .ok (.invokespecial 87, 3) := by decide +kernel
theorem dX3_cut_16 : decode cX3_cut 16 = .ok (.athrow, 1) := by decide +kernel
theorem dX3_cut_17 : decode cX3_cut 17 = .ok (.aload_n 0, 1) := by decide +kernel
theorem dX3_cut_18 : decode cX3_cut 18 = .ok (.getfield 53, 3) := by decide +kernel
theorem dX3_cut_21 : decode cX3_cut 21 = .ok (.istore_n 1, 1) := by decide +kernel
theorem dX3_cut_22 : decode cX3_cut 22 = .ok (.aload_n 0, 1) := by decide +kernel
theorem dX3_cut_23 : decode cX3_cut 23 = .ok (.invokevirtual 124, 3) := by decide +kernel
theorem dX3_cut_26 : decode cX3_cut 26 = .ok (.iload_n 1, 1) := by decide +kernel
theorem dX3_cut_27 : decode cX3_cut 27 = .ok (.ireturn, 1) := by decide +kernel
theorem dX3_disk_0 : decode cX3_disk 0 = .ok (.iload_n 1, 1) := by decide +kernel
theorem dX3_disk_1 : decode cX3_disk 1 = .ok (.tableswitch 69 0 3 #[31, 43, 55, 62], 31) := by decide +kernel
theorem dX3_disk_32 : decode cX3_disk 32 = .ok (.aload_n 0, 1) := by decide +kernel
theorem dX3_disk_33 : decode cX3_disk 33 = .ok (.getfield 11, 3) := by decide +kernel
theorem dX3_disk_36 : decode cX3_disk 36 = .ok (.iload_n 2, 1) := by decide +kernel
theorem dX3_disk_37 : decode cX3_disk 37 = .ok (.iload_n 3, 1) := by decide +kernel
theorem dX3_disk_38 : decode cX3_disk 38 = .ok (.bipush 20, 2) := by decide +kernel
theorem dX3_disk_40 : decode cX3_disk 40 = .ok (.invokestatic 127, 3) := by decide +kernel
theorem dX3_disk_43 : decode cX3_disk 43 = .ok (.ireturn, 1) := by decide +kernel
theorem dX3_disk_44 : decode cX3_disk 44 = .ok (.aload_n 0, 1) := by decide +kernel
theorem dX3_disk_45 : decode cX3_disk 45 = .ok (.getfield 15, 3) := by decide +kernel
theorem dX3_disk_48 : decode cX3_disk 48 = .ok (.iload_n 2, 1) := by decide +kernel
theorem dX3_disk_49 : decode cX3_disk 49 = .ok (.iload_n 3, 1) := by decide +kernel
theorem dX3_disk_50 : decode cX3_disk 50 = .ok (.bipush 24, 2) := by decide +kernel
theorem dX3_disk_52 : decode cX3_disk 52 = .ok (.invokestatic 127, 3) := by decide +kernel
theorem dX3_disk_55 : decode cX3_disk 55 = .ok (.ireturn, 1) := by decide +kernel
theorem dX3_disk_56 : decode cX3_disk 56 = .ok (.aload_n 0, 1) := by decide +kernel
theorem dX3_disk_57 : decode cX3_disk 57 = .ok (.iload_n 2, 1) := by decide +kernel
theorem dX3_disk_58 : decode cX3_disk 58 = .ok (.iload_n 3, 1) := by decide +kernel
theorem dX3_disk_59 : decode cX3_disk 59 = .ok (.invokevirtual 131, 3) := by decide +kernel
theorem dX3_disk_62 : decode cX3_disk 62 = .ok (.ireturn, 1) := by decide +kernel
theorem dX3_disk_63 : decode cX3_disk 63 = .ok (.aload_n 0, 1) := by decide +kernel
theorem dX3_disk_64 : decode cX3_disk 64 = .ok (.iload_n 2, 1) := by decide +kernel
theorem dX3_disk_65 : decode cX3_disk 65 = .ok (.iload_n 3, 1) := by decide +kernel
theorem dX3_disk_66 : decode cX3_disk 66 = .ok (.invokevirtual 135, 3) := by decide +kernel
theorem dX3_disk_69 : decode cX3_disk 69 = .ok (.ireturn, 1) := by decide +kernel
theorem dX3_disk_70 : decode cX3_disk 70 = .ok (.new 74, 3) := by decide +kernel
theorem dX3_disk_73 : decode cX3_disk 73 = .ok (.dup, 1) := by decide +kernel
theorem dX3_disk_74 : decode cX3_disk 74 = .ok (.ldc 138, 2) := by decide +kernel
theorem dX3_disk_76 : decode cX3_disk 76 = .ok (.invokespecial 78, 3) := by decide +kernel
theorem dX3_disk_79 : decode cX3_disk 79 = .ok (.athrow, 1) := by decide +kernel
theorem dX3_frame_0 : decode cX3_frame 0 = .ok (.iload_n 1, 1) := by decide +kernel
theorem dX3_frame_1 : decode cX3_frame 1 = .ok (.iconst 4, 1) := by decide +kernel
theorem dX3_frame_2 : decode cX3_frame 2 = .ok (.invokestatic 70, 3) := by decide +kernel
theorem dX3_frame_5 : decode cX3_frame 5 = .ok (.ifCond .eq 12, 3) := by decide +kernel
theorem dX3_frame_8 : decode cX3_frame 8 = .ok (.iload_n 2, 1) := by decide +kernel
theorem dX3_frame_9 : decode cX3_frame 9 = .ok (.bipush 19, 2) := by decide +kernel
theorem dX3_frame_11 : decode cX3_frame 11 = .ok (.invokestatic 70, 3) := by decide +kernel
theorem dX3_frame_14 : decode cX3_frame 14 = .ok (.ifCond .ne 13, 3) := by decide +kernel
theorem dX3_frame_17 : decode cX3_frame 17 = .ok (.new 74, 3) := by decide +kernel
theorem dX3_frame_20 : decode cX3_frame 20 = .ok (.dup, 1) := by decide +kernel
theorem dX3_frame_21 : decode cX3_frame 21 = .ok (.ldc 140, 2) := by decide +kernel
theorem dX3_frame_23 : decode cX3_frame 23 = .ok (.invokespecial 78, 3) := by decide +kernel
theorem dX3_frame_26 : decode cX3_frame 26 = .ok (.athrow, 1) := by decide +kernel
theorem dX3_frame_27 : decode cX3_frame 27 = .ok (.aload_n 0, 1) := by decide +kernel
theorem dX3_frame_28 : decode cX3_frame 28 = .ok (.getfield 46, 3) := by decide +kernel
theorem dX3_frame_31 : decode cX3_frame 31 = .ok (.iload_n 1, 1) := by decide +kernel
theorem dX3_frame_32 : decode cX3_frame 32 = .ok (.aaload, 1) := by decide +kernel
theorem dX3_frame_33 : decode cX3_frame 33 = .ok (.iload_n 2, 1) := by decide +kernel
theorem dX3_frame_34 : decode cX3_frame 34 = .ok (.invokevirtual 142, 3) := by decide +kernel
theorem dX3_frame_37 : decode cX3_frame 37 = .ok (.ireturn, 1) := by decide +kernel
theorem dX3_count_0 : decode cX3_count 0 = .ok (.iload_n 1, 1) := by decide +kernel
theorem dX3_count_1 : decode cX3_count 1 = .ok (.tableswitch 110 0 6 #[43, 61, 66, 71, 84, 89, 94], 43) := by decide +kernel
theorem dX3_count_44 : decode cX3_count 44 = .ok (.aload_n 0, 1) := by decide +kernel
theorem dX3_count_45 : decode cX3_count 45 = .ok (.getfield 31, 3) := by decide +kernel
theorem dX3_count_48 : decode cX3_count 48 = .ok (.ifCond .eq 7, 3) := by decide +kernel
theorem dX3_count_51 : decode cX3_count 51 = .ok (.iconst 0, 1) := by decide +kernel
theorem dX3_count_52 : decode cX3_count 52 = .ok (.goto 9, 3) := by decide +kernel
theorem dX3_count_55 : decode cX3_count 55 = .ok (.aload_n 0, 1) := by decide +kernel
theorem dX3_count_56 : decode cX3_count 56 = .ok (.getfield 56, 3) := by decide +kernel
theorem dX3_count_59 : decode cX3_count 59 = .ok (.iconst 1, 1) := by decide +kernel
theorem dX3_count_60 : decode cX3_count 60 = .ok (.isub, 1) := by decide +kernel
theorem dX3_count_61 : decode cX3_count 61 = .ok (.ireturn, 1) := by decide +kernel
theorem dX3_count_62 : decode cX3_count 62 = .ok (.aload_n 0, 1) := by decide +kernel
theorem dX3_count_63 : decode cX3_count 63 = .ok (.getfield 53, 3) := by decide +kernel
theorem dX3_count_66 : decode cX3_count 66 = .ok (.ireturn, 1) := by decide +kernel
theorem dX3_count_67 : decode cX3_count 67 = .ok (.aload_n 0, 1) := by decide +kernel
theorem dX3_count_68 : decode cX3_count 68 = .ok (.getfield 35, 3) := by decide +kernel
theorem dX3_count_71 : decode cX3_count 71 = .ok (.ireturn, 1) := by decide +kernel
theorem dX3_count_72 : decode cX3_count 72 = .ok (.aload_n 0, 1) := by decide +kernel
theorem dX3_count_73 : decode cX3_count 73 = .ok (.getfield 31, 3) := by decide +kernel
theorem dX3_count_76 : decode cX3_count 76 = .ok (.ifCond .eq 7, 3) := by decide +kernel
theorem dX3_count_79 : decode cX3_count 79 = .ok (.iconst 1, 1) := by decide +kernel
theorem dX3_count_80 : decode cX3_count 80 = .ok (.goto 4, 3) := by decide +kernel
theorem dX3_count_83 : decode cX3_count 83 = .ok (.iconst 0, 1) := by decide +kernel
theorem dX3_count_84 : decode cX3_count 84 = .ok (.ireturn, 1) := by decide +kernel
theorem dX3_count_85 : decode cX3_count 85 = .ok (.aload_n 0, 1) := by decide +kernel
theorem dX3_count_86 : decode cX3_count 86 = .ok (.getfield 38, 3) := by decide +kernel
theorem dX3_count_89 : decode cX3_count 89 = .ok (.ireturn, 1) := by decide +kernel
theorem dX3_count_90 : decode cX3_count 90 = .ok (.aload_n 0, 1) := by decide +kernel
theorem dX3_count_91 : decode cX3_count 91 = .ok (.getfield 41, 3) := by decide +kernel
theorem dX3_count_94 : decode cX3_count 94 = .ok (.ireturn, 1) := by decide +kernel
theorem dX3_count_95 : decode cX3_count 95 = .ok (.aload_n 0, 1) := by decide +kernel
theorem dX3_count_96 : decode cX3_count 96 = .ok (.getfield 31, 3) := by decide +kernel
theorem dX3_count_99 : decode cX3_count 99 = .ok (.ifCond .eq 7, 3) := by decide +kernel
theorem dX3_count_102 : decode cX3_count 102 = .ok (.iconst 0, 1) := by decide +kernel
theorem dX3_count_103 : decode cX3_count 103 = .ok (.goto 7, 3) := by decide +kernel
theorem dX3_count_106 : decode cX3_count 106 = .ok (.aload_n 0, 1) := by decide +kernel
theorem dX3_count_107 : decode cX3_count 107 = .ok (.invokevirtual 88, 3) := by decide +kernel
theorem dX3_count_110 : decode cX3_count 110 = .ok (.ireturn, 1) := by decide +kernel
theorem dX3_count_111 : decode cX3_count 111 = .ok (.new 74, 3) := by decide +kernel
theorem dX3_count_114 : decode cX3_count 114 = .ok (.dup, 1) := by decide +kernel
theorem dX3_count_115 : decode cX3_count 115 = .ok (.ldc 145, 2) := by decide +kernel
theorem dX3_count_117 : decode cX3_count 117 = .ok (.invokespecial 78, 3) := by decide +kernel
theorem dX3_count_120 : decode cX3_count 120 = .ok (.athrow, 1) := by decide +kernel
theorem dX3_isIn_0 : decode cX3_isIn 0 = .ok (.iload_n 0, 1) := by decide +kernel
theorem dX3_isIn_1 : decode cX3_isIn 1 = .ok (.ifCond .lt 12, 3) := by decide +kernel
theorem dX3_isIn_4 : decode cX3_isIn 4 = .ok (.iload_n 0, 1) := by decide +kernel
theorem dX3_isIn_5 : decode cX3_isIn 5 = .ok (.iload_n 1, 1) := by decide +kernel
theorem dX3_isIn_6 : decode cX3_isIn 6 = .ok (.if_icmp .ge 7, 3) := by decide +kernel
theorem dX3_isIn_9 : decode cX3_isIn 9 = .ok (.iconst 1, 1) := by decide +kernel
theorem dX3_isIn_10 : decode cX3_isIn 10 = .ok (.goto 4, 3) := by decide +kernel
theorem dX3_isIn_13 : decode cX3_isIn 13 = .ok (.iconst 0, 1) := by decide +kernel
theorem dX3_isIn_14 : decode cX3_isIn 14 = .ok (.ireturn, 1) := by decide +kernel
theorem dX3_placeValue_0 : decode cX3_placeValue 0 = .ok (.iload_n 1, 1) := by decide +kernel
theorem dX3_placeValue_1 : decode cX3_placeValue 1 = .ok (.aload_n 0, 1) := by decide +kernel
theorem dX3_placeValue_2 : decode cX3_placeValue 2 = .ok (.arraylength, 1) := by decide +kernel
theorem dX3_placeValue_3 : decode cX3_placeValue 3 = .ok (.invokestatic 70, 3) := by decide +kernel
theorem dX3_placeValue_6 : decode cX3_placeValue 6 = .ok (.ifCond .eq 11, 3) := by decide +kernel
theorem dX3_placeValue_9 : decode cX3_placeValue 9 = .ok (.iload_n 2, 1) := by decide +kernel
theorem dX3_placeValue_10 : decode cX3_placeValue 10 = .ok (.iload_n 3, 1) := by decide +kernel
theorem dX3_placeValue_11 : decode cX3_placeValue 11 = .ok (.invokestatic 70, 3) := by decide +kernel
theorem dX3_placeValue_14 : decode cX3_placeValue 14 = .ok (.ifCond .ne 13, 3) := by decide +kernel
theorem dX3_placeValue_17 : decode cX3_placeValue 17 = .ok (.new 74, 3) := by decide +kernel
theorem dX3_placeValue_20 : decode cX3_placeValue 20 = .ok (.dup, 1) := by decide +kernel
theorem dX3_placeValue_21 : decode cX3_placeValue 21 = .ok (.ldc 147, 2) := by decide +kernel
theorem dX3_placeValue_23 : decode cX3_placeValue 23 = .ok (.invokespecial 78, 3) := by decide +kernel
theorem dX3_placeValue_26 : decode cX3_placeValue 26 = .ok (.athrow, 1) := by decide +kernel
theorem dX3_placeValue_27 : decode cX3_placeValue 27 = .ok (.aload_n 0, 1) := by decide +kernel
theorem dX3_placeValue_28 : decode cX3_placeValue 28 = .ok (.iload_n 1, 1) := by decide +kernel
theorem dX3_placeValue_29 : decode cX3_placeValue 29 = .ok (.aaload, 1) := by decide +kernel
theorem dX3_placeValue_30 : decode cX3_placeValue 30 = .ok (.iload_n 2, 1) := by decide +kernel
theorem dX3_placeValue_31 : decode cX3_placeValue 31 = .ok (.invokevirtual 149, 3) := by decide +kernel
theorem dX3_placeValue_34 : decode cX3_placeValue 34 = .ok (.ireturn, 1) := by decide +kernel
theorem dX3_recordValue_0 : decode cX3_recordValue 0 = .ok (.iload_n 1, 1) := by decide +kernel
theorem dX3_recordValue_1 : decode cX3_recordValue 1 = .ok (.bipush 12, 2) := by decide +kernel
theorem dX3_recordValue_3 : decode cX3_recordValue 3 = .ok (.invokestatic 70, 3) := by decide +kernel
theorem dX3_recordValue_6 : decode cX3_recordValue 6 = .ok (.ifCond .eq 11, 3) := by decide +kernel
theorem dX3_recordValue_9 : decode cX3_recordValue 9 = .ok (.iload_n 2, 1) := by decide +kernel
theorem dX3_recordValue_10 : decode cX3_recordValue 10 = .ok (.iconst 4, 1) := by decide +kernel
theorem dX3_recordValue_11 : decode cX3_recordValue 11 = .ok (.invokestatic 70, 3) := by decide +kernel
theorem dX3_recordValue_14 : decode cX3_recordValue 14 = .ok (.ifCond .ne 13, 3) := by decide +kernel
theorem dX3_recordValue_17 : decode cX3_recordValue 17 = .ok (.new 74, 3) := by decide +kernel
theorem dX3_recordValue_20 : decode cX3_recordValue 20 = .ok (.dup, 1) := by decide +kernel
theorem dX3_recordValue_21 : decode cX3_recordValue 21 = .ok (.ldc 150, 2) := by decide +kernel
theorem dX3_recordValue_23 : decode cX3_recordValue 23 = .ok (.invokespecial 78, 3) := by decide +kernel
theorem dX3_recordValue_26 : decode cX3_recordValue 26 = .ok (.athrow, 1) := by decide +kernel
theorem dX3_recordValue_27 : decode cX3_recordValue 27 = .ok (.aload_n 0, 1) := by decide +kernel
theorem dX3_recordValue_28 : decode cX3_recordValue 28 = .ok (.getfield 20, 3) := by decide +kernel
theorem dX3_recordValue_31 : decode cX3_recordValue 31 = .ok (.iload_n 1, 1) := by decide +kernel
theorem dX3_recordValue_32 : decode cX3_recordValue 32 = .ok (.aaload, 1) := by decide +kernel
theorem dX3_recordValue_33 : decode cX3_recordValue 33 = .ok (.iload_n 2, 1) := by decide +kernel
theorem dX3_recordValue_34 : decode cX3_recordValue 34 = .ok (.invokevirtual 152, 3) := by decide +kernel
theorem dX3_recordValue_37 : decode cX3_recordValue 37 = .ok (.ireturn, 1) := by decide +kernel
theorem dX3_markValue_0 : decode cX3_markValue 0 = .ok (.iload_n 1, 1) := by decide +kernel
theorem dX3_markValue_1 : decode cX3_markValue 1 = .ok (.ifCond .ne 7, 3) := by decide +kernel
theorem dX3_markValue_4 : decode cX3_markValue 4 = .ok (.iload_n 2, 1) := by decide +kernel
theorem dX3_markValue_5 : decode cX3_markValue 5 = .ok (.ifCond .eq 13, 3) := by decide +kernel
theorem dX3_markValue_8 : decode cX3_markValue 8 = .ok (.new 74, 3) := by decide +kernel
theorem dX3_markValue_11 : decode cX3_markValue 11 = .ok (.dup, 1) := by decide +kernel
theorem dX3_markValue_12 : decode cX3_markValue 12 = .ok (.ldc 153, 2) := by decide +kernel
theorem dX3_markValue_14 : decode cX3_markValue 14 = .ok (.invokespecial 78, 3) := by decide +kernel
theorem dX3_markValue_17 : decode cX3_markValue 17 = .ok (.athrow, 1) := by decide +kernel
theorem dX3_markValue_18 : decode cX3_markValue 18 = .ok (.aload_n 0, 1) := by decide +kernel
theorem dX3_markValue_19 : decode cX3_markValue 19 = .ok (.getfield 24, 3) := by decide +kernel
theorem dX3_markValue_22 : decode cX3_markValue 22 = .ok (.ireturn, 1) := by decide +kernel
theorem dX3_room_0 : decode cX3_room 0 = .ok (.aload_n 0, 1) := by decide +kernel
theorem dX3_room_1 : decode cX3_room 1 = .ok (.getfield 24, 3) := by decide +kernel
theorem dX3_room_4 : decode cX3_room 4 = .ok (.bipush 12, 2) := by decide +kernel
theorem dX3_room_6 : decode cX3_room 6 = .ok (.iadd, 1) := by decide +kernel
theorem dX3_room_7 : decode cX3_room 7 = .ok (.aload_n 0, 1) := by decide +kernel
theorem dX3_room_8 : decode cX3_room 8 = .ok (.getfield 56, 3) := by decide +kernel
theorem dX3_room_11 : decode cX3_room 11 = .ok (.isub, 1) := by decide +kernel
theorem dX3_room_12 : decode cX3_room 12 = .ok (.ireturn, 1) := by decide +kernel
theorem dX3_powerHolds_0 : decode cX3_powerHolds 0 = .ok (.aload_n 0, 1) := by decide +kernel
theorem dX3_powerHolds_1 : decode cX3_powerHolds 1 = .ok (.getfield 28, 3) := by decide +kernel
theorem dX3_powerHolds_4 : decode cX3_powerHolds 4 = .ok (.ifCond .ne 5, 3) := by decide +kernel
theorem dX3_powerHolds_7 : decode cX3_powerHolds 7 = .ok (.iconst 0, 1) := by decide +kernel
theorem dX3_powerHolds_8 : decode cX3_powerHolds 8 = .ok (.ireturn, 1) := by decide +kernel
theorem dX3_powerHolds_9 : decode cX3_powerHolds 9 = .ok (.aload_n 0, 1) := by decide +kernel
theorem dX3_powerHolds_10 : decode cX3_powerHolds 10 = .ok (.getfield 28, 3) := by decide +kernel
theorem dX3_powerHolds_13 : decode cX3_powerHolds 13 = .ok (.ifCond .le 13, 3) := by decide +kernel
theorem dX3_powerHolds_16 : decode cX3_powerHolds 16 = .ok (.aload_n 0, 1) := by decide +kernel
theorem dX3_powerHolds_17 : decode cX3_powerHolds 17 = .ok (.dup, 1) := by decide +kernel
theorem dX3_powerHolds_18 : decode cX3_powerHolds 18 = .ok (.getfield 28, 3) := by decide +kernel
theorem dX3_powerHolds_21 : decode cX3_powerHolds 21 = .ok (.iconst 1, 1) := by decide +kernel
theorem dX3_powerHolds_22 : decode cX3_powerHolds 22 = .ok (.isub, 1) := by decide +kernel
theorem dX3_powerHolds_23 : decode cX3_powerHolds 23 = .ok (.putfield 28, 3) := by decide +kernel
theorem dX3_powerHolds_26 : decode cX3_powerHolds 26 = .ok (.aload_n 0, 1) := by decide +kernel
theorem dX3_powerHolds_27 : decode cX3_powerHolds 27 = .ok (.dup, 1) := by decide +kernel
theorem dX3_powerHolds_28 : decode cX3_powerHolds 28 = .ok (.getfield 35, 3) := by decide +kernel
theorem dX3_powerHolds_31 : decode cX3_powerHolds 31 = .ok (.iconst 1, 1) := by decide +kernel
theorem dX3_powerHolds_32 : decode cX3_powerHolds 32 = .ok (.iadd, 1) := by decide +kernel
theorem dX3_powerHolds_33 : decode cX3_powerHolds 33 = .ok (.putfield 35, 3) := by decide +kernel
theorem dX3_powerHolds_36 : decode cX3_powerHolds 36 = .ok (.iconst 1, 1) := by decide +kernel
theorem dX3_powerHolds_37 : decode cX3_powerHolds 37 = .ok (.ireturn, 1) := by decide +kernel
theorem dX3_lose_0 : decode cX3_lose 0 = .ok (.aload_n 0, 1) := by decide +kernel
theorem dX3_lose_1 : decode cX3_lose 1 = .ok (.invokevirtual 124, 3) := by decide +kernel
theorem dX3_lose_4 : decode cX3_lose 4 = .ok (.bipush (-3), 2) := by decide +kernel
theorem dX3_lose_6 : decode cX3_lose 6 = .ok (.ireturn, 1) := by decide +kernel
theorem dX3_goDown_0 : decode cX3_goDown 0 = .ok (.iconst 0, 1) := by decide +kernel
theorem dX3_goDown_1 : decode cX3_goDown 1 = .ok (.istore_n 1, 1) := by decide +kernel
theorem dX3_goDown_2 : decode cX3_goDown 2 = .ok (.iload_n 1, 1) := by decide +kernel
theorem dX3_goDown_3 : decode cX3_goDown 3 = .ok (.iconst 4, 1) := by decide +kernel
theorem dX3_goDown_4 : decode cX3_goDown 4 = .ok (.if_icmp .ge 18, 3) := by decide +kernel
theorem dX3_goDown_7 : decode cX3_goDown 7 = .ok (.aload_n 0, 1) := by decide +kernel
theorem dX3_goDown_8 : decode cX3_goDown 8 = .ok (.getfield 46, 3) := by decide +kernel
theorem dX3_goDown_11 : decode cX3_goDown 11 = .ok (.iload_n 1, 1) := by decide +kernel
theorem dX3_goDown_12 : decode cX3_goDown 12 = .ok (.aaload, 1) := by decide +kernel
theorem dX3_goDown_13 : decode cX3_goDown 13 = .ok (.invokevirtual 155, 3) := by decide +kernel
theorem dX3_goDown_16 : decode cX3_goDown 16 = .ok (.iinc 1 1, 3) := by decide +kernel
theorem dX3_goDown_19 : decode cX3_goDown 19 = .ok (.goto (-17), 3) := by decide +kernel
theorem dX3_goDown_22 : decode cX3_goDown 22 = .ok (.aload_n 0, 1) := by decide +kernel
theorem dX3_goDown_23 : decode cX3_goDown 23 = .ok (.iconst 0, 1) := by decide +kernel
theorem dX3_goDown_24 : decode cX3_goDown 24 = .ok (.putfield 53, 3) := by decide +kernel
theorem dX3_goDown_27 : decode cX3_goDown 27 = .ok (.aload_n 0, 1) := by decide +kernel
theorem dX3_goDown_28 : decode cX3_goDown 28 = .ok (.iconst (-1), 1) := by decide +kernel
theorem dX3_goDown_29 : decode cX3_goDown 29 = .ok (.putfield 28, 3) := by decide +kernel
theorem dX3_goDown_32 : decode cX3_goDown 32 = .ok (.aload_n 0, 1) := by decide +kernel
theorem dX3_goDown_33 : decode cX3_goDown 33 = .ok (.iconst 1, 1) := by decide +kernel
theorem dX3_goDown_34 : decode cX3_goDown 34 = .ok (.putfield 31, 3) := by decide +kernel
theorem dX3_goDown_37 : decode cX3_goDown 37 = .ok (.return_, 1) := by decide +kernel
theorem dX3_logWaiting_0 : decode cX3_logWaiting 0 = .ok (.aload_n 0, 1) := by decide +kernel
theorem dX3_logWaiting_1 : decode cX3_logWaiting 1 = .ok (.getfield 53, 3) := by decide +kernel
theorem dX3_logWaiting_4 : decode cX3_logWaiting 4 = .ok (.istore_n 1, 1) := by decide +kernel
theorem dX3_logWaiting_5 : decode cX3_logWaiting 5 = .ok (.aload_n 0, 1) := by decide +kernel
theorem dX3_logWaiting_6 : decode cX3_logWaiting 6 = .ok (.getfield 56, 3) := by decide +kernel
theorem dX3_logWaiting_9 : decode cX3_logWaiting 9 = .ok (.istore_n 2, 1) := by decide +kernel
theorem dX3_logWaiting_10 : decode cX3_logWaiting 10 = .ok (.iload_n 2, 1) := by decide +kernel
theorem dX3_logWaiting_11 : decode cX3_logWaiting 11 = .ok (.iload_n 1, 1) := by decide +kernel
theorem dX3_logWaiting_12 : decode cX3_logWaiting 12 = .ok (.isub, 1) := by decide +kernel
theorem dX3_logWaiting_13 : decode cX3_logWaiting 13 = .ok (.istore_n 3, 1) := by decide +kernel
theorem dX3_logWaiting_14 : decode cX3_logWaiting 14 = .ok (.iload_n 3, 1) := by decide +kernel
theorem dX3_logWaiting_15 : decode cX3_logWaiting 15 = .ok (.iload_n 2, 1) := by decide +kernel
theorem dX3_logWaiting_16 : decode cX3_logWaiting 16 = .ok (.if_icmp .ge 44, 3) := by decide +kernel
theorem dX3_logWaiting_19 : decode cX3_logWaiting 19 = .ok (.aload_n 0, 1) := by decide +kernel
theorem dX3_logWaiting_20 : decode cX3_logWaiting 20 = .ok (.invokevirtual 158, 3) := by decide +kernel
theorem dX3_logWaiting_23 : decode cX3_logWaiting 23 = .ok (.ifCond .ne 6, 3) := by decide +kernel
theorem dX3_logWaiting_26 : decode cX3_logWaiting 26 = .ok (.bipush (-3), 2) := by decide +kernel
theorem dX3_logWaiting_28 : decode cX3_logWaiting 28 = .ok (.ireturn, 1) := by decide +kernel
theorem dX3_logWaiting_29 : decode cX3_logWaiting 29 = .ok (.iload_n 3, 1) := by decide +kernel
theorem dX3_logWaiting_30 : decode cX3_logWaiting 30 = .ok (.bipush 12, 2) := by decide +kernel
theorem dX3_logWaiting_32 : decode cX3_logWaiting 32 = .ok (.invokestatic 161, 3) := by decide +kernel
theorem dX3_logWaiting_35 : decode cX3_logWaiting 35 = .ok (.istore 4, 2) := by decide +kernel
theorem dX3_logWaiting_37 : decode cX3_logWaiting 37 = .ok (.aload_n 0, 1) := by decide +kernel
theorem dX3_logWaiting_38 : decode cX3_logWaiting 38 = .ok (.getfield 20, 3) := by decide +kernel
theorem dX3_logWaiting_41 : decode cX3_logWaiting 41 = .ok (.iload 4, 2) := by decide +kernel
theorem dX3_logWaiting_43 : decode cX3_logWaiting 43 = .ok (.aaload, 1) := by decide +kernel
theorem dX3_logWaiting_44 : decode cX3_logWaiting 44 = .ok (.aload_n 0, 1) := by decide +kernel
theorem dX3_logWaiting_45 : decode cX3_logWaiting 45 = .ok (.getfield 50, 3) := by decide +kernel
theorem dX3_logWaiting_48 : decode cX3_logWaiting 48 = .ok (.iload 4, 2) := by decide +kernel
theorem dX3_logWaiting_50 : decode cX3_logWaiting 50 = .ok (.aaload, 1) := by decide +kernel
theorem dX3_logWaiting_51 : decode cX3_logWaiting 51 = .ok (.invokevirtual 166, 3) := by decide +kernel
theorem dX3_logWaiting_54 : decode cX3_logWaiting 54 = .ok (.iinc 3 1, 3) := by decide +kernel
theorem dX3_logWaiting_57 : decode cX3_logWaiting 57 = .ok (.goto (-43), 3) := by decide +kernel
theorem dX3_logWaiting_60 : decode cX3_logWaiting 60 = .ok (.aload_n 0, 1) := by decide +kernel
theorem dX3_logWaiting_61 : decode cX3_logWaiting 61 = .ok (.iconst 0, 1) := by decide +kernel
theorem dX3_logWaiting_62 : decode cX3_logWaiting 62 = .ok (.putfield 53, 3) := by decide +kernel
theorem dX3_logWaiting_65 : decode cX3_logWaiting 65 = .ok (.iload_n 1, 1) := by decide +kernel
theorem dX3_logWaiting_66 : decode cX3_logWaiting 66 = .ok (.ireturn, 1) := by decide +kernel
theorem dX3_writePage_0 : decode cX3_writePage 0 = .ok (.iconst 0, 1) := by decide +kernel
theorem dX3_writePage_1 : decode cX3_writePage 1 = .ok (.istore 5, 2) := by decide +kernel
theorem dX3_writePage_3 : decode cX3_writePage 3 = .ok (.iload 5, 2) := by decide +kernel
theorem dX3_writePage_5 : decode cX3_writePage 5 = .ok (.iconst 4, 1) := by decide +kernel
theorem dX3_writePage_6 : decode cX3_writePage 6 = .ok (.if_icmp .ge 28, 3) := by decide +kernel
theorem dX3_writePage_9 : decode cX3_writePage 9 = .ok (.aload_n 0, 1) := by decide +kernel
theorem dX3_writePage_10 : decode cX3_writePage 10 = .ok (.invokevirtual 158, 3) := by decide +kernel
theorem dX3_writePage_13 : decode cX3_writePage 13 = .ok (.ifCond .ne 5, 3) := by decide +kernel
theorem dX3_writePage_16 : decode cX3_writePage 16 = .ok (.iconst 0, 1) := by decide +kernel
theorem dX3_writePage_17 : decode cX3_writePage 17 = .ok (.ireturn, 1) := by decide +kernel
theorem dX3_writePage_18 : decode cX3_writePage 18 = .ok (.aload_n 1, 1) := by decide +kernel
theorem dX3_writePage_19 : decode cX3_writePage 19 = .ok (.iload 5, 2) := by decide +kernel
theorem dX3_writePage_21 : decode cX3_writePage 21 = .ok (.iload_n 2, 1) := by decide +kernel
theorem dX3_writePage_22 : decode cX3_writePage 22 = .ok (.iload_n 3, 1) := by decide +kernel
theorem dX3_writePage_23 : decode cX3_writePage 23 = .ok (.aload 4, 2) := by decide +kernel
theorem dX3_writePage_25 : decode cX3_writePage 25 = .ok (.invokevirtual 170, 3) := by decide +kernel
theorem dX3_writePage_28 : decode cX3_writePage 28 = .ok (.iinc 5 1, 3) := by decide +kernel
theorem dX3_writePage_31 : decode cX3_writePage 31 = .ok (.goto (-28), 3) := by decide +kernel
theorem dX3_writePage_34 : decode cX3_writePage 34 = .ok (.iconst 1, 1) := by decide +kernel
theorem dX3_writePage_35 : decode cX3_writePage 35 = .ok (.ireturn, 1) := by decide +kernel
theorem dX3_cleanDirty_0 : decode cX3_cleanDirty 0 = .ok (.aload_n 0, 1) := by decide +kernel
theorem dX3_cleanDirty_1 : decode cX3_cleanDirty 1 = .ok (.invokevirtual 110, 3) := by decide +kernel
theorem dX3_cleanDirty_4 : decode cX3_cleanDirty 4 = .ok (.bipush (-3), 2) := by decide +kernel
theorem dX3_cleanDirty_6 : decode cX3_cleanDirty 6 = .ok (.if_icmp .ne 6, 3) := by decide +kernel
theorem dX3_cleanDirty_9 : decode cX3_cleanDirty 9 = .ok (.bipush (-3), 2) := by decide +kernel
theorem dX3_cleanDirty_11 : decode cX3_cleanDirty 11 = .ok (.ireturn, 1) := by decide +kernel
theorem dX3_cleanDirty_12 : decode cX3_cleanDirty 12 = .ok (.iconst 0, 1) := by decide +kernel
theorem dX3_cleanDirty_13 : decode cX3_cleanDirty 13 = .ok (.istore_n 3, 1) := by decide +kernel
theorem dX3_cleanDirty_14 : decode cX3_cleanDirty 14 = .ok (.iload_n 1, 1) := by decide +kernel
theorem dX3_cleanDirty_15 : decode cX3_cleanDirty 15 = .ok (.istore 4, 2) := by decide +kernel
theorem dX3_cleanDirty_17 : decode cX3_cleanDirty 17 = .ok (.iload 4, 2) := by decide +kernel
theorem dX3_cleanDirty_19 : decode cX3_cleanDirty 19 = .ok (.iload_n 2, 1) := by decide +kernel
theorem dX3_cleanDirty_20 : decode cX3_cleanDirty 20 = .ok (.if_icmp .gt 60, 3) := by decide +kernel
theorem dX3_cleanDirty_23 : decode cX3_cleanDirty 23 = .ok (.aload_n 0, 1) := by decide +kernel
theorem dX3_cleanDirty_24 : decode cX3_cleanDirty 24 = .ok (.getfield 46, 3) := by decide +kernel
end
section
theorem dX3_cleanDirty_27 : decode cX3_cleanDirty 27 = .ok (.iload 4, 2) := by decide +kernel
theorem dX3_cleanDirty_29 : decode cX3_cleanDirty 29 = .ok (.aaload, 1) := by decide +kernel
theorem dX3_cleanDirty_30 : decode cX3_cleanDirty 30 = .ok (.astore 5, 2) := by decide +kernel
theorem dX3_cleanDirty_32 : decode cX3_cleanDirty 32 = .ok (.aload 5, 2) := by decide +kernel
theorem dX3_cleanDirty_34 : decode cX3_cleanDirty 34 = .ok (.getfield 174, 3) := by decide +kernel
theorem dX3_cleanDirty_37 : decode cX3_cleanDirty 37 = .ok (.ifCond .eq 37, 3) := by decide +kernel
theorem dX3_cleanDirty_40 : decode cX3_cleanDirty 40 = .ok (.aload_n 0, 1) := by decide +kernel
theorem dX3_cleanDirty_41 : decode cX3_cleanDirty 41 = .ok (.aload_n 0, 1) := by decide +kernel
theorem dX3_cleanDirty_42 : decode cX3_cleanDirty 42 = .ok (.getfield 15, 3) := by decide +kernel
theorem dX3_cleanDirty_45 : decode cX3_cleanDirty 45 = .ok (.iload_n 3, 1) := by decide +kernel
theorem dX3_cleanDirty_46 : decode cX3_cleanDirty 46 = .ok (.aaload, 1) := by decide +kernel
theorem dX3_cleanDirty_47 : decode cX3_cleanDirty 47 = .ok (.aload 5, 2) := by decide +kernel
theorem dX3_cleanDirty_49 : decode cX3_cleanDirty 49 = .ok (.getfield 177, 3) := by decide +kernel
theorem dX3_cleanDirty_52 : decode cX3_cleanDirty 52 = .ok (.aload 5, 2) := by decide +kernel
theorem dX3_cleanDirty_54 : decode cX3_cleanDirty 54 = .ok (.getfield 180, 3) := by decide +kernel
theorem dX3_cleanDirty_57 : decode cX3_cleanDirty 57 = .ok (.aload 5, 2) := by decide +kernel
theorem dX3_cleanDirty_59 : decode cX3_cleanDirty 59 = .ok (.getfield 106, 3) := by decide +kernel
theorem dX3_cleanDirty_62 : decode cX3_cleanDirty 62 = .ok (.invokevirtual 183, 3) := by decide +kernel
theorem dX3_cleanDirty_65 : decode cX3_cleanDirty 65 = .ok (.ifCond .ne 6, 3) := by decide +kernel
theorem dX3_cleanDirty_68 : decode cX3_cleanDirty 68 = .ok (.bipush (-3), 2) := by decide +kernel
theorem dX3_cleanDirty_70 : decode cX3_cleanDirty 70 = .ok (.ireturn, 1) := by decide +kernel
theorem dX3_cleanDirty_71 : decode cX3_cleanDirty 71 = .ok (.iinc 3 1, 3) := by decide +kernel
theorem dX3_cleanDirty_74 : decode cX3_cleanDirty 74 = .ok (.iinc 4 1, 3) := by decide +kernel
theorem dX3_cleanDirty_77 : decode cX3_cleanDirty 77 = .ok (.goto (-60), 3) := by decide +kernel
theorem dX3_cleanDirty_80 : decode cX3_cleanDirty 80 = .ok (.aload_n 0, 1) := by decide +kernel
theorem dX3_cleanDirty_81 : decode cX3_cleanDirty 81 = .ok (.iload_n 1, 1) := by decide +kernel
theorem dX3_cleanDirty_82 : decode cX3_cleanDirty 82 = .ok (.iload_n 2, 1) := by decide +kernel
theorem dX3_cleanDirty_83 : decode cX3_cleanDirty 83 = .ok (.invokevirtual 187, 3) := by decide +kernel
theorem dX3_cleanDirty_86 : decode cX3_cleanDirty 86 = .ok (.ifCond .ne 6, 3) := by decide +kernel
theorem dX3_cleanDirty_89 : decode cX3_cleanDirty 89 = .ok (.bipush (-3), 2) := by decide +kernel
theorem dX3_cleanDirty_91 : decode cX3_cleanDirty 91 = .ok (.ireturn, 1) := by decide +kernel
theorem dX3_cleanDirty_92 : decode cX3_cleanDirty 92 = .ok (.iload_n 1, 1) := by decide +kernel
theorem dX3_cleanDirty_93 : decode cX3_cleanDirty 93 = .ok (.istore 4, 2) := by decide +kernel
theorem dX3_cleanDirty_95 : decode cX3_cleanDirty 95 = .ok (.iload 4, 2) := by decide +kernel
theorem dX3_cleanDirty_97 : decode cX3_cleanDirty 97 = .ok (.iload_n 2, 1) := by decide +kernel
theorem dX3_cleanDirty_98 : decode cX3_cleanDirty 98 = .ok (.if_icmp .gt 20, 3) := by decide +kernel
theorem dX3_cleanDirty_101 : decode cX3_cleanDirty 101 = .ok (.aload_n 0, 1) := by decide +kernel
theorem dX3_cleanDirty_102 : decode cX3_cleanDirty 102 = .ok (.getfield 46, 3) := by decide +kernel
theorem dX3_cleanDirty_105 : decode cX3_cleanDirty 105 = .ok (.iload 4, 2) := by decide +kernel
theorem dX3_cleanDirty_107 : decode cX3_cleanDirty 107 = .ok (.aaload, 1) := by decide +kernel
theorem dX3_cleanDirty_108 : decode cX3_cleanDirty 108 = .ok (.iconst 0, 1) := by decide +kernel
theorem dX3_cleanDirty_109 : decode cX3_cleanDirty 109 = .ok (.putfield 174, 3) := by decide +kernel
theorem dX3_cleanDirty_112 : decode cX3_cleanDirty 112 = .ok (.iinc 4 1, 3) := by decide +kernel
theorem dX3_cleanDirty_115 : decode cX3_cleanDirty 115 = .ok (.goto (-20), 3) := by decide +kernel
theorem dX3_cleanDirty_118 : decode cX3_cleanDirty 118 = .ok (.aload_n 0, 1) := by decide +kernel
theorem dX3_cleanDirty_119 : decode cX3_cleanDirty 119 = .ok (.dup, 1) := by decide +kernel
theorem dX3_cleanDirty_120 : decode cX3_cleanDirty 120 = .ok (.getfield 38, 3) := by decide +kernel
theorem dX3_cleanDirty_123 : decode cX3_cleanDirty 123 = .ok (.iload_n 3, 1) := by decide +kernel
theorem dX3_cleanDirty_124 : decode cX3_cleanDirty 124 = .ok (.iadd, 1) := by decide +kernel
theorem dX3_cleanDirty_125 : decode cX3_cleanDirty 125 = .ok (.putfield 38, 3) := by decide +kernel
theorem dX3_cleanDirty_128 : decode cX3_cleanDirty 128 = .ok (.iload_n 3, 1) := by decide +kernel
theorem dX3_cleanDirty_129 : decode cX3_cleanDirty 129 = .ok (.ireturn, 1) := by decide +kernel
theorem dX3_writeDirtyHome_0 : decode cX3_writeDirtyHome 0 = .ok (.iload_n 1, 1) := by decide +kernel
theorem dX3_writeDirtyHome_1 : decode cX3_writeDirtyHome 1 = .ok (.istore_n 3, 1) := by decide +kernel
theorem dX3_writeDirtyHome_2 : decode cX3_writeDirtyHome 2 = .ok (.iload_n 3, 1) := by decide +kernel
theorem dX3_writeDirtyHome_3 : decode cX3_writeDirtyHome 3 = .ok (.iload_n 2, 1) := by decide +kernel
theorem dX3_writeDirtyHome_4 : decode cX3_writeDirtyHome 4 = .ok (.if_icmp .gt 59, 3) := by decide +kernel
theorem dX3_writeDirtyHome_7 : decode cX3_writeDirtyHome 7 = .ok (.aload_n 0, 1) := by decide +kernel
theorem dX3_writeDirtyHome_8 : decode cX3_writeDirtyHome 8 = .ok (.getfield 46, 3) := by decide +kernel
theorem dX3_writeDirtyHome_11 : decode cX3_writeDirtyHome 11 = .ok (.iload_n 3, 1) := by decide +kernel
theorem dX3_writeDirtyHome_12 : decode cX3_writeDirtyHome 12 = .ok (.aaload, 1) := by decide +kernel
theorem dX3_writeDirtyHome_13 : decode cX3_writeDirtyHome 13 = .ok (.astore 4, 2) := by decide +kernel
theorem dX3_writeDirtyHome_15 : decode cX3_writeDirtyHome 15 = .ok (.aload 4, 2) := by decide +kernel
theorem dX3_writeDirtyHome_17 : decode cX3_writeDirtyHome 17 = .ok (.getfield 174, 3) := by decide +kernel
theorem dX3_writeDirtyHome_20 : decode cX3_writeDirtyHome 20 = .ok (.ifCond .eq 37, 3) := by decide +kernel
theorem dX3_writeDirtyHome_23 : decode cX3_writeDirtyHome 23 = .ok (.aload_n 0, 1) := by decide +kernel
theorem dX3_writeDirtyHome_24 : decode cX3_writeDirtyHome 24 = .ok (.aload_n 0, 1) := by decide +kernel
theorem dX3_writeDirtyHome_25 : decode cX3_writeDirtyHome 25 = .ok (.getfield 11, 3) := by decide +kernel
theorem dX3_writeDirtyHome_28 : decode cX3_writeDirtyHome 28 = .ok (.aload 4, 2) := by decide +kernel
theorem dX3_writeDirtyHome_30 : decode cX3_writeDirtyHome 30 = .ok (.getfield 177, 3) := by decide +kernel
theorem dX3_writeDirtyHome_33 : decode cX3_writeDirtyHome 33 = .ok (.aaload, 1) := by decide +kernel
theorem dX3_writeDirtyHome_34 : decode cX3_writeDirtyHome 34 = .ok (.aload 4, 2) := by decide +kernel
theorem dX3_writeDirtyHome_36 : decode cX3_writeDirtyHome 36 = .ok (.getfield 177, 3) := by decide +kernel
theorem dX3_writeDirtyHome_39 : decode cX3_writeDirtyHome 39 = .ok (.aload 4, 2) := by decide +kernel
theorem dX3_writeDirtyHome_41 : decode cX3_writeDirtyHome 41 = .ok (.getfield 180, 3) := by decide +kernel
theorem dX3_writeDirtyHome_44 : decode cX3_writeDirtyHome 44 = .ok (.aload 4, 2) := by decide +kernel
theorem dX3_writeDirtyHome_46 : decode cX3_writeDirtyHome 46 = .ok (.getfield 106, 3) := by decide +kernel
theorem dX3_writeDirtyHome_49 : decode cX3_writeDirtyHome 49 = .ok (.invokevirtual 183, 3) := by decide +kernel
theorem dX3_writeDirtyHome_52 : decode cX3_writeDirtyHome 52 = .ok (.ifCond .ne 5, 3) := by decide +kernel
theorem dX3_writeDirtyHome_55 : decode cX3_writeDirtyHome 55 = .ok (.iconst 0, 1) := by decide +kernel
theorem dX3_writeDirtyHome_56 : decode cX3_writeDirtyHome 56 = .ok (.ireturn, 1) := by decide +kernel
theorem dX3_writeDirtyHome_57 : decode cX3_writeDirtyHome 57 = .ok (.iinc 3 1, 3) := by decide +kernel
theorem dX3_writeDirtyHome_60 : decode cX3_writeDirtyHome 60 = .ok (.goto (-58), 3) := by decide +kernel
theorem dX3_writeDirtyHome_63 : decode cX3_writeDirtyHome 63 = .ok (.iconst 1, 1) := by decide +kernel
theorem dX3_writeDirtyHome_64 : decode cX3_writeDirtyHome 64 = .ok (.ireturn, 1) := by decide +kernel
theorem dX3_cleanAllAndMark_0 : decode cX3_cleanAllAndMark 0 = .ok (.aload_n 0, 1) := by decide +kernel
theorem dX3_cleanAllAndMark_1 : decode cX3_cleanAllAndMark 1 = .ok (.iconst 0, 1) := by decide +kernel
theorem dX3_cleanAllAndMark_2 : decode cX3_cleanAllAndMark 2 = .ok (.iconst 3, 1) := by decide +kernel
theorem dX3_cleanAllAndMark_3 : decode cX3_cleanAllAndMark 3 = .ok (.invokevirtual 190, 3) := by decide +kernel
theorem dX3_cleanAllAndMark_6 : decode cX3_cleanAllAndMark 6 = .ok (.istore_n 1, 1) := by decide +kernel
theorem dX3_cleanAllAndMark_7 : decode cX3_cleanAllAndMark 7 = .ok (.iload_n 1, 1) := by decide +kernel
theorem dX3_cleanAllAndMark_8 : decode cX3_cleanAllAndMark 8 = .ok (.bipush (-3), 2) := by decide +kernel
theorem dX3_cleanAllAndMark_10 : decode cX3_cleanAllAndMark 10 = .ok (.if_icmp .eq 10, 3) := by decide +kernel
theorem dX3_cleanAllAndMark_13 : decode cX3_cleanAllAndMark 13 = .ok (.aload_n 0, 1) := by decide +kernel
theorem dX3_cleanAllAndMark_14 : decode cX3_cleanAllAndMark 14 = .ok (.invokevirtual 158, 3) := by decide +kernel
theorem dX3_cleanAllAndMark_17 : decode cX3_cleanAllAndMark 17 = .ok (.ifCond .ne 6, 3) := by decide +kernel
theorem dX3_cleanAllAndMark_20 : decode cX3_cleanAllAndMark 20 = .ok (.bipush (-3), 2) := by decide +kernel
theorem dX3_cleanAllAndMark_22 : decode cX3_cleanAllAndMark 22 = .ok (.ireturn, 1) := by decide +kernel
theorem dX3_cleanAllAndMark_23 : decode cX3_cleanAllAndMark 23 = .ok (.aload_n 0, 1) := by decide +kernel
theorem dX3_cleanAllAndMark_24 : decode cX3_cleanAllAndMark 24 = .ok (.aload_n 0, 1) := by decide +kernel
theorem dX3_cleanAllAndMark_25 : decode cX3_cleanAllAndMark 25 = .ok (.getfield 56, 3) := by decide +kernel
theorem dX3_cleanAllAndMark_28 : decode cX3_cleanAllAndMark 28 = .ok (.putfield 24, 3) := by decide +kernel
theorem dX3_cleanAllAndMark_31 : decode cX3_cleanAllAndMark 31 = .ok (.iload_n 1, 1) := by decide +kernel
theorem dX3_cleanAllAndMark_32 : decode cX3_cleanAllAndMark 32 = .ok (.ireturn, 1) := by decide +kernel
theorem dX3_bring_0 : decode cX3_bring 0 = .ok (.aload_n 0, 1) := by decide +kernel
theorem dX3_bring_1 : decode cX3_bring 1 = .ok (.iload_n 1, 1) := by decide +kernel
theorem dX3_bring_2 : decode cX3_bring 2 = .ok (.invokevirtual 193, 3) := by decide +kernel
theorem dX3_bring_5 : decode cX3_bring 5 = .ok (.istore_n 2, 1) := by decide +kernel
theorem dX3_bring_6 : decode cX3_bring 6 = .ok (.iload_n 2, 1) := by decide +kernel
theorem dX3_bring_7 : decode cX3_bring 7 = .ok (.iconst (-1), 1) := by decide +kernel
theorem dX3_bring_8 : decode cX3_bring 8 = .ok (.if_icmp .ne 50, 3) := by decide +kernel
theorem dX3_bring_11 : decode cX3_bring 11 = .ok (.aload_n 0, 1) := by decide +kernel
theorem dX3_bring_12 : decode cX3_bring 12 = .ok (.invokevirtual 196, 3) := by decide +kernel
theorem dX3_bring_15 : decode cX3_bring 15 = .ok (.istore_n 2, 1) := by decide +kernel
theorem dX3_bring_16 : decode cX3_bring 16 = .ok (.aload_n 0, 1) := by decide +kernel
theorem dX3_bring_17 : decode cX3_bring 17 = .ok (.getfield 46, 3) := by decide +kernel
theorem dX3_bring_20 : decode cX3_bring 20 = .ok (.iload_n 2, 1) := by decide +kernel
theorem dX3_bring_21 : decode cX3_bring 21 = .ok (.aaload, 1) := by decide +kernel
theorem dX3_bring_22 : decode cX3_bring 22 = .ok (.getfield 174, 3) := by decide +kernel
theorem dX3_bring_25 : decode cX3_bring 25 = .ok (.ifCond .eq 17, 3) := by decide +kernel
theorem dX3_bring_28 : decode cX3_bring 28 = .ok (.aload_n 0, 1) := by decide +kernel
theorem dX3_bring_29 : decode cX3_bring 29 = .ok (.iload_n 2, 1) := by decide +kernel
theorem dX3_bring_30 : decode cX3_bring 30 = .ok (.iload_n 2, 1) := by decide +kernel
theorem dX3_bring_31 : decode cX3_bring 31 = .ok (.invokevirtual 190, 3) := by decide +kernel
theorem dX3_bring_34 : decode cX3_bring 34 = .ok (.bipush (-3), 2) := by decide +kernel
theorem dX3_bring_36 : decode cX3_bring 36 = .ok (.if_icmp .ne 6, 3) := by decide +kernel
theorem dX3_bring_39 : decode cX3_bring 39 = .ok (.bipush (-3), 2) := by decide +kernel
theorem dX3_bring_41 : decode cX3_bring 41 = .ok (.ireturn, 1) := by decide +kernel
theorem dX3_bring_42 : decode cX3_bring 42 = .ok (.aload_n 0, 1) := by decide +kernel
theorem dX3_bring_43 : decode cX3_bring 43 = .ok (.getfield 46, 3) := by decide +kernel
theorem dX3_bring_46 : decode cX3_bring 46 = .ok (.iload_n 2, 1) := by decide +kernel
theorem dX3_bring_47 : decode cX3_bring 47 = .ok (.aaload, 1) := by decide +kernel
theorem dX3_bring_48 : decode cX3_bring 48 = .ok (.iload_n 1, 1) := by decide +kernel
theorem dX3_bring_49 : decode cX3_bring 49 = .ok (.aload_n 0, 1) := by decide +kernel
theorem dX3_bring_50 : decode cX3_bring 50 = .ok (.getfield 11, 3) := by decide +kernel
theorem dX3_bring_53 : decode cX3_bring 53 = .ok (.iload_n 1, 1) := by decide +kernel
theorem dX3_bring_54 : decode cX3_bring 54 = .ok (.aaload, 1) := by decide +kernel
theorem dX3_bring_55 : decode cX3_bring 55 = .ok (.invokevirtual 199, 3) := by decide +kernel
theorem dX3_bring_58 : decode cX3_bring 58 = .ok (.aload_n 0, 1) := by decide +kernel
theorem dX3_bring_59 : decode cX3_bring 59 = .ok (.dup, 1) := by decide +kernel
theorem dX3_bring_60 : decode cX3_bring 60 = .ok (.getfield 59, 3) := by decide +kernel
theorem dX3_bring_63 : decode cX3_bring 63 = .ok (.iconst 1, 1) := by decide +kernel
theorem dX3_bring_64 : decode cX3_bring 64 = .ok (.iadd, 1) := by decide +kernel
theorem dX3_bring_65 : decode cX3_bring 65 = .ok (.putfield 59, 3) := by decide +kernel
theorem dX3_bring_68 : decode cX3_bring 68 = .ok (.aload_n 0, 1) := by decide +kernel
theorem dX3_bring_69 : decode cX3_bring 69 = .ok (.getfield 46, 3) := by decide +kernel
theorem dX3_bring_72 : decode cX3_bring 72 = .ok (.iload_n 2, 1) := by decide +kernel
theorem dX3_bring_73 : decode cX3_bring 73 = .ok (.aaload, 1) := by decide +kernel
theorem dX3_bring_74 : decode cX3_bring 74 = .ok (.aload_n 0, 1) := by decide +kernel
theorem dX3_bring_75 : decode cX3_bring 75 = .ok (.getfield 59, 3) := by decide +kernel
theorem dX3_bring_78 : decode cX3_bring 78 = .ok (.putfield 203, 3) := by decide +kernel
theorem dX3_bring_81 : decode cX3_bring 81 = .ok (.iload_n 2, 1) := by decide +kernel
theorem dX3_bring_82 : decode cX3_bring 82 = .ok (.ireturn, 1) := by decide +kernel
theorem dX3_frameOf_0 : decode cX3_frameOf 0 = .ok (.iconst 0, 1) := by decide +kernel
theorem dX3_frameOf_1 : decode cX3_frameOf 1 = .ok (.istore_n 2, 1) := by decide +kernel
theorem dX3_frameOf_2 : decode cX3_frameOf 2 = .ok (.iload_n 2, 1) := by decide +kernel
theorem dX3_frameOf_3 : decode cX3_frameOf 3 = .ok (.iconst 4, 1) := by decide +kernel
theorem dX3_frameOf_4 : decode cX3_frameOf 4 = .ok (.if_icmp .ge 24, 3) := by decide +kernel
theorem dX3_frameOf_7 : decode cX3_frameOf 7 = .ok (.aload_n 0, 1) := by decide +kernel
theorem dX3_frameOf_8 : decode cX3_frameOf 8 = .ok (.getfield 46, 3) := by decide +kernel
theorem dX3_frameOf_11 : decode cX3_frameOf 11 = .ok (.iload_n 2, 1) := by decide +kernel
theorem dX3_frameOf_12 : decode cX3_frameOf 12 = .ok (.aaload, 1) := by decide +kernel
theorem dX3_frameOf_13 : decode cX3_frameOf 13 = .ok (.getfield 177, 3) := by decide +kernel
theorem dX3_frameOf_16 : decode cX3_frameOf 16 = .ok (.iload_n 1, 1) := by decide +kernel
theorem dX3_frameOf_17 : decode cX3_frameOf 17 = .ok (.if_icmp .ne 5, 3) := by decide +kernel
theorem dX3_frameOf_20 : decode cX3_frameOf 20 = .ok (.iload_n 2, 1) := by decide +kernel
theorem dX3_frameOf_21 : decode cX3_frameOf 21 = .ok (.ireturn, 1) := by decide +kernel
theorem dX3_frameOf_22 : decode cX3_frameOf 22 = .ok (.iinc 2 1, 3) := by decide +kernel
theorem dX3_frameOf_25 : decode cX3_frameOf 25 = .ok (.goto (-23), 3) := by decide +kernel
theorem dX3_frameOf_28 : decode cX3_frameOf 28 = .ok (.iconst (-1), 1) := by decide +kernel
theorem dX3_frameOf_29 : decode cX3_frameOf 29 = .ok (.ireturn, 1) := by decide +kernel
theorem dX3_frameToFill_0 : decode cX3_frameToFill 0 = .ok (.iconst 0, 1) := by decide +kernel
theorem dX3_frameToFill_1 : decode cX3_frameToFill 1 = .ok (.istore_n 1, 1) := by decide +kernel
theorem dX3_frameToFill_2 : decode cX3_frameToFill 2 = .ok (.iconst 1, 1) := by decide +kernel
theorem dX3_frameToFill_3 : decode cX3_frameToFill 3 = .ok (.istore_n 2, 1) := by decide +kernel
theorem dX3_frameToFill_4 : decode cX3_frameToFill 4 = .ok (.iload_n 2, 1) := by decide +kernel
theorem dX3_frameToFill_5 : decode cX3_frameToFill 5 = .ok (.iconst 4, 1) := by decide +kernel
theorem dX3_frameToFill_6 : decode cX3_frameToFill 6 = .ok (.if_icmp .ge 32, 3) := by decide +kernel
theorem dX3_frameToFill_9 : decode cX3_frameToFill 9 = .ok (.aload_n 0, 1) := by decide +kernel
theorem dX3_frameToFill_10 : decode cX3_frameToFill 10 = .ok (.getfield 46, 3) := by decide +kernel
theorem dX3_frameToFill_13 : decode cX3_frameToFill 13 = .ok (.iload_n 2, 1) := by decide +kernel
theorem dX3_frameToFill_14 : decode cX3_frameToFill 14 = .ok (.aaload, 1) := by decide +kernel
theorem dX3_frameToFill_15 : decode cX3_frameToFill 15 = .ok (.getfield 203, 3) := by decide +kernel
theorem dX3_frameToFill_18 : decode cX3_frameToFill 18 = .ok (.aload_n 0, 1) := by decide +kernel
theorem dX3_frameToFill_19 : decode cX3_frameToFill 19 = .ok (.getfield 46, 3) := by decide +kernel
theorem dX3_frameToFill_22 : decode cX3_frameToFill 22 = .ok (.iload_n 1, 1) := by decide +kernel
theorem dX3_frameToFill_23 : decode cX3_frameToFill 23 = .ok (.aaload, 1) := by decide +kernel
theorem dX3_frameToFill_24 : decode cX3_frameToFill 24 = .ok (.getfield 203, 3) := by decide +kernel
theorem dX3_frameToFill_27 : decode cX3_frameToFill 27 = .ok (.if_icmp .ge 5, 3) := by decide +kernel
theorem dX3_frameToFill_30 : decode cX3_frameToFill 30 = .ok (.iload_n 2, 1) := by decide +kernel
theorem dX3_frameToFill_31 : decode cX3_frameToFill 31 = .ok (.istore_n 1, 1) := by decide +kernel
theorem dX3_frameToFill_32 : decode cX3_frameToFill 32 = .ok (.iinc 2 1, 3) := by decide +kernel
theorem dX3_frameToFill_35 : decode cX3_frameToFill 35 = .ok (.goto (-31), 3) := by decide +kernel
theorem dX3_frameToFill_38 : decode cX3_frameToFill 38 = .ok (.iload_n 1, 1) := by decide +kernel
theorem dX3_frameToFill_39 : decode cX3_frameToFill 39 = .ok (.ireturn, 1) := by decide +kernel
theorem dX3_changeWords_0 : decode cX3_changeWords 0 = .ok (.iload 4, 2) := by decide +kernel
theorem dX3_changeWords_2 : decode cX3_changeWords 2 = .ok (.istore 6, 2) := by decide +kernel
theorem dX3_changeWords_4 : decode cX3_changeWords 4 = .ok (.iload_n 2, 1) := by decide +kernel
theorem dX3_changeWords_5 : decode cX3_changeWords 5 = .ok (.istore 7, 2) := by decide +kernel
theorem dX3_changeWords_7 : decode cX3_changeWords 7 = .ok (.iload 7, 2) := by decide +kernel
theorem dX3_changeWords_9 : decode cX3_changeWords 9 = .ok (.iload_n 2, 1) := by decide +kernel
theorem dX3_changeWords_10 : decode cX3_changeWords 10 = .ok (.iload_n 3, 1) := by decide +kernel
theorem dX3_changeWords_11 : decode cX3_changeWords 11 = .ok (.iadd, 1) := by decide +kernel
theorem dX3_changeWords_12 : decode cX3_changeWords 12 = .ok (.if_icmp .ge 77, 3) := by decide +kernel
theorem dX3_changeWords_15 : decode cX3_changeWords 15 = .ok (.aload_n 0, 1) := by decide +kernel
theorem dX3_changeWords_16 : decode cX3_changeWords 16 = .ok (.getfield 50, 3) := by decide +kernel
theorem dX3_changeWords_19 : decode cX3_changeWords 19 = .ok (.aload_n 0, 1) := by decide +kernel
theorem dX3_changeWords_20 : decode cX3_changeWords 20 = .ok (.getfield 56, 3) := by decide +kernel
theorem dX3_changeWords_23 : decode cX3_changeWords 23 = .ok (.bipush 12, 2) := by decide +kernel
theorem dX3_changeWords_25 : decode cX3_changeWords 25 = .ok (.invokestatic 161, 3) := by decide +kernel
theorem dX3_changeWords_28 : decode cX3_changeWords 28 = .ok (.aaload, 1) := by decide +kernel
theorem dX3_changeWords_29 : decode cX3_changeWords 29 = .ok (.aload_n 0, 1) := by decide +kernel
theorem dX3_changeWords_30 : decode cX3_changeWords 30 = .ok (.getfield 56, 3) := by decide +kernel
theorem dX3_changeWords_33 : decode cX3_changeWords 33 = .ok (.aload_n 1, 1) := by decide +kernel
theorem dX3_changeWords_34 : decode cX3_changeWords 34 = .ok (.getfield 177, 3) := by decide +kernel
theorem dX3_changeWords_37 : decode cX3_changeWords 37 = .ok (.iload 7, 2) := by decide +kernel
theorem dX3_changeWords_39 : decode cX3_changeWords 39 = .ok (.iload 6, 2) := by decide +kernel
theorem dX3_changeWords_41 : decode cX3_changeWords 41 = .ok (.invokevirtual 206, 3) := by decide +kernel
theorem dX3_changeWords_44 : decode cX3_changeWords 44 = .ok (.aload_n 1, 1) := by decide +kernel
theorem dX3_changeWords_45 : decode cX3_changeWords 45 = .ok (.iload 7, 2) := by decide +kernel
theorem dX3_changeWords_47 : decode cX3_changeWords 47 = .ok (.iload 6, 2) := by decide +kernel
theorem dX3_changeWords_49 : decode cX3_changeWords 49 = .ok (.aload_n 0, 1) := by decide +kernel
theorem dX3_changeWords_50 : decode cX3_changeWords 50 = .ok (.getfield 56, 3) := by decide +kernel
theorem dX3_changeWords_53 : decode cX3_changeWords 53 = .ok (.invokevirtual 210, 3) := by decide +kernel
theorem dX3_changeWords_56 : decode cX3_changeWords 56 = .ok (.aload_n 0, 1) := by decide +kernel
theorem dX3_changeWords_57 : decode cX3_changeWords 57 = .ok (.dup, 1) := by decide +kernel
theorem dX3_changeWords_58 : decode cX3_changeWords 58 = .ok (.getfield 53, 3) := by decide +kernel
theorem dX3_changeWords_61 : decode cX3_changeWords 61 = .ok (.iconst 1, 1) := by decide +kernel
theorem dX3_changeWords_62 : decode cX3_changeWords 62 = .ok (.iadd, 1) := by decide +kernel
theorem dX3_changeWords_63 : decode cX3_changeWords 63 = .ok (.putfield 53, 3) := by decide +kernel
theorem dX3_changeWords_66 : decode cX3_changeWords 66 = .ok (.aload_n 0, 1) := by decide +kernel
theorem dX3_changeWords_67 : decode cX3_changeWords 67 = .ok (.dup, 1) := by decide +kernel
theorem dX3_changeWords_68 : decode cX3_changeWords 68 = .ok (.getfield 56, 3) := by decide +kernel
theorem dX3_changeWords_71 : decode cX3_changeWords 71 = .ok (.iconst 1, 1) := by decide +kernel
theorem dX3_changeWords_72 : decode cX3_changeWords 72 = .ok (.iadd, 1) := by decide +kernel
theorem dX3_changeWords_73 : decode cX3_changeWords 73 = .ok (.putfield 56, 3) := by decide +kernel
theorem dX3_changeWords_76 : decode cX3_changeWords 76 = .ok (.iload 6, 2) := by decide +kernel
theorem dX3_changeWords_78 : decode cX3_changeWords 78 = .ok (.iload 5, 2) := by decide +kernel
theorem dX3_changeWords_80 : decode cX3_changeWords 80 = .ok (.iadd, 1) := by decide +kernel
theorem dX3_changeWords_81 : decode cX3_changeWords 81 = .ok (.istore 6, 2) := by decide +kernel
theorem dX3_changeWords_83 : decode cX3_changeWords 83 = .ok (.iinc 7 1, 3) := by decide +kernel
theorem dX3_changeWords_86 : decode cX3_changeWords 86 = .ok (.goto (-79), 3) := by decide +kernel
theorem dX3_changeWords_89 : decode cX3_changeWords 89 = .ok (.return_, 1) := by decide +kernel
theorem dX3_mendHomes_0 : decode cX3_mendHomes 0 = .ok (.iconst 0, 1) := by decide +kernel
theorem dX3_mendHomes_1 : decode cX3_mendHomes 1 = .ok (.istore_n 1, 1) := by decide +kernel
theorem dX3_mendHomes_2 : decode cX3_mendHomes 2 = .ok (.iload_n 1, 1) := by decide +kernel
theorem dX3_mendHomes_3 : decode cX3_mendHomes 3 = .ok (.bipush 12, 2) := by decide +kernel
theorem dX3_mendHomes_5 : decode cX3_mendHomes 5 = .ok (.if_icmp .ge 75, 3) := by decide +kernel
theorem dX3_mendHomes_8 : decode cX3_mendHomes 8 = .ok (.aload_n 0, 1) := by decide +kernel
theorem dX3_mendHomes_9 : decode cX3_mendHomes 9 = .ok (.getfield 11, 3) := by decide +kernel
theorem dX3_mendHomes_12 : decode cX3_mendHomes 12 = .ok (.iload_n 1, 1) := by decide +kernel
theorem dX3_mendHomes_13 : decode cX3_mendHomes 13 = .ok (.aaload, 1) := by decide +kernel
theorem dX3_mendHomes_14 : decode cX3_mendHomes 14 = .ok (.invokevirtual 214, 3) := by decide +kernel
theorem dX3_mendHomes_17 : decode cX3_mendHomes 17 = .ok (.ifCond .ne 57, 3) := by decide +kernel
theorem dX3_mendHomes_20 : decode cX3_mendHomes 20 = .ok (.aload_n 0, 1) := by decide +kernel
theorem dX3_mendHomes_21 : decode cX3_mendHomes 21 = .ok (.iload_n 1, 1) := by decide +kernel
theorem dX3_mendHomes_22 : decode cX3_mendHomes 22 = .ok (.invokevirtual 217, 3) := by decide +kernel
theorem dX3_mendHomes_25 : decode cX3_mendHomes 25 = .ok (.istore_n 2, 1) := by decide +kernel
theorem dX3_mendHomes_26 : decode cX3_mendHomes 26 = .ok (.iload_n 2, 1) := by decide +kernel
theorem dX3_mendHomes_27 : decode cX3_mendHomes 27 = .ok (.iconst (-1), 1) := by decide +kernel
theorem dX3_mendHomes_28 : decode cX3_mendHomes 28 = .ok (.if_icmp .eq 46, 3) := by decide +kernel
theorem dX3_mendHomes_31 : decode cX3_mendHomes 31 = .ok (.aload_n 0, 1) := by decide +kernel
theorem dX3_mendHomes_32 : decode cX3_mendHomes 32 = .ok (.getfield 15, 3) := by decide +kernel
theorem dX3_mendHomes_35 : decode cX3_mendHomes 35 = .ok (.iload_n 2, 1) := by decide +kernel
theorem dX3_mendHomes_36 : decode cX3_mendHomes 36 = .ok (.aaload, 1) := by decide +kernel
theorem dX3_mendHomes_37 : decode cX3_mendHomes 37 = .ok (.astore_n 3, 1) := by decide +kernel
theorem dX3_mendHomes_38 : decode cX3_mendHomes 38 = .ok (.aload_n 0, 1) := by decide +kernel
theorem dX3_mendHomes_39 : decode cX3_mendHomes 39 = .ok (.aload_n 0, 1) := by decide +kernel
theorem dX3_mendHomes_40 : decode cX3_mendHomes 40 = .ok (.getfield 11, 3) := by decide +kernel
theorem dX3_mendHomes_43 : decode cX3_mendHomes 43 = .ok (.iload_n 1, 1) := by decide +kernel
theorem dX3_mendHomes_44 : decode cX3_mendHomes 44 = .ok (.aaload, 1) := by decide +kernel
theorem dX3_mendHomes_45 : decode cX3_mendHomes 45 = .ok (.iload_n 1, 1) := by decide +kernel
theorem dX3_mendHomes_46 : decode cX3_mendHomes 46 = .ok (.aload_n 3, 1) := by decide +kernel
theorem dX3_mendHomes_47 : decode cX3_mendHomes 47 = .ok (.getfield 220, 3) := by decide +kernel
theorem dX3_mendHomes_50 : decode cX3_mendHomes 50 = .ok (.iconst 0, 1) := by decide +kernel
theorem dX3_mendHomes_51 : decode cX3_mendHomes 51 = .ok (.iaload, 1) := by decide +kernel
theorem dX3_mendHomes_52 : decode cX3_mendHomes 52 = .ok (.aload_n 3, 1) := by decide +kernel
theorem dX3_mendHomes_53 : decode cX3_mendHomes 53 = .ok (.getfield 223, 3) := by decide +kernel
theorem dX3_mendHomes_56 : decode cX3_mendHomes 56 = .ok (.invokevirtual 183, 3) := by decide +kernel
theorem dX3_mendHomes_59 : decode cX3_mendHomes 59 = .ok (.ifCond .ne 5, 3) := by decide +kernel
theorem dX3_mendHomes_62 : decode cX3_mendHomes 62 = .ok (.iconst 0, 1) := by decide +kernel
theorem dX3_mendHomes_63 : decode cX3_mendHomes 63 = .ok (.ireturn, 1) := by decide +kernel
theorem dX3_mendHomes_64 : decode cX3_mendHomes 64 = .ok (.aload_n 0, 1) := by decide +kernel
theorem dX3_mendHomes_65 : decode cX3_mendHomes 65 = .ok (.dup, 1) := by decide +kernel
theorem dX3_mendHomes_66 : decode cX3_mendHomes 66 = .ok (.getfield 41, 3) := by decide +kernel
theorem dX3_mendHomes_69 : decode cX3_mendHomes 69 = .ok (.iconst 1, 1) := by decide +kernel
theorem dX3_mendHomes_70 : decode cX3_mendHomes 70 = .ok (.iadd, 1) := by decide +kernel
theorem dX3_mendHomes_71 : decode cX3_mendHomes 71 = .ok (.putfield 41, 3) := by decide +kernel
theorem dX3_mendHomes_74 : decode cX3_mendHomes 74 = .ok (.iinc 1 1, 3) := by decide +kernel
theorem dX3_mendHomes_77 : decode cX3_mendHomes 77 = .ok (.goto (-75), 3) := by decide +kernel
theorem dX3_mendHomes_80 : decode cX3_mendHomes 80 = .ok (.iconst 1, 1) := by decide +kernel
theorem dX3_mendHomes_81 : decode cX3_mendHomes 81 = .ok (.ireturn, 1) := by decide +kernel
theorem dX3_slotToMendFrom_0 : decode cX3_slotToMendFrom 0 = .ok (.iconst (-1), 1) := by decide +kernel
theorem dX3_slotToMendFrom_1 : decode cX3_slotToMendFrom 1 = .ok (.istore_n 2, 1) := by decide +kernel
theorem dX3_slotToMendFrom_2 : decode cX3_slotToMendFrom 2 = .ok (.iconst 0, 1) := by decide +kernel
theorem dX3_slotToMendFrom_3 : decode cX3_slotToMendFrom 3 = .ok (.istore_n 3, 1) := by decide +kernel
theorem dX3_slotToMendFrom_4 : decode cX3_slotToMendFrom 4 = .ok (.iload_n 3, 1) := by decide +kernel
theorem dX3_slotToMendFrom_5 : decode cX3_slotToMendFrom 5 = .ok (.iconst 4, 1) := by decide +kernel
theorem dX3_slotToMendFrom_6 : decode cX3_slotToMendFrom 6 = .ok (.if_icmp .ge 64, 3) := by decide +kernel
theorem dX3_slotToMendFrom_9 : decode cX3_slotToMendFrom 9 = .ok (.aload_n 0, 1) := by decide +kernel
theorem dX3_slotToMendFrom_10 : decode cX3_slotToMendFrom 10 = .ok (.getfield 15, 3) := by decide +kernel
theorem dX3_slotToMendFrom_13 : decode cX3_slotToMendFrom 13 = .ok (.iload_n 3, 1) := by decide +kernel
theorem dX3_slotToMendFrom_14 : decode cX3_slotToMendFrom 14 = .ok (.aaload, 1) := by decide +kernel
theorem dX3_slotToMendFrom_15 : decode cX3_slotToMendFrom 15 = .ok (.astore 4, 2) := by decide +kernel
theorem dX3_slotToMendFrom_17 : decode cX3_slotToMendFrom 17 = .ok (.aload 4, 2) := by decide +kernel
theorem dX3_slotToMendFrom_19 : decode cX3_slotToMendFrom 19 = .ok (.invokevirtual 214, 3) := by decide +kernel
theorem dX3_slotToMendFrom_22 : decode cX3_slotToMendFrom 22 = .ok (.ifCond .eq 42, 3) := by decide +kernel
theorem dX3_slotToMendFrom_25 : decode cX3_slotToMendFrom 25 = .ok (.aload 4, 2) := by decide +kernel
theorem dX3_slotToMendFrom_27 : decode cX3_slotToMendFrom 27 = .ok (.getfield 224, 3) := by decide +kernel
theorem dX3_slotToMendFrom_30 : decode cX3_slotToMendFrom 30 = .ok (.iconst 0, 1) := by decide +kernel
theorem dX3_slotToMendFrom_31 : decode cX3_slotToMendFrom 31 = .ok (.iaload, 1) := by decide +kernel
theorem dX3_slotToMendFrom_32 : decode cX3_slotToMendFrom 32 = .ok (.iload_n 1, 1) := by decide +kernel
theorem dX3_slotToMendFrom_33 : decode cX3_slotToMendFrom 33 = .ok (.if_icmp .ne 31, 3) := by decide +kernel
theorem dX3_slotToMendFrom_36 : decode cX3_slotToMendFrom 36 = .ok (.iload_n 2, 1) := by decide +kernel
theorem dX3_slotToMendFrom_37 : decode cX3_slotToMendFrom 37 = .ok (.iconst (-1), 1) := by decide +kernel
theorem dX3_slotToMendFrom_38 : decode cX3_slotToMendFrom 38 = .ok (.if_icmp .eq 24, 3) := by decide +kernel
theorem dX3_slotToMendFrom_41 : decode cX3_slotToMendFrom 41 = .ok (.aload 4, 2) := by decide +kernel
theorem dX3_slotToMendFrom_43 : decode cX3_slotToMendFrom 43 = .ok (.getfield 220, 3) := by decide +kernel
theorem dX3_slotToMendFrom_46 : decode cX3_slotToMendFrom 46 = .ok (.iconst 0, 1) := by decide +kernel
theorem dX3_slotToMendFrom_47 : decode cX3_slotToMendFrom 47 = .ok (.iaload, 1) := by decide +kernel
theorem dX3_slotToMendFrom_48 : decode cX3_slotToMendFrom 48 = .ok (.aload_n 0, 1) := by decide +kernel
theorem dX3_slotToMendFrom_49 : decode cX3_slotToMendFrom 49 = .ok (.getfield 15, 3) := by decide +kernel
theorem dX3_slotToMendFrom_52 : decode cX3_slotToMendFrom 52 = .ok (.iload_n 2, 1) := by decide +kernel
theorem dX3_slotToMendFrom_53 : decode cX3_slotToMendFrom 53 = .ok (.aaload, 1) := by decide +kernel
theorem dX3_slotToMendFrom_54 : decode cX3_slotToMendFrom 54 = .ok (.getfield 220, 3) := by decide +kernel
theorem dX3_slotToMendFrom_57 : decode cX3_slotToMendFrom 57 = .ok (.iconst 0, 1) := by decide +kernel
theorem dX3_slotToMendFrom_58 : decode cX3_slotToMendFrom 58 = .ok (.iaload, 1) := by decide +kernel
theorem dX3_slotToMendFrom_59 : decode cX3_slotToMendFrom 59 = .ok (.if_icmp .le 5, 3) := by decide +kernel
theorem dX3_slotToMendFrom_62 : decode cX3_slotToMendFrom 62 = .ok (.iload_n 3, 1) := by decide +kernel
theorem dX3_slotToMendFrom_63 : decode cX3_slotToMendFrom 63 = .ok (.istore_n 2, 1) := by decide +kernel
theorem dX3_slotToMendFrom_64 : decode cX3_slotToMendFrom 64 = .ok (.iinc 3 1, 3) := by decide +kernel
theorem dX3_slotToMendFrom_67 : decode cX3_slotToMendFrom 67 = .ok (.goto (-63), 3) := by decide +kernel
theorem dX3_slotToMendFrom_70 : decode cX3_slotToMendFrom 70 = .ok (.iload_n 2, 1) := by decide +kernel
theorem dX3_slotToMendFrom_71 : decode cX3_slotToMendFrom 71 = .ok (.ireturn, 1) := by decide +kernel
theorem dX3_redoLogged_0 : decode cX3_redoLogged 0 = .ok (.aload_n 0, 1) := by decide +kernel
theorem dX3_redoLogged_1 : decode cX3_redoLogged 1 = .ok (.getfield 24, 3) := by decide +kernel
theorem dX3_redoLogged_4 : decode cX3_redoLogged 4 = .ok (.bipush 12, 2) := by decide +kernel
theorem dX3_redoLogged_6 : decode cX3_redoLogged 6 = .ok (.iadd, 1) := by decide +kernel
theorem dX3_redoLogged_7 : decode cX3_redoLogged 7 = .ok (.istore_n 1, 1) := by decide +kernel
theorem dX3_redoLogged_8 : decode cX3_redoLogged 8 = .ok (.aload_n 0, 1) := by decide +kernel
theorem dX3_redoLogged_9 : decode cX3_redoLogged 9 = .ok (.getfield 24, 3) := by decide +kernel
theorem dX3_redoLogged_12 : decode cX3_redoLogged 12 = .ok (.istore_n 2, 1) := by decide +kernel
theorem dX3_redoLogged_13 : decode cX3_redoLogged 13 = .ok (.iload_n 2, 1) := by decide +kernel
theorem dX3_redoLogged_14 : decode cX3_redoLogged 14 = .ok (.iload_n 1, 1) := by decide +kernel
theorem dX3_redoLogged_15 : decode cX3_redoLogged 15 = .ok (.if_icmp .ge 84, 3) := by decide +kernel
theorem dX3_redoLogged_18 : decode cX3_redoLogged 18 = .ok (.aload_n 0, 1) := by decide +kernel
theorem dX3_redoLogged_19 : decode cX3_redoLogged 19 = .ok (.getfield 20, 3) := by decide +kernel
theorem dX3_redoLogged_22 : decode cX3_redoLogged 22 = .ok (.iload_n 2, 1) := by decide +kernel
theorem dX3_redoLogged_23 : decode cX3_redoLogged 23 = .ok (.bipush 12, 2) := by decide +kernel
theorem dX3_redoLogged_25 : decode cX3_redoLogged 25 = .ok (.invokestatic 161, 3) := by decide +kernel
theorem dX3_redoLogged_28 : decode cX3_redoLogged 28 = .ok (.aaload, 1) := by decide +kernel
theorem dX3_redoLogged_29 : decode cX3_redoLogged 29 = .ok (.astore_n 3, 1) := by decide +kernel
theorem dX3_redoLogged_30 : decode cX3_redoLogged 30 = .ok (.aload_n 3, 1) := by decide +kernel
theorem dX3_redoLogged_31 : decode cX3_redoLogged 31 = .ok (.getfield 227, 3) := by decide +kernel
theorem dX3_redoLogged_34 : decode cX3_redoLogged 34 = .ok (.iload_n 2, 1) := by decide +kernel
theorem dX3_redoLogged_35 : decode cX3_redoLogged 35 = .ok (.if_icmp .eq 5, 3) := by decide +kernel
theorem dX3_redoLogged_38 : decode cX3_redoLogged 38 = .ok (.iload_n 2, 1) := by decide +kernel
theorem dX3_redoLogged_39 : decode cX3_redoLogged 39 = .ok (.ireturn, 1) := by decide +kernel
theorem dX3_redoLogged_40 : decode cX3_redoLogged 40 = .ok (.aload_n 0, 1) := by decide +kernel
theorem dX3_redoLogged_41 : decode cX3_redoLogged 41 = .ok (.aload_n 3, 1) := by decide +kernel
theorem dX3_redoLogged_42 : decode cX3_redoLogged 42 = .ok (.getfield 230, 3) := by decide +kernel
theorem dX3_redoLogged_45 : decode cX3_redoLogged 45 = .ok (.invokevirtual 98, 3) := by decide +kernel
theorem dX3_redoLogged_48 : decode cX3_redoLogged 48 = .ok (.istore 4, 2) := by decide +kernel
theorem dX3_redoLogged_50 : decode cX3_redoLogged 50 = .ok (.iload 4, 2) := by decide +kernel
theorem dX3_redoLogged_52 : decode cX3_redoLogged 52 = .ok (.bipush (-3), 2) := by decide +kernel
theorem dX3_redoLogged_54 : decode cX3_redoLogged 54 = .ok (.if_icmp .ne 6, 3) := by decide +kernel
theorem dX3_redoLogged_57 : decode cX3_redoLogged 57 = .ok (.bipush (-3), 2) := by decide +kernel
theorem dX3_redoLogged_59 : decode cX3_redoLogged 59 = .ok (.ireturn, 1) := by decide +kernel
theorem dX3_redoLogged_60 : decode cX3_redoLogged 60 = .ok (.aload_n 0, 1) := by decide +kernel
theorem dX3_redoLogged_61 : decode cX3_redoLogged 61 = .ok (.getfield 46, 3) := by decide +kernel
theorem dX3_redoLogged_64 : decode cX3_redoLogged 64 = .ok (.iload 4, 2) := by decide +kernel
theorem dX3_redoLogged_66 : decode cX3_redoLogged 66 = .ok (.aaload, 1) := by decide +kernel
theorem dX3_redoLogged_67 : decode cX3_redoLogged 67 = .ok (.getfield 180, 3) := by decide +kernel
theorem dX3_redoLogged_70 : decode cX3_redoLogged 70 = .ok (.iload_n 2, 1) := by decide +kernel
theorem dX3_redoLogged_71 : decode cX3_redoLogged 71 = .ok (.if_icmp .ge 22, 3) := by decide +kernel
theorem dX3_redoLogged_74 : decode cX3_redoLogged 74 = .ok (.aload_n 0, 1) := by decide +kernel
theorem dX3_redoLogged_75 : decode cX3_redoLogged 75 = .ok (.getfield 46, 3) := by decide +kernel
theorem dX3_redoLogged_78 : decode cX3_redoLogged 78 = .ok (.iload 4, 2) := by decide +kernel
theorem dX3_redoLogged_80 : decode cX3_redoLogged 80 = .ok (.aaload, 1) := by decide +kernel
theorem dX3_redoLogged_81 : decode cX3_redoLogged 81 = .ok (.aload_n 3, 1) := by decide +kernel
theorem dX3_redoLogged_82 : decode cX3_redoLogged 82 = .ok (.getfield 231, 3) := by decide +kernel
theorem dX3_redoLogged_85 : decode cX3_redoLogged 85 = .ok (.aload_n 3, 1) := by decide +kernel
theorem dX3_redoLogged_86 : decode cX3_redoLogged 86 = .ok (.getfield 234, 3) := by decide +kernel
theorem dX3_redoLogged_89 : decode cX3_redoLogged 89 = .ok (.iload_n 2, 1) := by decide +kernel
theorem dX3_redoLogged_90 : decode cX3_redoLogged 90 = .ok (.invokevirtual 210, 3) := by decide +kernel
theorem dX3_redoLogged_93 : decode cX3_redoLogged 93 = .ok (.iinc 2 1, 3) := by decide +kernel
theorem dX3_redoLogged_96 : decode cX3_redoLogged 96 = .ok (.goto (-83), 3) := by decide +kernel
theorem dX3_redoLogged_99 : decode cX3_redoLogged 99 = .ok (.iload_n 1, 1) := by decide +kernel
theorem dX3_redoLogged_100 : decode cX3_redoLogged 100 = .ok (.ireturn, 1) := by decide +kernel
theorem dX4_init_0 : decode cX4_init 0 = .ok (.aload_n 0, 1) := by decide +kernel
theorem dX4_init_1 : decode cX4_init 1 = .ok (.invokespecial 1, 3) := by decide +kernel
theorem dX4_init_4 : decode cX4_init 4 = .ok (.aload_n 0, 1) := by decide +kernel
theorem dX4_init_5 : decode cX4_init 5 = .ok (.bipush 48, 2) := by decide +kernel
theorem dX4_init_7 : decode cX4_init 7 = .ok (.newarray .int, 2) := by decide +kernel
theorem dX4_init_9 : decode cX4_init 9 = .ok (.putfield 7, 3) := by decide +kernel
theorem dX4_init_12 : decode cX4_init 12 = .ok (.aload_n 0, 1) := by decide +kernel
theorem dX4_init_13 : decode cX4_init 13 = .ok (.sipush 192, 3) := by decide +kernel
theorem dX4_init_16 : decode cX4_init 16 = .ok (.newarray .int, 2) := by decide +kernel
theorem dX4_init_18 : decode cX4_init 18 = .ok (.putfield 13, 3) := by decide +kernel
theorem dX4_init_21 : decode cX4_init 21 = .ok (.aload_n 0, 1) := by decide +kernel
theorem dX4_init_22 : decode cX4_init 22 = .ok (.bipush 16, 2) := by decide +kernel
theorem dX4_init_24 : decode cX4_init 24 = .ok (.newarray .int, 2) := by decide +kernel
theorem dX4_init_26 : decode cX4_init 26 = .ok (.putfield 16, 3) := by decide +kernel
theorem dX4_init_29 : decode cX4_init 29 = .ok (.aload_n 0, 1) := by decide +kernel
theorem dX4_init_30 : decode cX4_init 30 = .ok (.bipush 16, 2) := by decide +kernel
theorem dX4_init_32 : decode cX4_init 32 = .ok (.newarray .int, 2) := by decide +kernel
theorem dX4_init_34 : decode cX4_init 34 = .ok (.putfield 19, 3) := by decide +kernel
theorem dX4_init_37 : decode cX4_init 37 = .ok (.aload_n 0, 1) := by decide +kernel
theorem dX4_init_38 : decode cX4_init 38 = .ok (.bipush 64, 2) := by decide +kernel
theorem dX4_init_40 : decode cX4_init 40 = .ok (.newarray .int, 2) := by decide +kernel
theorem dX4_init_42 : decode cX4_init 42 = .ok (.putfield 22, 3) := by decide +kernel
theorem dX4_init_45 : decode cX4_init 45 = .ok (.aload_n 0, 1) := by decide +kernel
theorem dX4_init_46 : decode cX4_init 46 = .ok (.bipush 12, 2) := by decide +kernel
theorem dX4_init_48 : decode cX4_init 48 = .ok (.newarray .int, 2) := by decide +kernel
theorem dX4_init_50 : decode cX4_init 50 = .ok (.putfield 25, 3) := by decide +kernel
theorem dX4_init_53 : decode cX4_init 53 = .ok (.aload_n 0, 1) := by decide +kernel
theorem dX4_init_54 : decode cX4_init 54 = .ok (.bipush 12, 2) := by decide +kernel
theorem dX4_init_56 : decode cX4_init 56 = .ok (.newarray .int, 2) := by decide +kernel
theorem dX4_init_58 : decode cX4_init 58 = .ok (.putfield 28, 3) := by decide +kernel
theorem dX4_init_61 : decode cX4_init 61 = .ok (.aload_n 0, 1) := by decide +kernel
theorem dX4_init_62 : decode cX4_init 62 = .ok (.bipush 12, 2) := by decide +kernel
theorem dX4_init_64 : decode cX4_init 64 = .ok (.newarray .int, 2) := by decide +kernel
theorem dX4_init_66 : decode cX4_init 66 = .ok (.putfield 31, 3) := by decide +kernel
theorem dX4_init_69 : decode cX4_init 69 = .ok (.aload_n 0, 1) := by decide +kernel
theorem dX4_init_70 : decode cX4_init 70 = .ok (.bipush 12, 2) := by decide +kernel
theorem dX4_init_72 : decode cX4_init 72 = .ok (.newarray .int, 2) := by decide +kernel
theorem dX4_init_74 : decode cX4_init 74 = .ok (.putfield 34, 3) := by decide +kernel
theorem dX4_init_77 : decode cX4_init 77 = .ok (.aload_n 0, 1) := by decide +kernel
theorem dX4_init_78 : decode cX4_init 78 = .ok (.iconst 1, 1) := by decide +kernel
theorem dX4_init_79 : decode cX4_init 79 = .ok (.putfield 37, 3) := by decide +kernel
theorem dX4_init_82 : decode cX4_init 82 = .ok (.aload_n 0, 1) := by decide +kernel
theorem dX4_init_83 : decode cX4_init 83 = .ok (.iconst 4, 1) := by decide +kernel
theorem dX4_init_84 : decode cX4_init 84 = .ok (.newarray .int, 2) := by decide +kernel
theorem dX4_init_86 : decode cX4_init 86 = .ok (.dup, 1) := by decide +kernel
theorem dX4_init_87 : decode cX4_init 87 = .ok (.iconst 0, 1) := by decide +kernel
theorem dX4_init_88 : decode cX4_init 88 = .ok (.iconst (-1), 1) := by decide +kernel
theorem dX4_init_89 : decode cX4_init 89 = .ok (.iastore, 1) := by decide +kernel
theorem dX4_init_90 : decode cX4_init 90 = .ok (.dup, 1) := by decide +kernel
theorem dX4_init_91 : decode cX4_init 91 = .ok (.iconst 1, 1) := by decide +kernel
theorem dX4_init_92 : decode cX4_init 92 = .ok (.iconst (-1), 1) := by decide +kernel
theorem dX4_init_93 : decode cX4_init 93 = .ok (.iastore, 1) := by decide +kernel
theorem dX4_init_94 : decode cX4_init 94 = .ok (.dup, 1) := by decide +kernel
theorem dX4_init_95 : decode cX4_init 95 = .ok (.iconst 2, 1) := by decide +kernel
theorem dX4_init_96 : decode cX4_init 96 = .ok (.iconst (-1), 1) := by decide +kernel
theorem dX4_init_97 : decode cX4_init 97 = .ok (.iastore, 1) := by decide +kernel
theorem dX4_init_98 : decode cX4_init 98 = .ok (.dup, 1) := by decide +kernel
theorem dX4_init_99 : decode cX4_init 99 = .ok (.iconst 3, 1) := by decide +kernel
theorem dX4_init_100 : decode cX4_init 100 = .ok (.iconst (-1), 1) := by decide +kernel
theorem dX4_init_101 : decode cX4_init 101 = .ok (.iastore, 1) := by decide +kernel
theorem dX4_init_102 : decode cX4_init 102 = .ok (.putfield 41, 3) := by decide +kernel
theorem dX4_init_105 : decode cX4_init 105 = .ok (.aload_n 0, 1) := by decide +kernel
theorem dX4_init_106 : decode cX4_init 106 = .ok (.iconst 4, 1) := by decide +kernel
theorem dX4_init_107 : decode cX4_init 107 = .ok (.newarray .int, 2) := by decide +kernel
theorem dX4_init_109 : decode cX4_init 109 = .ok (.putfield 44, 3) := by decide +kernel
theorem dX4_init_112 : decode cX4_init 112 = .ok (.aload_n 0, 1) := by decide +kernel
theorem dX4_init_113 : decode cX4_init 113 = .ok (.iconst 4, 1) := by decide +kernel
theorem dX4_init_114 : decode cX4_init 114 = .ok (.newarray .boolean, 2) := by decide +kernel
theorem dX4_init_116 : decode cX4_init 116 = .ok (.putfield 47, 3) := by decide +kernel
theorem dX4_init_119 : decode cX4_init 119 = .ok (.aload_n 0, 1) := by decide +kernel
theorem dX4_init_120 : decode cX4_init 120 = .ok (.iconst 4, 1) := by decide +kernel
theorem dX4_init_121 : decode cX4_init 121 = .ok (.newarray .int, 2) := by decide +kernel
theorem dX4_init_123 : decode cX4_init 123 = .ok (.putfield 51, 3) := by decide +kernel
theorem dX4_init_126 : decode cX4_init 126 = .ok (.aload_n 0, 1) := by decide +kernel
theorem dX4_init_127 : decode cX4_init 127 = .ok (.bipush 64, 2) := by decide +kernel
theorem dX4_init_129 : decode cX4_init 129 = .ok (.newarray .int, 2) := by decide +kernel
theorem dX4_init_131 : decode cX4_init 131 = .ok (.putfield 54, 3) := by decide +kernel
theorem dX4_init_134 : decode cX4_init 134 = .ok (.aload_n 0, 1) := by decide +kernel
theorem dX4_init_135 : decode cX4_init 135 = .ok (.iconst 1, 1) := by decide +kernel
theorem dX4_init_136 : decode cX4_init 136 = .ok (.putfield 57, 3) := by decide +kernel
theorem dX4_init_139 : decode cX4_init 139 = .ok (.aload_n 0, 1) := by decide +kernel
theorem dX4_init_140 : decode cX4_init 140 = .ok (.bipush 16, 2) := by decide +kernel
theorem dX4_init_142 : decode cX4_init 142 = .ok (.newarray .int, 2) := by decide +kernel
theorem dX4_init_144 : decode cX4_init 144 = .ok (.putfield 60, 3) := by decide +kernel
theorem dX4_init_147 : decode cX4_init 147 = .ok (.aload_n 0, 1) := by decide +kernel
theorem dX4_init_148 : decode cX4_init 148 = .ok (.bipush 16, 2) := by decide +kernel
theorem dX4_init_150 : decode cX4_init 150 = .ok (.newarray .int, 2) := by decide +kernel
theorem dX4_init_152 : decode cX4_init 152 = .ok (.putfield 63, 3) := by decide +kernel
theorem dX4_init_155 : decode cX4_init 155 = .ok (.aload_n 0, 1) := by decide +kernel
theorem dX4_init_156 : decode cX4_init 156 = .ok (.bipush 16, 2) := by decide +kernel
theorem dX4_init_158 : decode cX4_init 158 = .ok (.newarray .int, 2) := by decide +kernel
theorem dX4_init_160 : decode cX4_init 160 = .ok (.putfield 66, 3) := by decide +kernel
theorem dX4_init_163 : decode cX4_init 163 = .ok (.aload_n 0, 1) := by decide +kernel
theorem dX4_init_164 : decode cX4_init 164 = .ok (.bipush 16, 2) := by decide +kernel
theorem dX4_init_166 : decode cX4_init 166 = .ok (.newarray .int, 2) := by decide +kernel
theorem dX4_init_168 : decode cX4_init 168 = .ok (.putfield 69, 3) := by decide +kernel
theorem dX4_init_171 : decode cX4_init 171 = .ok (.aload_n 0, 1) := by decide +kernel
theorem dX4_init_172 : decode cX4_init 172 = .ok (.iconst (-1), 1) := by decide +kernel
theorem dX4_init_173 : decode cX4_init 173 = .ok (.putfield 72, 3) := by decide +kernel
theorem dX4_init_176 : decode cX4_init 176 = .ok (.return_, 1) := by decide +kernel
theorem dX4_thrown_0 : decode cX4_thrown 0 = .ok (.aload_n 0, 1) := by decide +kernel
theorem dX4_thrown_1 : decode cX4_thrown 1 = .ok (.getfield 75, 3) := by decide +kernel
theorem dX4_thrown_4 : decode cX4_thrown 4 = .ok (.ireturn, 1) := by decide +kernel
theorem dX4_in_0 : decode cX4_in 0 = .ok (.iload_n 0, 1) := by decide +kernel
theorem dX4_in_1 : decode cX4_in 1 = .ok (.iload_n 1, 1) := by decide +kernel
theorem dX4_in_2 : decode cX4_in 2 = .ok (.if_icmp .lt 12, 3) := by decide +kernel
theorem dX4_in_5 : decode cX4_in 5 = .ok (.iload_n 0, 1) := by decide +kernel
theorem dX4_in_6 : decode cX4_in 6 = .ok (.iload_n 2, 1) := by decide +kernel
theorem dX4_in_7 : decode cX4_in 7 = .ok (.if_icmp .gt 7, 3) := by decide +kernel
theorem dX4_in_10 : decode cX4_in 10 = .ok (.iconst 1, 1) := by decide +kernel
theorem dX4_in_11 : decode cX4_in 11 = .ok (.goto 4, 3) := by decide +kernel
theorem dX4_in_14 : decode cX4_in 14 = .ok (.iconst 0, 1) := by decide +kernel
theorem dX4_in_15 : decode cX4_in 15 = .ok (.ireturn, 1) := by decide +kernel
theorem dX4_refuses_0 : decode cX4_refuses 0 = .ok (.aload_n 0, 1) := by decide +kernel
theorem dX4_refuses_1 : decode cX4_refuses 1 = .ok (.getfield 75, 3) := by decide +kernel
theorem dX4_refuses_4 : decode cX4_refuses 4 = .ok (.ifCond .ne 12, 3) := by decide +kernel
theorem dX4_refuses_7 : decode cX4_refuses 7 = .ok (.iload_n 1, 1) := by decide +kernel
theorem dX4_refuses_8 : decode cX4_refuses 8 = .ok (.ifCond .eq 8, 3) := by decide +kernel
theorem dX4_refuses_11 : decode cX4_refuses 11 = .ok (.aload_n 0, 1) := by decide +kernel
theorem dX4_refuses_12 : decode cX4_refuses 12 = .ok (.iload_n 2, 1) := by decide +kernel
theorem dX4_refuses_13 : decode cX4_refuses 13 = .ok (.putfield 75, 3) := by decide +kernel
theorem dX4_refuses_16 : decode cX4_refuses 16 = .ok (.aload_n 0, 1) := by decide +kernel
theorem dX4_refuses_17 : decode cX4_refuses 17 = .ok (.getfield 75, 3) := by decide +kernel
theorem dX4_refuses_20 : decode cX4_refuses 20 = .ok (.ifCond .le 7, 3) := by decide +kernel
theorem dX4_refuses_23 : decode cX4_refuses 23 = .ok (.iconst 1, 1) := by decide +kernel
theorem dX4_refuses_24 : decode cX4_refuses 24 = .ok (.goto 4, 3) := by decide +kernel
theorem dX4_refuses_27 : decode cX4_refuses 27 = .ok (.iconst 0, 1) := by decide +kernel
theorem dX4_refuses_28 : decode cX4_refuses 28 = .ok (.ireturn, 1) := by decide +kernel
theorem dX4_goDown_0 : decode cX4_goDown 0 = .ok (.aload_n 0, 1) := by decide +kernel
theorem dX4_goDown_1 : decode cX4_goDown 1 = .ok (.iconst (-1), 1) := by decide +kernel
theorem dX4_goDown_2 : decode cX4_goDown 2 = .ok (.putfield 72, 3) := by decide +kernel
theorem dX4_goDown_5 : decode cX4_goDown 5 = .ok (.aload_n 0, 1) := by decide +kernel
theorem dX4_goDown_6 : decode cX4_goDown 6 = .ok (.iconst 1, 1) := by decide +kernel
theorem dX4_goDown_7 : decode cX4_goDown 7 = .ok (.putfield 78, 3) := by decide +kernel
theorem dX4_goDown_10 : decode cX4_goDown 10 = .ok (.aload_n 0, 1) := by decide +kernel
theorem dX4_goDown_11 : decode cX4_goDown 11 = .ok (.iconst 0, 1) := by decide +kernel
theorem dX4_goDown_12 : decode cX4_goDown 12 = .ok (.putfield 82, 3) := by decide +kernel
theorem dX4_goDown_15 : decode cX4_goDown 15 = .ok (.iconst 0, 1) := by decide +kernel
theorem dX4_goDown_16 : decode cX4_goDown 16 = .ok (.istore_n 1, 1) := by decide +kernel
theorem dX4_goDown_17 : decode cX4_goDown 17 = .ok (.iload_n 1, 1) := by decide +kernel
theorem dX4_goDown_18 : decode cX4_goDown 18 = .ok (.iconst 4, 1) := by decide +kernel
theorem dX4_goDown_19 : decode cX4_goDown 19 = .ok (.if_icmp .ge 23, 3) := by decide +kernel
theorem dX4_goDown_22 : decode cX4_goDown 22 = .ok (.aload_n 0, 1) := by decide +kernel
theorem dX4_goDown_23 : decode cX4_goDown 23 = .ok (.getfield 41, 3) := by decide +kernel
theorem dX4_goDown_26 : decode cX4_goDown 26 = .ok (.iload_n 1, 1) := by decide +kernel
theorem dX4_goDown_27 : decode cX4_goDown 27 = .ok (.iconst (-1), 1) := by decide +kernel
theorem dX4_goDown_28 : decode cX4_goDown 28 = .ok (.iastore, 1) := by decide +kernel
theorem dX4_goDown_29 : decode cX4_goDown 29 = .ok (.aload_n 0, 1) := by decide +kernel
theorem dX4_goDown_30 : decode cX4_goDown 30 = .ok (.getfield 47, 3) := by decide +kernel
theorem dX4_goDown_33 : decode cX4_goDown 33 = .ok (.iload_n 1, 1) := by decide +kernel
theorem dX4_goDown_34 : decode cX4_goDown 34 = .ok (.iconst 0, 1) := by decide +kernel
theorem dX4_goDown_35 : decode cX4_goDown 35 = .ok (.bastore, 1) := by decide +kernel
theorem dX4_goDown_36 : decode cX4_goDown 36 = .ok (.iinc 1 1, 3) := by decide +kernel
theorem dX4_goDown_39 : decode cX4_goDown 39 = .ok (.goto (-22), 3) := by decide +kernel
theorem dX4_goDown_42 : decode cX4_goDown 42 = .ok (.return_, 1) := by decide +kernel
theorem dX4_mayWrite_0 : decode cX4_mayWrite 0 = .ok (.aload_n 0, 1) := by decide +kernel
theorem dX4_mayWrite_1 : decode cX4_mayWrite 1 = .ok (.getfield 72, 3) := by decide +kernel
theorem dX4_mayWrite_4 : decode cX4_mayWrite 4 = .ok (.ifCond .ne 9, 3) := by decide +kernel
theorem dX4_mayWrite_7 : decode cX4_mayWrite 7 = .ok (.aload_n 0, 1) := by decide +kernel
theorem dX4_mayWrite_8 : decode cX4_mayWrite 8 = .ok (.invokevirtual 85, 3) := by decide +kernel
theorem dX4_mayWrite_11 : decode cX4_mayWrite 11 = .ok (.iconst 0, 1) := by decide +kernel
theorem dX4_mayWrite_12 : decode cX4_mayWrite 12 = .ok (.ireturn, 1) := by decide +kernel
theorem dX4_mayWrite_13 : decode cX4_mayWrite 13 = .ok (.aload_n 0, 1) := by decide +kernel
theorem dX4_mayWrite_14 : decode cX4_mayWrite 14 = .ok (.dup, 1) := by decide +kernel
theorem dX4_mayWrite_15 : decode cX4_mayWrite 15 = .ok (.getfield 72, 3) := by decide +kernel
theorem dX4_mayWrite_18 : decode cX4_mayWrite 18 = .ok (.aload_n 0, 1) := by decide +kernel
theorem dX4_mayWrite_19 : decode cX4_mayWrite 19 = .ok (.getfield 72, 3) := by decide +kernel
theorem dX4_mayWrite_22 : decode cX4_mayWrite 22 = .ok (.ifCond .le 7, 3) := by decide +kernel
theorem dX4_mayWrite_25 : decode cX4_mayWrite 25 = .ok (.iconst 1, 1) := by decide +kernel
theorem dX4_mayWrite_26 : decode cX4_mayWrite 26 = .ok (.goto 4, 3) := by decide +kernel
theorem dX4_mayWrite_29 : decode cX4_mayWrite 29 = .ok (.iconst 0, 1) := by decide +kernel
theorem dX4_mayWrite_30 : decode cX4_mayWrite 30 = .ok (.isub, 1) := by decide +kernel
theorem dX4_mayWrite_31 : decode cX4_mayWrite 31 = .ok (.putfield 72, 3) := by decide +kernel
theorem dX4_mayWrite_34 : decode cX4_mayWrite 34 = .ok (.aload_n 0, 1) := by decide +kernel
theorem dX4_mayWrite_35 : decode cX4_mayWrite 35 = .ok (.dup, 1) := by decide +kernel
theorem dX4_mayWrite_36 : decode cX4_mayWrite 36 = .ok (.getfield 88, 3) := by decide +kernel
theorem dX4_mayWrite_39 : decode cX4_mayWrite 39 = .ok (.iconst 1, 1) := by decide +kernel
theorem dX4_mayWrite_40 : decode cX4_mayWrite 40 = .ok (.iadd, 1) := by decide +kernel
theorem dX4_mayWrite_41 : decode cX4_mayWrite 41 = .ok (.putfield 88, 3) := by decide +kernel
theorem dX4_mayWrite_44 : decode cX4_mayWrite 44 = .ok (.iconst 1, 1) := by decide +kernel
theorem dX4_mayWrite_45 : decode cX4_mayWrite 45 = .ok (.ireturn, 1) := by decide +kernel
theorem dX4_writeHome_0 : decode cX4_writeHome 0 = .ok (.iconst 0, 1) := by decide +kernel
theorem dX4_writeHome_1 : decode cX4_writeHome 1 = .ok (.istore 5, 2) := by decide +kernel
theorem dX4_writeHome_3 : decode cX4_writeHome 3 = .ok (.iload 5, 2) := by decide +kernel
theorem dX4_writeHome_5 : decode cX4_writeHome 5 = .ok (.iconst 4, 1) := by decide +kernel
theorem dX4_writeHome_6 : decode cX4_writeHome 6 = .ok (.if_icmp .ge 97, 3) := by decide +kernel
theorem dX4_writeHome_9 : decode cX4_writeHome 9 = .ok (.aload_n 0, 1) := by decide +kernel
theorem dX4_writeHome_10 : decode cX4_writeHome 10 = .ok (.invokevirtual 91, 3) := by decide +kernel
theorem dX4_writeHome_13 : decode cX4_writeHome 13 = .ok (.ifCond .ne 5, 3) := by decide +kernel
theorem dX4_writeHome_16 : decode cX4_writeHome 16 = .ok (.iconst 0, 1) := by decide +kernel
theorem dX4_writeHome_17 : decode cX4_writeHome 17 = .ok (.ireturn, 1) := by decide +kernel
theorem dX4_writeHome_18 : decode cX4_writeHome 18 = .ok (.aload_n 0, 1) := by decide +kernel
theorem dX4_writeHome_19 : decode cX4_writeHome 19 = .ok (.getfield 7, 3) := by decide +kernel
theorem dX4_writeHome_22 : decode cX4_writeHome 22 = .ok (.iconst 4, 1) := by decide +kernel
theorem dX4_writeHome_23 : decode cX4_writeHome 23 = .ok (.iload_n 1, 1) := by decide +kernel
theorem dX4_writeHome_24 : decode cX4_writeHome 24 = .ok (.imul, 1) := by decide +kernel
theorem dX4_writeHome_25 : decode cX4_writeHome 25 = .ok (.iload 5, 2) := by decide +kernel
theorem dX4_writeHome_27 : decode cX4_writeHome 27 = .ok (.iadd, 1) := by decide +kernel
theorem dX4_writeHome_28 : decode cX4_writeHome 28 = .ok (.iload_n 2, 1) := by decide +kernel
theorem dX4_writeHome_29 : decode cX4_writeHome 29 = .ok (.iastore, 1) := by decide +kernel
theorem dX4_writeHome_30 : decode cX4_writeHome 30 = .ok (.iconst 4, 1) := by decide +kernel
theorem dX4_writeHome_31 : decode cX4_writeHome 31 = .ok (.iload 5, 2) := by decide +kernel
theorem dX4_writeHome_33 : decode cX4_writeHome 33 = .ok (.imul, 1) := by decide +kernel
theorem dX4_writeHome_34 : decode cX4_writeHome 34 = .ok (.istore 6, 2) := by decide +kernel
theorem dX4_writeHome_36 : decode cX4_writeHome 36 = .ok (.iload 6, 2) := by decide +kernel
theorem dX4_writeHome_38 : decode cX4_writeHome 38 = .ok (.iconst 4, 1) := by decide +kernel
theorem dX4_writeHome_39 : decode cX4_writeHome 39 = .ok (.iload 5, 2) := by decide +kernel
theorem dX4_writeHome_41 : decode cX4_writeHome 41 = .ok (.imul, 1) := by decide +kernel
theorem dX4_writeHome_42 : decode cX4_writeHome 42 = .ok (.iconst 4, 1) := by decide +kernel
theorem dX4_writeHome_43 : decode cX4_writeHome 43 = .ok (.iadd, 1) := by decide +kernel
theorem dX4_writeHome_44 : decode cX4_writeHome 44 = .ok (.if_icmp .ge 53, 3) := by decide +kernel
theorem dX4_writeHome_47 : decode cX4_writeHome 47 = .ok (.aload_n 0, 1) := by decide +kernel
theorem dX4_writeHome_48 : decode cX4_writeHome 48 = .ok (.getfield 13, 3) := by decide +kernel
theorem dX4_writeHome_51 : decode cX4_writeHome 51 = .ok (.bipush 16, 2) := by decide +kernel
theorem dX4_writeHome_53 : decode cX4_writeHome 53 = .ok (.iload_n 1, 1) := by decide +kernel
theorem dX4_writeHome_54 : decode cX4_writeHome 54 = .ok (.imul, 1) := by decide +kernel
theorem dX4_writeHome_55 : decode cX4_writeHome 55 = .ok (.iload 6, 2) := by decide +kernel
theorem dX4_writeHome_57 : decode cX4_writeHome 57 = .ok (.iadd, 1) := by decide +kernel
theorem dX4_writeHome_58 : decode cX4_writeHome 58 = .ok (.iload 4, 2) := by decide +kernel
theorem dX4_writeHome_60 : decode cX4_writeHome 60 = .ok (.ifCond .eq 18, 3) := by decide +kernel
theorem dX4_writeHome_63 : decode cX4_writeHome 63 = .ok (.aload_n 0, 1) := by decide +kernel
theorem dX4_writeHome_64 : decode cX4_writeHome 64 = .ok (.getfield 54, 3) := by decide +kernel
theorem dX4_writeHome_67 : decode cX4_writeHome 67 = .ok (.bipush 16, 2) := by decide +kernel
theorem dX4_writeHome_69 : decode cX4_writeHome 69 = .ok (.iload_n 3, 1) := by decide +kernel
theorem dX4_writeHome_70 : decode cX4_writeHome 70 = .ok (.imul, 1) := by decide +kernel
theorem dX4_writeHome_71 : decode cX4_writeHome 71 = .ok (.iload 6, 2) := by decide +kernel
theorem dX4_writeHome_73 : decode cX4_writeHome 73 = .ok (.iadd, 1) := by decide +kernel
theorem dX4_writeHome_74 : decode cX4_writeHome 74 = .ok (.iaload, 1) := by decide +kernel
theorem dX4_writeHome_75 : decode cX4_writeHome 75 = .ok (.goto 15, 3) := by decide +kernel
theorem dX4_writeHome_78 : decode cX4_writeHome 78 = .ok (.aload_n 0, 1) := by decide +kernel
theorem dX4_writeHome_79 : decode cX4_writeHome 79 = .ok (.getfield 22, 3) := by decide +kernel
theorem dX4_writeHome_82 : decode cX4_writeHome 82 = .ok (.bipush 16, 2) := by decide +kernel
theorem dX4_writeHome_84 : decode cX4_writeHome 84 = .ok (.iload_n 3, 1) := by decide +kernel
theorem dX4_writeHome_85 : decode cX4_writeHome 85 = .ok (.imul, 1) := by decide +kernel
theorem dX4_writeHome_86 : decode cX4_writeHome 86 = .ok (.iload 6, 2) := by decide +kernel
theorem dX4_writeHome_88 : decode cX4_writeHome 88 = .ok (.iadd, 1) := by decide +kernel
theorem dX4_writeHome_89 : decode cX4_writeHome 89 = .ok (.iaload, 1) := by decide +kernel
theorem dX4_writeHome_90 : decode cX4_writeHome 90 = .ok (.iastore, 1) := by decide +kernel
theorem dX4_writeHome_91 : decode cX4_writeHome 91 = .ok (.iinc 6 1, 3) := by decide +kernel
theorem dX4_writeHome_94 : decode cX4_writeHome 94 = .ok (.goto (-58), 3) := by decide +kernel
theorem dX4_writeHome_97 : decode cX4_writeHome 97 = .ok (.iinc 5 1, 3) := by decide +kernel
theorem dX4_writeHome_100 : decode cX4_writeHome 100 = .ok (.goto (-97), 3) := by decide +kernel
theorem dX4_writeHome_103 : decode cX4_writeHome 103 = .ok (.iconst 1, 1) := by decide +kernel
theorem dX4_writeHome_104 : decode cX4_writeHome 104 = .ok (.ireturn, 1) := by decide +kernel
theorem dX4_writeBeside_0 : decode cX4_writeBeside 0 = .ok (.aload_n 0, 1) := by decide +kernel
theorem dX4_writeBeside_1 : decode cX4_writeBeside 1 = .ok (.getfield 41, 3) := by decide +kernel
theorem dX4_writeBeside_4 : decode cX4_writeBeside 4 = .ok (.iload_n 2, 1) := by decide +kernel
theorem dX4_writeBeside_5 : decode cX4_writeBeside 5 = .ok (.iaload, 1) := by decide +kernel
theorem dX4_writeBeside_6 : decode cX4_writeBeside 6 = .ok (.istore_n 3, 1) := by decide +kernel
theorem dX4_writeBeside_7 : decode cX4_writeBeside 7 = .ok (.iconst 0, 1) := by decide +kernel
theorem dX4_writeBeside_8 : decode cX4_writeBeside 8 = .ok (.istore 4, 2) := by decide +kernel
theorem dX4_writeBeside_10 : decode cX4_writeBeside 10 = .ok (.iload 4, 2) := by decide +kernel
theorem dX4_writeBeside_12 : decode cX4_writeBeside 12 = .ok (.iconst 4, 1) := by decide +kernel
theorem dX4_writeBeside_13 : decode cX4_writeBeside 13 = .ok (.if_icmp .ge 94, 3) := by decide +kernel
theorem dX4_writeBeside_16 : decode cX4_writeBeside 16 = .ok (.aload_n 0, 1) := by decide +kernel
theorem dX4_writeBeside_17 : decode cX4_writeBeside 17 = .ok (.invokevirtual 91, 3) := by decide +kernel
theorem dX4_writeBeside_20 : decode cX4_writeBeside 20 = .ok (.ifCond .ne 5, 3) := by decide +kernel
theorem dX4_writeBeside_23 : decode cX4_writeBeside 23 = .ok (.iconst 0, 1) := by decide +kernel
theorem dX4_writeBeside_24 : decode cX4_writeBeside 24 = .ok (.ireturn, 1) := by decide +kernel
theorem dX4_writeBeside_25 : decode cX4_writeBeside 25 = .ok (.aload_n 0, 1) := by decide +kernel
theorem dX4_writeBeside_26 : decode cX4_writeBeside 26 = .ok (.getfield 16, 3) := by decide +kernel
theorem dX4_writeBeside_29 : decode cX4_writeBeside 29 = .ok (.iconst 4, 1) := by decide +kernel
theorem dX4_writeBeside_30 : decode cX4_writeBeside 30 = .ok (.iload_n 1, 1) := by decide +kernel
theorem dX4_writeBeside_31 : decode cX4_writeBeside 31 = .ok (.imul, 1) := by decide +kernel
theorem dX4_writeBeside_32 : decode cX4_writeBeside 32 = .ok (.iload 4, 2) := by decide +kernel
theorem dX4_writeBeside_34 : decode cX4_writeBeside 34 = .ok (.iadd, 1) := by decide +kernel
theorem dX4_writeBeside_35 : decode cX4_writeBeside 35 = .ok (.aload_n 0, 1) := by decide +kernel
theorem dX4_writeBeside_36 : decode cX4_writeBeside 36 = .ok (.getfield 44, 3) := by decide +kernel
theorem dX4_writeBeside_39 : decode cX4_writeBeside 39 = .ok (.iload_n 2, 1) := by decide +kernel
theorem dX4_writeBeside_40 : decode cX4_writeBeside 40 = .ok (.iaload, 1) := by decide +kernel
theorem dX4_writeBeside_41 : decode cX4_writeBeside 41 = .ok (.iastore, 1) := by decide +kernel
theorem dX4_writeBeside_42 : decode cX4_writeBeside 42 = .ok (.aload_n 0, 1) := by decide +kernel
theorem dX4_writeBeside_43 : decode cX4_writeBeside 43 = .ok (.getfield 19, 3) := by decide +kernel
theorem dX4_writeBeside_46 : decode cX4_writeBeside 46 = .ok (.iconst 4, 1) := by decide +kernel
theorem dX4_writeBeside_47 : decode cX4_writeBeside 47 = .ok (.iload_n 1, 1) := by decide +kernel
theorem dX4_writeBeside_48 : decode cX4_writeBeside 48 = .ok (.imul, 1) := by decide +kernel
theorem dX4_writeBeside_49 : decode cX4_writeBeside 49 = .ok (.iload 4, 2) := by decide +kernel
theorem dX4_writeBeside_51 : decode cX4_writeBeside 51 = .ok (.iadd, 1) := by decide +kernel
theorem dX4_writeBeside_52 : decode cX4_writeBeside 52 = .ok (.iload_n 3, 1) := by decide +kernel
theorem dX4_writeBeside_53 : decode cX4_writeBeside 53 = .ok (.iastore, 1) := by decide +kernel
theorem dX4_writeBeside_54 : decode cX4_writeBeside 54 = .ok (.iconst 4, 1) := by decide +kernel
theorem dX4_writeBeside_55 : decode cX4_writeBeside 55 = .ok (.iload 4, 2) := by decide +kernel
theorem dX4_writeBeside_57 : decode cX4_writeBeside 57 = .ok (.imul, 1) := by decide +kernel
theorem dX4_writeBeside_58 : decode cX4_writeBeside 58 = .ok (.istore 5, 2) := by decide +kernel
theorem dX4_writeBeside_60 : decode cX4_writeBeside 60 = .ok (.iload 5, 2) := by decide +kernel
theorem dX4_writeBeside_62 : decode cX4_writeBeside 62 = .ok (.iconst 4, 1) := by decide +kernel
theorem dX4_writeBeside_63 : decode cX4_writeBeside 63 = .ok (.iload 4, 2) := by decide +kernel
theorem dX4_writeBeside_65 : decode cX4_writeBeside 65 = .ok (.imul, 1) := by decide +kernel
theorem dX4_writeBeside_66 : decode cX4_writeBeside 66 = .ok (.iconst 4, 1) := by decide +kernel
theorem dX4_writeBeside_67 : decode cX4_writeBeside 67 = .ok (.iadd, 1) := by decide +kernel
theorem dX4_writeBeside_68 : decode cX4_writeBeside 68 = .ok (.if_icmp .ge 33, 3) := by decide +kernel
theorem dX4_writeBeside_71 : decode cX4_writeBeside 71 = .ok (.aload_n 0, 1) := by decide +kernel
theorem dX4_writeBeside_72 : decode cX4_writeBeside 72 = .ok (.getfield 22, 3) := by decide +kernel
theorem dX4_writeBeside_75 : decode cX4_writeBeside 75 = .ok (.bipush 16, 2) := by decide +kernel
theorem dX4_writeBeside_77 : decode cX4_writeBeside 77 = .ok (.iload_n 1, 1) := by decide +kernel
theorem dX4_writeBeside_78 : decode cX4_writeBeside 78 = .ok (.imul, 1) := by decide +kernel
theorem dX4_writeBeside_79 : decode cX4_writeBeside 79 = .ok (.iload 5, 2) := by decide +kernel
theorem dX4_writeBeside_81 : decode cX4_writeBeside 81 = .ok (.iadd, 1) := by decide +kernel
theorem dX4_writeBeside_82 : decode cX4_writeBeside 82 = .ok (.aload_n 0, 1) := by decide +kernel
theorem dX4_writeBeside_83 : decode cX4_writeBeside 83 = .ok (.getfield 54, 3) := by decide +kernel
theorem dX4_writeBeside_86 : decode cX4_writeBeside 86 = .ok (.bipush 16, 2) := by decide +kernel
theorem dX4_writeBeside_88 : decode cX4_writeBeside 88 = .ok (.iload_n 2, 1) := by decide +kernel
theorem dX4_writeBeside_89 : decode cX4_writeBeside 89 = .ok (.imul, 1) := by decide +kernel
theorem dX4_writeBeside_90 : decode cX4_writeBeside 90 = .ok (.iload 5, 2) := by decide +kernel
theorem dX4_writeBeside_92 : decode cX4_writeBeside 92 = .ok (.iadd, 1) := by decide +kernel
theorem dX4_writeBeside_93 : decode cX4_writeBeside 93 = .ok (.iaload, 1) := by decide +kernel
theorem dX4_writeBeside_94 : decode cX4_writeBeside 94 = .ok (.iastore, 1) := by decide +kernel
theorem dX4_writeBeside_95 : decode cX4_writeBeside 95 = .ok (.iinc 5 1, 3) := by decide +kernel
theorem dX4_writeBeside_98 : decode cX4_writeBeside 98 = .ok (.goto (-38), 3) := by decide +kernel
theorem dX4_writeBeside_101 : decode cX4_writeBeside 101 = .ok (.iinc 4 1, 3) := by decide +kernel
theorem dX4_writeBeside_104 : decode cX4_writeBeside 104 = .ok (.goto (-94), 3) := by decide +kernel
theorem dX4_writeBeside_107 : decode cX4_writeBeside 107 = .ok (.iconst 1, 1) := by decide +kernel
theorem dX4_writeBeside_108 : decode cX4_writeBeside 108 = .ok (.ireturn, 1) := by decide +kernel
theorem dX4_isHomeWhole_0 : decode cX4_isHomeWhole 0 = .ok (.iconst 4, 1) := by decide +kernel
theorem dX4_isHomeWhole_1 : decode cX4_isHomeWhole 1 = .ok (.iload_n 1, 1) := by decide +kernel
theorem dX4_isHomeWhole_2 : decode cX4_isHomeWhole 2 = .ok (.imul, 1) := by decide +kernel
theorem dX4_isHomeWhole_3 : decode cX4_isHomeWhole 3 = .ok (.istore_n 2, 1) := by decide +kernel
theorem dX4_isHomeWhole_4 : decode cX4_isHomeWhole 4 = .ok (.aload_n 0, 1) := by decide +kernel
theorem dX4_isHomeWhole_5 : decode cX4_isHomeWhole 5 = .ok (.getfield 7, 3) := by decide +kernel
theorem dX4_isHomeWhole_8 : decode cX4_isHomeWhole 8 = .ok (.iload_n 2, 1) := by decide +kernel
theorem dX4_isHomeWhole_9 : decode cX4_isHomeWhole 9 = .ok (.iaload, 1) := by decide +kernel
theorem dX4_isHomeWhole_10 : decode cX4_isHomeWhole 10 = .ok (.aload_n 0, 1) := by decide +kernel
theorem dX4_isHomeWhole_11 : decode cX4_isHomeWhole 11 = .ok (.getfield 7, 3) := by decide +kernel
theorem dX4_isHomeWhole_14 : decode cX4_isHomeWhole 14 = .ok (.iload_n 2, 1) := by decide +kernel
theorem dX4_isHomeWhole_15 : decode cX4_isHomeWhole 15 = .ok (.iconst 1, 1) := by decide +kernel
theorem dX4_isHomeWhole_16 : decode cX4_isHomeWhole 16 = .ok (.iadd, 1) := by decide +kernel
theorem dX4_isHomeWhole_17 : decode cX4_isHomeWhole 17 = .ok (.iaload, 1) := by decide +kernel
theorem dX4_isHomeWhole_18 : decode cX4_isHomeWhole 18 = .ok (.if_icmp .ne 41, 3) := by decide +kernel
theorem dX4_isHomeWhole_21 : decode cX4_isHomeWhole 21 = .ok (.aload_n 0, 1) := by decide +kernel
theorem dX4_isHomeWhole_22 : decode cX4_isHomeWhole 22 = .ok (.getfield 7, 3) := by decide +kernel
theorem dX4_isHomeWhole_25 : decode cX4_isHomeWhole 25 = .ok (.iload_n 2, 1) := by decide +kernel
theorem dX4_isHomeWhole_26 : decode cX4_isHomeWhole 26 = .ok (.iaload, 1) := by decide +kernel
theorem dX4_isHomeWhole_27 : decode cX4_isHomeWhole 27 = .ok (.aload_n 0, 1) := by decide +kernel
theorem dX4_isHomeWhole_28 : decode cX4_isHomeWhole 28 = .ok (.getfield 7, 3) := by decide +kernel
theorem dX4_isHomeWhole_31 : decode cX4_isHomeWhole 31 = .ok (.iload_n 2, 1) := by decide +kernel
theorem dX4_isHomeWhole_32 : decode cX4_isHomeWhole 32 = .ok (.iconst 2, 1) := by decide +kernel
theorem dX4_isHomeWhole_33 : decode cX4_isHomeWhole 33 = .ok (.iadd, 1) := by decide +kernel
theorem dX4_isHomeWhole_34 : decode cX4_isHomeWhole 34 = .ok (.iaload, 1) := by decide +kernel
theorem dX4_isHomeWhole_35 : decode cX4_isHomeWhole 35 = .ok (.if_icmp .ne 24, 3) := by decide +kernel
theorem dX4_isHomeWhole_38 : decode cX4_isHomeWhole 38 = .ok (.aload_n 0, 1) := by decide +kernel
theorem dX4_isHomeWhole_39 : decode cX4_isHomeWhole 39 = .ok (.getfield 7, 3) := by decide +kernel
theorem dX4_isHomeWhole_42 : decode cX4_isHomeWhole 42 = .ok (.iload_n 2, 1) := by decide +kernel
theorem dX4_isHomeWhole_43 : decode cX4_isHomeWhole 43 = .ok (.iaload, 1) := by decide +kernel
theorem dX4_isHomeWhole_44 : decode cX4_isHomeWhole 44 = .ok (.aload_n 0, 1) := by decide +kernel
theorem dX4_isHomeWhole_45 : decode cX4_isHomeWhole 45 = .ok (.getfield 7, 3) := by decide +kernel
theorem dX4_isHomeWhole_48 : decode cX4_isHomeWhole 48 = .ok (.iload_n 2, 1) := by decide +kernel
theorem dX4_isHomeWhole_49 : decode cX4_isHomeWhole 49 = .ok (.iconst 3, 1) := by decide +kernel
theorem dX4_isHomeWhole_50 : decode cX4_isHomeWhole 50 = .ok (.iadd, 1) := by decide +kernel
theorem dX4_isHomeWhole_51 : decode cX4_isHomeWhole 51 = .ok (.iaload, 1) := by decide +kernel
theorem dX4_isHomeWhole_52 : decode cX4_isHomeWhole 52 = .ok (.if_icmp .ne 7, 3) := by decide +kernel
theorem dX4_isHomeWhole_55 : decode cX4_isHomeWhole 55 = .ok (.iconst 1, 1) := by decide +kernel
theorem dX4_isHomeWhole_56 : decode cX4_isHomeWhole 56 = .ok (.goto 4, 3) := by decide +kernel
theorem dX4_isHomeWhole_59 : decode cX4_isHomeWhole 59 = .ok (.iconst 0, 1) := by decide +kernel
theorem dX4_isHomeWhole_60 : decode cX4_isHomeWhole 60 = .ok (.ireturn, 1) := by decide +kernel
theorem dX4_isSlotWhole_0 : decode cX4_isSlotWhole 0 = .ok (.iconst 1, 1) := by decide +kernel
theorem dX4_isSlotWhole_1 : decode cX4_isSlotWhole 1 = .ok (.istore_n 2, 1) := by decide +kernel
theorem dX4_isSlotWhole_2 : decode cX4_isSlotWhole 2 = .ok (.iconst 1, 1) := by decide +kernel
theorem dX4_isSlotWhole_3 : decode cX4_isSlotWhole 3 = .ok (.istore_n 3, 1) := by decide +kernel
theorem dX4_isSlotWhole_4 : decode cX4_isSlotWhole 4 = .ok (.iload_n 3, 1) := by decide +kernel
theorem dX4_isSlotWhole_5 : decode cX4_isSlotWhole 5 = .ok (.iconst 4, 1) := by decide +kernel
theorem dX4_isSlotWhole_6 : decode cX4_isSlotWhole 6 = .ok (.if_icmp .ge 61, 3) := by decide +kernel
theorem dX4_isSlotWhole_9 : decode cX4_isSlotWhole 9 = .ok (.iload_n 2, 1) := by decide +kernel
theorem dX4_isSlotWhole_10 : decode cX4_isSlotWhole 10 = .ok (.ifCond .eq 49, 3) := by decide +kernel
theorem dX4_isSlotWhole_13 : decode cX4_isSlotWhole 13 = .ok (.aload_n 0, 1) := by decide +kernel
theorem dX4_isSlotWhole_14 : decode cX4_isSlotWhole 14 = .ok (.getfield 16, 3) := by decide +kernel
theorem dX4_isSlotWhole_17 : decode cX4_isSlotWhole 17 = .ok (.iconst 4, 1) := by decide +kernel
theorem dX4_isSlotWhole_18 : decode cX4_isSlotWhole 18 = .ok (.iload_n 1, 1) := by decide +kernel
theorem dX4_isSlotWhole_19 : decode cX4_isSlotWhole 19 = .ok (.imul, 1) := by decide +kernel
theorem dX4_isSlotWhole_20 : decode cX4_isSlotWhole 20 = .ok (.iload_n 3, 1) := by decide +kernel
theorem dX4_isSlotWhole_21 : decode cX4_isSlotWhole 21 = .ok (.iadd, 1) := by decide +kernel
theorem dX4_isSlotWhole_22 : decode cX4_isSlotWhole 22 = .ok (.iaload, 1) := by decide +kernel
theorem dX4_isSlotWhole_23 : decode cX4_isSlotWhole 23 = .ok (.aload_n 0, 1) := by decide +kernel
theorem dX4_isSlotWhole_24 : decode cX4_isSlotWhole 24 = .ok (.getfield 16, 3) := by decide +kernel
theorem dX4_isSlotWhole_27 : decode cX4_isSlotWhole 27 = .ok (.iconst 4, 1) := by decide +kernel
theorem dX4_isSlotWhole_28 : decode cX4_isSlotWhole 28 = .ok (.iload_n 1, 1) := by decide +kernel
theorem dX4_isSlotWhole_29 : decode cX4_isSlotWhole 29 = .ok (.imul, 1) := by decide +kernel
theorem dX4_isSlotWhole_30 : decode cX4_isSlotWhole 30 = .ok (.iaload, 1) := by decide +kernel
theorem dX4_isSlotWhole_31 : decode cX4_isSlotWhole 31 = .ok (.if_icmp .ne 28, 3) := by decide +kernel
theorem dX4_isSlotWhole_34 : decode cX4_isSlotWhole 34 = .ok (.aload_n 0, 1) := by decide +kernel
theorem dX4_isSlotWhole_35 : decode cX4_isSlotWhole 35 = .ok (.getfield 19, 3) := by decide +kernel
theorem dX4_isSlotWhole_38 : decode cX4_isSlotWhole 38 = .ok (.iconst 4, 1) := by decide +kernel
theorem dX4_isSlotWhole_39 : decode cX4_isSlotWhole 39 = .ok (.iload_n 1, 1) := by decide +kernel
theorem dX4_isSlotWhole_40 : decode cX4_isSlotWhole 40 = .ok (.imul, 1) := by decide +kernel
theorem dX4_isSlotWhole_41 : decode cX4_isSlotWhole 41 = .ok (.iload_n 3, 1) := by decide +kernel
theorem dX4_isSlotWhole_42 : decode cX4_isSlotWhole 42 = .ok (.iadd, 1) := by decide +kernel
theorem dX4_isSlotWhole_43 : decode cX4_isSlotWhole 43 = .ok (.iaload, 1) := by decide +kernel
theorem dX4_isSlotWhole_44 : decode cX4_isSlotWhole 44 = .ok (.aload_n 0, 1) := by decide +kernel
theorem dX4_isSlotWhole_45 : decode cX4_isSlotWhole 45 = .ok (.getfield 19, 3) := by decide +kernel
theorem dX4_isSlotWhole_48 : decode cX4_isSlotWhole 48 = .ok (.iconst 4, 1) := by decide +kernel
theorem dX4_isSlotWhole_49 : decode cX4_isSlotWhole 49 = .ok (.iload_n 1, 1) := by decide +kernel
theorem dX4_isSlotWhole_50 : decode cX4_isSlotWhole 50 = .ok (.imul, 1) := by decide +kernel
theorem dX4_isSlotWhole_51 : decode cX4_isSlotWhole 51 = .ok (.iaload, 1) := by decide +kernel
theorem dX4_isSlotWhole_52 : decode cX4_isSlotWhole 52 = .ok (.if_icmp .ne 7, 3) := by decide +kernel
theorem dX4_isSlotWhole_55 : decode cX4_isSlotWhole 55 = .ok (.iconst 1, 1) := by decide +kernel
theorem dX4_isSlotWhole_56 : decode cX4_isSlotWhole 56 = .ok (.goto 4, 3) := by decide +kernel
theorem dX4_isSlotWhole_59 : decode cX4_isSlotWhole 59 = .ok (.iconst 0, 1) := by decide +kernel
theorem dX4_isSlotWhole_60 : decode cX4_isSlotWhole 60 = .ok (.istore_n 2, 1) := by decide +kernel
theorem dX4_isSlotWhole_61 : decode cX4_isSlotWhole 61 = .ok (.iinc 3 1, 3) := by decide +kernel
theorem dX4_isSlotWhole_64 : decode cX4_isSlotWhole 64 = .ok (.goto (-60), 3) := by decide +kernel
theorem dX4_isSlotWhole_67 : decode cX4_isSlotWhole 67 = .ok (.iload_n 2, 1) := by decide +kernel
theorem dX4_isSlotWhole_68 : decode cX4_isSlotWhole 68 = .ok (.ireturn, 1) := by decide +kernel
theorem dX4_logWaiting_0 : decode cX4_logWaiting 0 = .ok (.iconst 0, 1) := by decide +kernel
theorem dX4_logWaiting_1 : decode cX4_logWaiting 1 = .ok (.istore_n 1, 1) := by decide +kernel
theorem dX4_logWaiting_2 : decode cX4_logWaiting 2 = .ok (.iload_n 1, 1) := by decide +kernel
theorem dX4_logWaiting_3 : decode cX4_logWaiting 3 = .ok (.aload_n 0, 1) := by decide +kernel
theorem dX4_logWaiting_4 : decode cX4_logWaiting 4 = .ok (.getfield 82, 3) := by decide +kernel
theorem dX4_logWaiting_7 : decode cX4_logWaiting 7 = .ok (.if_icmp .ge 76, 3) := by decide +kernel
theorem dX4_logWaiting_10 : decode cX4_logWaiting 10 = .ok (.aload_n 0, 1) := by decide +kernel
theorem dX4_logWaiting_11 : decode cX4_logWaiting 11 = .ok (.invokevirtual 91, 3) := by decide +kernel
theorem dX4_logWaiting_14 : decode cX4_logWaiting 14 = .ok (.ifCond .ne 5, 3) := by decide +kernel
theorem dX4_logWaiting_17 : decode cX4_logWaiting 17 = .ok (.iconst 0, 1) := by decide +kernel
theorem dX4_logWaiting_18 : decode cX4_logWaiting 18 = .ok (.ireturn, 1) := by decide +kernel
theorem dX4_logWaiting_19 : decode cX4_logWaiting 19 = .ok (.aload_n 0, 1) := by decide +kernel
theorem dX4_logWaiting_20 : decode cX4_logWaiting 20 = .ok (.getfield 60, 3) := by decide +kernel
theorem dX4_logWaiting_23 : decode cX4_logWaiting 23 = .ok (.iload_n 1, 1) := by decide +kernel
theorem dX4_logWaiting_24 : decode cX4_logWaiting 24 = .ok (.iaload, 1) := by decide +kernel
theorem dX4_logWaiting_25 : decode cX4_logWaiting 25 = .ok (.bipush 12, 2) := by decide +kernel
theorem dX4_logWaiting_27 : decode cX4_logWaiting 27 = .ok (.irem, 1) := by decide +kernel
theorem dX4_logWaiting_28 : decode cX4_logWaiting 28 = .ok (.istore_n 2, 1) := by decide +kernel
theorem dX4_logWaiting_29 : decode cX4_logWaiting 29 = .ok (.aload_n 0, 1) := by decide +kernel
theorem dX4_logWaiting_30 : decode cX4_logWaiting 30 = .ok (.getfield 25, 3) := by decide +kernel
theorem dX4_logWaiting_33 : decode cX4_logWaiting 33 = .ok (.iload_n 2, 1) := by decide +kernel
theorem dX4_logWaiting_34 : decode cX4_logWaiting 34 = .ok (.aload_n 0, 1) := by decide +kernel
theorem dX4_logWaiting_35 : decode cX4_logWaiting 35 = .ok (.getfield 60, 3) := by decide +kernel
theorem dX4_logWaiting_38 : decode cX4_logWaiting 38 = .ok (.iload_n 1, 1) := by decide +kernel
theorem dX4_logWaiting_39 : decode cX4_logWaiting 39 = .ok (.iaload, 1) := by decide +kernel
theorem dX4_logWaiting_40 : decode cX4_logWaiting 40 = .ok (.iastore, 1) := by decide +kernel
theorem dX4_logWaiting_41 : decode cX4_logWaiting 41 = .ok (.aload_n 0, 1) := by decide +kernel
theorem dX4_logWaiting_42 : decode cX4_logWaiting 42 = .ok (.getfield 28, 3) := by decide +kernel
theorem dX4_logWaiting_45 : decode cX4_logWaiting 45 = .ok (.iload_n 2, 1) := by decide +kernel
theorem dX4_logWaiting_46 : decode cX4_logWaiting 46 = .ok (.aload_n 0, 1) := by decide +kernel
theorem dX4_logWaiting_47 : decode cX4_logWaiting 47 = .ok (.getfield 63, 3) := by decide +kernel
theorem dX4_logWaiting_50 : decode cX4_logWaiting 50 = .ok (.iload_n 1, 1) := by decide +kernel
theorem dX4_logWaiting_51 : decode cX4_logWaiting 51 = .ok (.iaload, 1) := by decide +kernel
theorem dX4_logWaiting_52 : decode cX4_logWaiting 52 = .ok (.iastore, 1) := by decide +kernel
theorem dX4_logWaiting_53 : decode cX4_logWaiting 53 = .ok (.aload_n 0, 1) := by decide +kernel
theorem dX4_logWaiting_54 : decode cX4_logWaiting 54 = .ok (.getfield 31, 3) := by decide +kernel
theorem dX4_logWaiting_57 : decode cX4_logWaiting 57 = .ok (.iload_n 2, 1) := by decide +kernel
theorem dX4_logWaiting_58 : decode cX4_logWaiting 58 = .ok (.aload_n 0, 1) := by decide +kernel
theorem dX4_logWaiting_59 : decode cX4_logWaiting 59 = .ok (.getfield 66, 3) := by decide +kernel
theorem dX4_logWaiting_62 : decode cX4_logWaiting 62 = .ok (.iload_n 1, 1) := by decide +kernel
theorem dX4_logWaiting_63 : decode cX4_logWaiting 63 = .ok (.iaload, 1) := by decide +kernel
theorem dX4_logWaiting_64 : decode cX4_logWaiting 64 = .ok (.iastore, 1) := by decide +kernel
theorem dX4_logWaiting_65 : decode cX4_logWaiting 65 = .ok (.aload_n 0, 1) := by decide +kernel
theorem dX4_logWaiting_66 : decode cX4_logWaiting 66 = .ok (.getfield 34, 3) := by decide +kernel
theorem dX4_logWaiting_69 : decode cX4_logWaiting 69 = .ok (.iload_n 2, 1) := by decide +kernel
theorem dX4_logWaiting_70 : decode cX4_logWaiting 70 = .ok (.aload_n 0, 1) := by decide +kernel
theorem dX4_logWaiting_71 : decode cX4_logWaiting 71 = .ok (.getfield 69, 3) := by decide +kernel
theorem dX4_logWaiting_74 : decode cX4_logWaiting 74 = .ok (.iload_n 1, 1) := by decide +kernel
theorem dX4_logWaiting_75 : decode cX4_logWaiting 75 = .ok (.iaload, 1) := by decide +kernel
theorem dX4_logWaiting_76 : decode cX4_logWaiting 76 = .ok (.iastore, 1) := by decide +kernel
theorem dX4_logWaiting_77 : decode cX4_logWaiting 77 = .ok (.iinc 1 1, 3) := by decide +kernel
theorem dX4_logWaiting_80 : decode cX4_logWaiting 80 = .ok (.goto (-78), 3) := by decide +kernel
theorem dX4_logWaiting_83 : decode cX4_logWaiting 83 = .ok (.aload_n 0, 1) := by decide +kernel
theorem dX4_logWaiting_84 : decode cX4_logWaiting 84 = .ok (.iconst 0, 1) := by decide +kernel
theorem dX4_logWaiting_85 : decode cX4_logWaiting 85 = .ok (.putfield 82, 3) := by decide +kernel
theorem dX4_logWaiting_88 : decode cX4_logWaiting 88 = .ok (.iconst 1, 1) := by decide +kernel
theorem dX4_logWaiting_89 : decode cX4_logWaiting 89 = .ok (.ireturn, 1) := by decide +kernel
theorem dX4_clean_0 : decode cX4_clean 0 = .ok (.aload_n 0, 1) := by decide +kernel
theorem dX4_clean_1 : decode cX4_clean 1 = .ok (.invokevirtual 95, 3) := by decide +kernel
theorem dX4_clean_4 : decode cX4_clean 4 = .ok (.ifCond .ne 5, 3) := by decide +kernel
theorem dX4_clean_7 : decode cX4_clean 7 = .ok (.iconst 0, 1) := by decide +kernel
theorem dX4_clean_8 : decode cX4_clean 8 = .ok (.ireturn, 1) := by decide +kernel
theorem dX4_clean_9 : decode cX4_clean 9 = .ok (.iconst 0, 1) := by decide +kernel
theorem dX4_clean_10 : decode cX4_clean 10 = .ok (.istore_n 2, 1) := by decide +kernel
theorem dX4_clean_11 : decode cX4_clean 11 = .ok (.iconst 0, 1) := by decide +kernel
theorem dX4_clean_12 : decode cX4_clean 12 = .ok (.istore_n 3, 1) := by decide +kernel
theorem dX4_clean_13 : decode cX4_clean 13 = .ok (.iload_n 3, 1) := by decide +kernel
theorem dX4_clean_14 : decode cX4_clean 14 = .ok (.iconst 4, 1) := by decide +kernel
theorem dX4_clean_15 : decode cX4_clean 15 = .ok (.if_icmp .ge 42, 3) := by decide +kernel
theorem dX4_clean_18 : decode cX4_clean 18 = .ok (.aload_n 0, 1) := by decide +kernel
theorem dX4_clean_19 : decode cX4_clean 19 = .ok (.getfield 47, 3) := by decide +kernel
theorem dX4_clean_22 : decode cX4_clean 22 = .ok (.iload_n 3, 1) := by decide +kernel
theorem dX4_clean_23 : decode cX4_clean 23 = .ok (.baload, 1) := by decide +kernel
theorem dX4_clean_24 : decode cX4_clean 24 = .ok (.ifCond .eq 27, 3) := by decide +kernel
theorem dX4_clean_27 : decode cX4_clean 27 = .ok (.iload_n 1, 1) := by decide +kernel
theorem dX4_clean_28 : decode cX4_clean 28 = .ok (.iconst (-1), 1) := by decide +kernel
theorem dX4_clean_29 : decode cX4_clean 29 = .ok (.if_icmp .eq 8, 3) := by decide +kernel
theorem dX4_clean_32 : decode cX4_clean 32 = .ok (.iload_n 1, 1) := by decide +kernel
theorem dX4_clean_33 : decode cX4_clean 33 = .ok (.iload_n 3, 1) := by decide +kernel
theorem dX4_clean_34 : decode cX4_clean 34 = .ok (.if_icmp .ne 17, 3) := by decide +kernel
theorem dX4_clean_37 : decode cX4_clean 37 = .ok (.aload_n 0, 1) := by decide +kernel
theorem dX4_clean_38 : decode cX4_clean 38 = .ok (.iload_n 2, 1) := by decide +kernel
theorem dX4_clean_39 : decode cX4_clean 39 = .ok (.iload_n 3, 1) := by decide +kernel
theorem dX4_clean_40 : decode cX4_clean 40 = .ok (.invokevirtual 98, 3) := by decide +kernel
theorem dX4_clean_43 : decode cX4_clean 43 = .ok (.ifCond .ne 5, 3) := by decide +kernel
theorem dX4_clean_46 : decode cX4_clean 46 = .ok (.iconst 0, 1) := by decide +kernel
theorem dX4_clean_47 : decode cX4_clean 47 = .ok (.ireturn, 1) := by decide +kernel
theorem dX4_clean_48 : decode cX4_clean 48 = .ok (.iinc 2 1, 3) := by decide +kernel
theorem dX4_clean_51 : decode cX4_clean 51 = .ok (.iinc 3 1, 3) := by decide +kernel
theorem dX4_clean_54 : decode cX4_clean 54 = .ok (.goto (-41), 3) := by decide +kernel
theorem dX4_clean_57 : decode cX4_clean 57 = .ok (.iconst 0, 1) := by decide +kernel
theorem dX4_clean_58 : decode cX4_clean 58 = .ok (.istore_n 3, 1) := by decide +kernel
theorem dX4_clean_59 : decode cX4_clean 59 = .ok (.iload_n 3, 1) := by decide +kernel
theorem dX4_clean_60 : decode cX4_clean 60 = .ok (.iconst 4, 1) := by decide +kernel
theorem dX4_clean_61 : decode cX4_clean 61 = .ok (.if_icmp .ge 51, 3) := by decide +kernel
theorem dX4_clean_64 : decode cX4_clean 64 = .ok (.aload_n 0, 1) := by decide +kernel
theorem dX4_clean_65 : decode cX4_clean 65 = .ok (.getfield 47, 3) := by decide +kernel
theorem dX4_clean_68 : decode cX4_clean 68 = .ok (.iload_n 3, 1) := by decide +kernel
theorem dX4_clean_69 : decode cX4_clean 69 = .ok (.baload, 1) := by decide +kernel
theorem dX4_clean_70 : decode cX4_clean 70 = .ok (.ifCond .eq 36, 3) := by decide +kernel
theorem dX4_clean_73 : decode cX4_clean 73 = .ok (.iload_n 1, 1) := by decide +kernel
theorem dX4_clean_74 : decode cX4_clean 74 = .ok (.iconst (-1), 1) := by decide +kernel
theorem dX4_clean_75 : decode cX4_clean 75 = .ok (.if_icmp .eq 8, 3) := by decide +kernel
theorem dX4_clean_78 : decode cX4_clean 78 = .ok (.iload_n 1, 1) := by decide +kernel
theorem dX4_clean_79 : decode cX4_clean 79 = .ok (.iload_n 3, 1) := by decide +kernel
theorem dX4_clean_80 : decode cX4_clean 80 = .ok (.if_icmp .ne 26, 3) := by decide +kernel
theorem dX4_clean_83 : decode cX4_clean 83 = .ok (.aload_n 0, 1) := by decide +kernel
theorem dX4_clean_84 : decode cX4_clean 84 = .ok (.aload_n 0, 1) := by decide +kernel
theorem dX4_clean_85 : decode cX4_clean 85 = .ok (.getfield 41, 3) := by decide +kernel
theorem dX4_clean_88 : decode cX4_clean 88 = .ok (.iload_n 3, 1) := by decide +kernel
end
section
theorem dX4_clean_89 : decode cX4_clean 89 = .ok (.iaload, 1) := by decide +kernel
theorem dX4_clean_90 : decode cX4_clean 90 = .ok (.aload_n 0, 1) := by decide +kernel
theorem dX4_clean_91 : decode cX4_clean 91 = .ok (.getfield 44, 3) := by decide +kernel
theorem dX4_clean_94 : decode cX4_clean 94 = .ok (.iload_n 3, 1) := by decide +kernel
theorem dX4_clean_95 : decode cX4_clean 95 = .ok (.iaload, 1) := by decide +kernel
theorem dX4_clean_96 : decode cX4_clean 96 = .ok (.iload_n 3, 1) := by decide +kernel
theorem dX4_clean_97 : decode cX4_clean 97 = .ok (.iconst 1, 1) := by decide +kernel
theorem dX4_clean_98 : decode cX4_clean 98 = .ok (.invokevirtual 102, 3) := by decide +kernel
theorem dX4_clean_101 : decode cX4_clean 101 = .ok (.ifCond .ne 5, 3) := by decide +kernel
theorem dX4_clean_104 : decode cX4_clean 104 = .ok (.iconst 0, 1) := by decide +kernel
theorem dX4_clean_105 : decode cX4_clean 105 = .ok (.ireturn, 1) := by decide +kernel
theorem dX4_clean_106 : decode cX4_clean 106 = .ok (.iinc 3 1, 3) := by decide +kernel
theorem dX4_clean_109 : decode cX4_clean 109 = .ok (.goto (-50), 3) := by decide +kernel
theorem dX4_clean_112 : decode cX4_clean 112 = .ok (.iconst 0, 1) := by decide +kernel
theorem dX4_clean_113 : decode cX4_clean 113 = .ok (.istore_n 3, 1) := by decide +kernel
theorem dX4_clean_114 : decode cX4_clean 114 = .ok (.iload_n 3, 1) := by decide +kernel
theorem dX4_clean_115 : decode cX4_clean 115 = .ok (.iconst 4, 1) := by decide +kernel
theorem dX4_clean_116 : decode cX4_clean 116 = .ok (.if_icmp .ge 45, 3) := by decide +kernel
theorem dX4_clean_119 : decode cX4_clean 119 = .ok (.aload_n 0, 1) := by decide +kernel
theorem dX4_clean_120 : decode cX4_clean 120 = .ok (.getfield 47, 3) := by decide +kernel
theorem dX4_clean_123 : decode cX4_clean 123 = .ok (.iload_n 3, 1) := by decide +kernel
theorem dX4_clean_124 : decode cX4_clean 124 = .ok (.baload, 1) := by decide +kernel
theorem dX4_clean_125 : decode cX4_clean 125 = .ok (.ifCond .eq 30, 3) := by decide +kernel
theorem dX4_clean_128 : decode cX4_clean 128 = .ok (.iload_n 1, 1) := by decide +kernel
theorem dX4_clean_129 : decode cX4_clean 129 = .ok (.iconst (-1), 1) := by decide +kernel
theorem dX4_clean_130 : decode cX4_clean 130 = .ok (.if_icmp .eq 8, 3) := by decide +kernel
theorem dX4_clean_133 : decode cX4_clean 133 = .ok (.iload_n 1, 1) := by decide +kernel
theorem dX4_clean_134 : decode cX4_clean 134 = .ok (.iload_n 3, 1) := by decide +kernel
theorem dX4_clean_135 : decode cX4_clean 135 = .ok (.if_icmp .ne 20, 3) := by decide +kernel
theorem dX4_clean_138 : decode cX4_clean 138 = .ok (.aload_n 0, 1) := by decide +kernel
theorem dX4_clean_139 : decode cX4_clean 139 = .ok (.getfield 47, 3) := by decide +kernel
theorem dX4_clean_142 : decode cX4_clean 142 = .ok (.iload_n 3, 1) := by decide +kernel
theorem dX4_clean_143 : decode cX4_clean 143 = .ok (.iconst 0, 1) := by decide +kernel
theorem dX4_clean_144 : decode cX4_clean 144 = .ok (.bastore, 1) := by decide +kernel
theorem dX4_clean_145 : decode cX4_clean 145 = .ok (.aload_n 0, 1) := by decide +kernel
theorem dX4_clean_146 : decode cX4_clean 146 = .ok (.dup, 1) := by decide +kernel
theorem dX4_clean_147 : decode cX4_clean 147 = .ok (.getfield 106, 3) := by decide +kernel
theorem dX4_clean_150 : decode cX4_clean 150 = .ok (.iconst 1, 1) := by decide +kernel
theorem dX4_clean_151 : decode cX4_clean 151 = .ok (.iadd, 1) := by decide +kernel
theorem dX4_clean_152 : decode cX4_clean 152 = .ok (.putfield 106, 3) := by decide +kernel
theorem dX4_clean_155 : decode cX4_clean 155 = .ok (.iinc 3 1, 3) := by decide +kernel
theorem dX4_clean_158 : decode cX4_clean 158 = .ok (.goto (-44), 3) := by decide +kernel
theorem dX4_clean_161 : decode cX4_clean 161 = .ok (.iconst 1, 1) := by decide +kernel
theorem dX4_clean_162 : decode cX4_clean 162 = .ok (.ireturn, 1) := by decide +kernel
theorem dX4_bring_0 : decode cX4_bring 0 = .ok (.iconst (-1), 1) := by decide +kernel
theorem dX4_bring_1 : decode cX4_bring 1 = .ok (.istore_n 2, 1) := by decide +kernel
theorem dX4_bring_2 : decode cX4_bring 2 = .ok (.iconst 0, 1) := by decide +kernel
theorem dX4_bring_3 : decode cX4_bring 3 = .ok (.istore_n 3, 1) := by decide +kernel
theorem dX4_bring_4 : decode cX4_bring 4 = .ok (.iload_n 3, 1) := by decide +kernel
theorem dX4_bring_5 : decode cX4_bring 5 = .ok (.iconst 4, 1) := by decide +kernel
theorem dX4_bring_6 : decode cX4_bring 6 = .ok (.if_icmp .ge 25, 3) := by decide +kernel
theorem dX4_bring_9 : decode cX4_bring 9 = .ok (.aload_n 0, 1) := by decide +kernel
theorem dX4_bring_10 : decode cX4_bring 10 = .ok (.getfield 41, 3) := by decide +kernel
theorem dX4_bring_13 : decode cX4_bring 13 = .ok (.iload_n 3, 1) := by decide +kernel
theorem dX4_bring_14 : decode cX4_bring 14 = .ok (.iaload, 1) := by decide +kernel
theorem dX4_bring_15 : decode cX4_bring 15 = .ok (.iload_n 1, 1) := by decide +kernel
theorem dX4_bring_16 : decode cX4_bring 16 = .ok (.if_icmp .ne 7, 3) := by decide +kernel
theorem dX4_bring_19 : decode cX4_bring 19 = .ok (.iload_n 3, 1) := by decide +kernel
theorem dX4_bring_20 : decode cX4_bring 20 = .ok (.goto 4, 3) := by decide +kernel
theorem dX4_bring_23 : decode cX4_bring 23 = .ok (.iload_n 2, 1) := by decide +kernel
theorem dX4_bring_24 : decode cX4_bring 24 = .ok (.istore_n 2, 1) := by decide +kernel
theorem dX4_bring_25 : decode cX4_bring 25 = .ok (.iinc 3 1, 3) := by decide +kernel
theorem dX4_bring_28 : decode cX4_bring 28 = .ok (.goto (-24), 3) := by decide +kernel
theorem dX4_bring_31 : decode cX4_bring 31 = .ok (.iload_n 2, 1) := by decide +kernel
theorem dX4_bring_32 : decode cX4_bring 32 = .ok (.iconst (-1), 1) := by decide +kernel
theorem dX4_bring_33 : decode cX4_bring 33 = .ok (.if_icmp .ne 180, 3) := by decide +kernel
theorem dX4_bring_36 : decode cX4_bring 36 = .ok (.iconst (-1), 1) := by decide +kernel
theorem dX4_bring_37 : decode cX4_bring 37 = .ok (.istore_n 3, 1) := by decide +kernel
theorem dX4_bring_38 : decode cX4_bring 38 = .ok (.iconst 3, 1) := by decide +kernel
theorem dX4_bring_39 : decode cX4_bring 39 = .ok (.istore 4, 2) := by decide +kernel
theorem dX4_bring_41 : decode cX4_bring 41 = .ok (.iload 4, 2) := by decide +kernel
theorem dX4_bring_43 : decode cX4_bring 43 = .ok (.ifCond .lt 27, 3) := by decide +kernel
theorem dX4_bring_46 : decode cX4_bring 46 = .ok (.aload_n 0, 1) := by decide +kernel
theorem dX4_bring_47 : decode cX4_bring 47 = .ok (.getfield 41, 3) := by decide +kernel
theorem dX4_bring_50 : decode cX4_bring 50 = .ok (.iload 4, 2) := by decide +kernel
theorem dX4_bring_52 : decode cX4_bring 52 = .ok (.iaload, 1) := by decide +kernel
theorem dX4_bring_53 : decode cX4_bring 53 = .ok (.iconst (-1), 1) := by decide +kernel
theorem dX4_bring_54 : decode cX4_bring 54 = .ok (.if_icmp .ne 8, 3) := by decide +kernel
theorem dX4_bring_57 : decode cX4_bring 57 = .ok (.iload 4, 2) := by decide +kernel
theorem dX4_bring_59 : decode cX4_bring 59 = .ok (.goto 4, 3) := by decide +kernel
theorem dX4_bring_62 : decode cX4_bring 62 = .ok (.iload_n 3, 1) := by decide +kernel
theorem dX4_bring_63 : decode cX4_bring 63 = .ok (.istore_n 3, 1) := by decide +kernel
theorem dX4_bring_64 : decode cX4_bring 64 = .ok (.iinc 4 (-1), 3) := by decide +kernel
theorem dX4_bring_67 : decode cX4_bring 67 = .ok (.goto (-26), 3) := by decide +kernel
theorem dX4_bring_70 : decode cX4_bring 70 = .ok (.iload_n 3, 1) := by decide +kernel
theorem dX4_bring_71 : decode cX4_bring 71 = .ok (.istore_n 2, 1) := by decide +kernel
theorem dX4_bring_72 : decode cX4_bring 72 = .ok (.iload_n 3, 1) := by decide +kernel
theorem dX4_bring_73 : decode cX4_bring 73 = .ok (.iconst (-1), 1) := by decide +kernel
theorem dX4_bring_74 : decode cX4_bring 74 = .ok (.if_icmp .ne 71, 3) := by decide +kernel
theorem dX4_bring_77 : decode cX4_bring 77 = .ok (.iconst 0, 1) := by decide +kernel
theorem dX4_bring_78 : decode cX4_bring 78 = .ok (.istore 4, 2) := by decide +kernel
theorem dX4_bring_80 : decode cX4_bring 80 = .ok (.iconst 1, 1) := by decide +kernel
theorem dX4_bring_81 : decode cX4_bring 81 = .ok (.istore 5, 2) := by decide +kernel
theorem dX4_bring_83 : decode cX4_bring 83 = .ok (.iload 5, 2) := by decide +kernel
theorem dX4_bring_85 : decode cX4_bring 85 = .ok (.iconst 4, 1) := by decide +kernel
theorem dX4_bring_86 : decode cX4_bring 86 = .ok (.if_icmp .ge 35, 3) := by decide +kernel
theorem dX4_bring_89 : decode cX4_bring 89 = .ok (.aload_n 0, 1) := by decide +kernel
theorem dX4_bring_90 : decode cX4_bring 90 = .ok (.getfield 51, 3) := by decide +kernel
theorem dX4_bring_93 : decode cX4_bring 93 = .ok (.iload 5, 2) := by decide +kernel
theorem dX4_bring_95 : decode cX4_bring 95 = .ok (.iaload, 1) := by decide +kernel
theorem dX4_bring_96 : decode cX4_bring 96 = .ok (.aload_n 0, 1) := by decide +kernel
theorem dX4_bring_97 : decode cX4_bring 97 = .ok (.getfield 51, 3) := by decide +kernel
theorem dX4_bring_100 : decode cX4_bring 100 = .ok (.iload 4, 2) := by decide +kernel
theorem dX4_bring_102 : decode cX4_bring 102 = .ok (.iaload, 1) := by decide +kernel
theorem dX4_bring_103 : decode cX4_bring 103 = .ok (.if_icmp .ge 8, 3) := by decide +kernel
theorem dX4_bring_106 : decode cX4_bring 106 = .ok (.iload 5, 2) := by decide +kernel
theorem dX4_bring_108 : decode cX4_bring 108 = .ok (.goto 5, 3) := by decide +kernel
theorem dX4_bring_111 : decode cX4_bring 111 = .ok (.iload 4, 2) := by decide +kernel
theorem dX4_bring_113 : decode cX4_bring 113 = .ok (.istore 4, 2) := by decide +kernel
theorem dX4_bring_115 : decode cX4_bring 115 = .ok (.iinc 5 1, 3) := by decide +kernel
theorem dX4_bring_118 : decode cX4_bring 118 = .ok (.goto (-35), 3) := by decide +kernel
theorem dX4_bring_121 : decode cX4_bring 121 = .ok (.aload_n 0, 1) := by decide +kernel
theorem dX4_bring_122 : decode cX4_bring 122 = .ok (.getfield 47, 3) := by decide +kernel
theorem dX4_bring_125 : decode cX4_bring 125 = .ok (.iload 4, 2) := by decide +kernel
theorem dX4_bring_127 : decode cX4_bring 127 = .ok (.baload, 1) := by decide +kernel
theorem dX4_bring_128 : decode cX4_bring 128 = .ok (.ifCond .eq 14, 3) := by decide +kernel
theorem dX4_bring_131 : decode cX4_bring 131 = .ok (.aload_n 0, 1) := by decide +kernel
theorem dX4_bring_132 : decode cX4_bring 132 = .ok (.iload 4, 2) := by decide +kernel
theorem dX4_bring_134 : decode cX4_bring 134 = .ok (.invokevirtual 109, 3) := by decide +kernel
theorem dX4_bring_137 : decode cX4_bring 137 = .ok (.ifCond .ne 5, 3) := by decide +kernel
theorem dX4_bring_140 : decode cX4_bring 140 = .ok (.iconst (-1), 1) := by decide +kernel
theorem dX4_bring_141 : decode cX4_bring 141 = .ok (.ireturn, 1) := by decide +kernel
theorem dX4_bring_142 : decode cX4_bring 142 = .ok (.iload 4, 2) := by decide +kernel
theorem dX4_bring_144 : decode cX4_bring 144 = .ok (.istore_n 2, 1) := by decide +kernel
theorem dX4_bring_145 : decode cX4_bring 145 = .ok (.aload_n 0, 1) := by decide +kernel
theorem dX4_bring_146 : decode cX4_bring 146 = .ok (.getfield 41, 3) := by decide +kernel
theorem dX4_bring_149 : decode cX4_bring 149 = .ok (.iload_n 2, 1) := by decide +kernel
theorem dX4_bring_150 : decode cX4_bring 150 = .ok (.iload_n 1, 1) := by decide +kernel
theorem dX4_bring_151 : decode cX4_bring 151 = .ok (.iastore, 1) := by decide +kernel
theorem dX4_bring_152 : decode cX4_bring 152 = .ok (.aload_n 0, 1) := by decide +kernel
theorem dX4_bring_153 : decode cX4_bring 153 = .ok (.getfield 44, 3) := by decide +kernel
theorem dX4_bring_156 : decode cX4_bring 156 = .ok (.iload_n 2, 1) := by decide +kernel
theorem dX4_bring_157 : decode cX4_bring 157 = .ok (.aload_n 0, 1) := by decide +kernel
theorem dX4_bring_158 : decode cX4_bring 158 = .ok (.getfield 7, 3) := by decide +kernel
theorem dX4_bring_161 : decode cX4_bring 161 = .ok (.iconst 4, 1) := by decide +kernel
theorem dX4_bring_162 : decode cX4_bring 162 = .ok (.iload_n 1, 1) := by decide +kernel
theorem dX4_bring_163 : decode cX4_bring 163 = .ok (.imul, 1) := by decide +kernel
theorem dX4_bring_164 : decode cX4_bring 164 = .ok (.iaload, 1) := by decide +kernel
theorem dX4_bring_165 : decode cX4_bring 165 = .ok (.iastore, 1) := by decide +kernel
theorem dX4_bring_166 : decode cX4_bring 166 = .ok (.aload_n 0, 1) := by decide +kernel
theorem dX4_bring_167 : decode cX4_bring 167 = .ok (.getfield 47, 3) := by decide +kernel
theorem dX4_bring_170 : decode cX4_bring 170 = .ok (.iload_n 2, 1) := by decide +kernel
theorem dX4_bring_171 : decode cX4_bring 171 = .ok (.iconst 0, 1) := by decide +kernel
theorem dX4_bring_172 : decode cX4_bring 172 = .ok (.bastore, 1) := by decide +kernel
theorem dX4_bring_173 : decode cX4_bring 173 = .ok (.iconst 0, 1) := by decide +kernel
theorem dX4_bring_174 : decode cX4_bring 174 = .ok (.istore 4, 2) := by decide +kernel
theorem dX4_bring_176 : decode cX4_bring 176 = .ok (.iload 4, 2) := by decide +kernel
theorem dX4_bring_178 : decode cX4_bring 178 = .ok (.bipush 16, 2) := by decide +kernel
theorem dX4_bring_180 : decode cX4_bring 180 = .ok (.if_icmp .ge 33, 3) := by decide +kernel
theorem dX4_bring_183 : decode cX4_bring 183 = .ok (.aload_n 0, 1) := by decide +kernel
theorem dX4_bring_184 : decode cX4_bring 184 = .ok (.getfield 54, 3) := by decide +kernel
theorem dX4_bring_187 : decode cX4_bring 187 = .ok (.bipush 16, 2) := by decide +kernel
theorem dX4_bring_189 : decode cX4_bring 189 = .ok (.iload_n 2, 1) := by decide +kernel
theorem dX4_bring_190 : decode cX4_bring 190 = .ok (.imul, 1) := by decide +kernel
theorem dX4_bring_191 : decode cX4_bring 191 = .ok (.iload 4, 2) := by decide +kernel
theorem dX4_bring_193 : decode cX4_bring 193 = .ok (.iadd, 1) := by decide +kernel
theorem dX4_bring_194 : decode cX4_bring 194 = .ok (.aload_n 0, 1) := by decide +kernel
theorem dX4_bring_195 : decode cX4_bring 195 = .ok (.getfield 13, 3) := by decide +kernel
theorem dX4_bring_198 : decode cX4_bring 198 = .ok (.bipush 16, 2) := by decide +kernel
theorem dX4_bring_200 : decode cX4_bring 200 = .ok (.iload_n 1, 1) := by decide +kernel
theorem dX4_bring_201 : decode cX4_bring 201 = .ok (.imul, 1) := by decide +kernel
theorem dX4_bring_202 : decode cX4_bring 202 = .ok (.iload 4, 2) := by decide +kernel
theorem dX4_bring_204 : decode cX4_bring 204 = .ok (.iadd, 1) := by decide +kernel
theorem dX4_bring_205 : decode cX4_bring 205 = .ok (.iaload, 1) := by decide +kernel
theorem dX4_bring_206 : decode cX4_bring 206 = .ok (.iastore, 1) := by decide +kernel
theorem dX4_bring_207 : decode cX4_bring 207 = .ok (.iinc 4 1, 3) := by decide +kernel
theorem dX4_bring_210 : decode cX4_bring 210 = .ok (.goto (-34), 3) := by decide +kernel
theorem dX4_bring_213 : decode cX4_bring 213 = .ok (.aload_n 0, 1) := by decide +kernel
theorem dX4_bring_214 : decode cX4_bring 214 = .ok (.dup, 1) := by decide +kernel
theorem dX4_bring_215 : decode cX4_bring 215 = .ok (.getfield 113, 3) := by decide +kernel
theorem dX4_bring_218 : decode cX4_bring 218 = .ok (.iconst 1, 1) := by decide +kernel
theorem dX4_bring_219 : decode cX4_bring 219 = .ok (.iadd, 1) := by decide +kernel
theorem dX4_bring_220 : decode cX4_bring 220 = .ok (.putfield 113, 3) := by decide +kernel
theorem dX4_bring_223 : decode cX4_bring 223 = .ok (.aload_n 0, 1) := by decide +kernel
theorem dX4_bring_224 : decode cX4_bring 224 = .ok (.getfield 51, 3) := by decide +kernel
theorem dX4_bring_227 : decode cX4_bring 227 = .ok (.iload_n 2, 1) := by decide +kernel
theorem dX4_bring_228 : decode cX4_bring 228 = .ok (.aload_n 0, 1) := by decide +kernel
theorem dX4_bring_229 : decode cX4_bring 229 = .ok (.getfield 113, 3) := by decide +kernel
theorem dX4_bring_232 : decode cX4_bring 232 = .ok (.iastore, 1) := by decide +kernel
theorem dX4_bring_233 : decode cX4_bring 233 = .ok (.iload_n 2, 1) := by decide +kernel
theorem dX4_bring_234 : decode cX4_bring 234 = .ok (.ireturn, 1) := by decide +kernel
theorem dX4_check_0 : decode cX4_check 0 = .ok (.aload_n 0, 1) := by decide +kernel
theorem dX4_check_1 : decode cX4_check 1 = .ok (.getfield 106, 3) := by decide +kernel
theorem dX4_check_4 : decode cX4_check 4 = .ok (.istore_n 1, 1) := by decide +kernel
theorem dX4_check_5 : decode cX4_check 5 = .ok (.aload_n 0, 1) := by decide +kernel
theorem dX4_check_6 : decode cX4_check 6 = .ok (.iconst (-1), 1) := by decide +kernel
theorem dX4_check_7 : decode cX4_check 7 = .ok (.invokevirtual 109, 3) := by decide +kernel
theorem dX4_check_10 : decode cX4_check 10 = .ok (.ifCond .eq 10, 3) := by decide +kernel
theorem dX4_check_13 : decode cX4_check 13 = .ok (.aload_n 0, 1) := by decide +kernel
theorem dX4_check_14 : decode cX4_check 14 = .ok (.invokevirtual 91, 3) := by decide +kernel
theorem dX4_check_17 : decode cX4_check 17 = .ok (.ifCond .ne 6, 3) := by decide +kernel
theorem dX4_check_20 : decode cX4_check 20 = .ok (.bipush (-3), 2) := by decide +kernel
theorem dX4_check_22 : decode cX4_check 22 = .ok (.ireturn, 1) := by decide +kernel
theorem dX4_check_23 : decode cX4_check 23 = .ok (.aload_n 0, 1) := by decide +kernel
theorem dX4_check_24 : decode cX4_check 24 = .ok (.aload_n 0, 1) := by decide +kernel
theorem dX4_check_25 : decode cX4_check 25 = .ok (.getfield 57, 3) := by decide +kernel
theorem dX4_check_28 : decode cX4_check 28 = .ok (.putfield 37, 3) := by decide +kernel
theorem dX4_check_31 : decode cX4_check 31 = .ok (.aload_n 0, 1) := by decide +kernel
theorem dX4_check_32 : decode cX4_check 32 = .ok (.getfield 106, 3) := by decide +kernel
theorem dX4_check_35 : decode cX4_check 35 = .ok (.iload_n 1, 1) := by decide +kernel
theorem dX4_check_36 : decode cX4_check 36 = .ok (.isub, 1) := by decide +kernel
theorem dX4_check_37 : decode cX4_check 37 = .ok (.ireturn, 1) := by decide +kernel
theorem dX4_room_0 : decode cX4_room 0 = .ok (.aload_n 0, 1) := by decide +kernel
theorem dX4_room_1 : decode cX4_room 1 = .ok (.getfield 37, 3) := by decide +kernel
theorem dX4_room_4 : decode cX4_room 4 = .ok (.bipush 12, 2) := by decide +kernel
theorem dX4_room_6 : decode cX4_room 6 = .ok (.iadd, 1) := by decide +kernel
theorem dX4_room_7 : decode cX4_room 7 = .ok (.aload_n 0, 1) := by decide +kernel
theorem dX4_room_8 : decode cX4_room 8 = .ok (.getfield 57, 3) := by decide +kernel
theorem dX4_room_11 : decode cX4_room 11 = .ok (.isub, 1) := by decide +kernel
theorem dX4_room_12 : decode cX4_room 12 = .ok (.ireturn, 1) := by decide +kernel
theorem dX4_change_0 : decode cX4_change 0 = .ok (.aload_n 0, 1) := by decide +kernel
theorem dX4_change_1 : decode cX4_change 1 = .ok (.iconst 0, 1) := by decide +kernel
theorem dX4_change_2 : decode cX4_change 2 = .ok (.putfield 75, 3) := by decide +kernel
theorem dX4_change_5 : decode cX4_change 5 = .ok (.aload_n 0, 1) := by decide +kernel
theorem dX4_change_6 : decode cX4_change 6 = .ok (.iload_n 1, 1) := by decide +kernel
theorem dX4_change_7 : decode cX4_change 7 = .ok (.iconst 0, 1) := by decide +kernel
theorem dX4_change_8 : decode cX4_change 8 = .ok (.bipush 11, 2) := by decide +kernel
theorem dX4_change_10 : decode cX4_change 10 = .ok (.invokestatic 116, 3) := by decide +kernel
theorem dX4_change_13 : decode cX4_change 13 = .ok (.ifCond .eq 26, 3) := by decide +kernel
theorem dX4_change_16 : decode cX4_change 16 = .ok (.iload_n 2, 1) := by decide +kernel
theorem dX4_change_17 : decode cX4_change 17 = .ok (.iconst 0, 1) := by decide +kernel
theorem dX4_change_18 : decode cX4_change 18 = .ok (.bipush 15, 2) := by decide +kernel
theorem dX4_change_20 : decode cX4_change 20 = .ok (.invokestatic 116, 3) := by decide +kernel
theorem dX4_change_23 : decode cX4_change 23 = .ok (.ifCond .eq 16, 3) := by decide +kernel
theorem dX4_change_26 : decode cX4_change 26 = .ok (.iload_n 3, 1) := by decide +kernel
theorem dX4_change_27 : decode cX4_change 27 = .ok (.iconst 1, 1) := by decide +kernel
theorem dX4_change_28 : decode cX4_change 28 = .ok (.if_icmp .lt 11, 3) := by decide +kernel
theorem dX4_change_31 : decode cX4_change 31 = .ok (.iload_n 3, 1) := by decide +kernel
theorem dX4_change_32 : decode cX4_change 32 = .ok (.bipush 16, 2) := by decide +kernel
theorem dX4_change_34 : decode cX4_change 34 = .ok (.iload_n 2, 1) := by decide +kernel
theorem dX4_change_35 : decode cX4_change 35 = .ok (.isub, 1) := by decide +kernel
theorem dX4_change_36 : decode cX4_change 36 = .ok (.if_icmp .le 7, 3) := by decide +kernel
theorem dX4_change_39 : decode cX4_change 39 = .ok (.iconst 1, 1) := by decide +kernel
theorem dX4_change_40 : decode cX4_change 40 = .ok (.goto 4, 3) := by decide +kernel
theorem dX4_change_43 : decode cX4_change 43 = .ok (.iconst 0, 1) := by decide +kernel
theorem dX4_change_44 : decode cX4_change 44 = .ok (.iconst 1, 1) := by decide +kernel
theorem dX4_change_45 : decode cX4_change 45 = .ok (.invokevirtual 120, 3) := by decide +kernel
theorem dX4_change_48 : decode cX4_change 48 = .ok (.ifCond .ne 15, 3) := by decide +kernel
theorem dX4_change_51 : decode cX4_change 51 = .ok (.aload_n 0, 1) := by decide +kernel
theorem dX4_change_52 : decode cX4_change 52 = .ok (.aload_n 0, 1) := by decide +kernel
theorem dX4_change_53 : decode cX4_change 53 = .ok (.getfield 78, 3) := by decide +kernel
theorem dX4_change_56 : decode cX4_change 56 = .ok (.iconst 2, 1) := by decide +kernel
theorem dX4_change_57 : decode cX4_change 57 = .ok (.invokevirtual 120, 3) := by decide +kernel
theorem dX4_change_60 : decode cX4_change 60 = .ok (.ifCond .eq 5, 3) := by decide +kernel
theorem dX4_change_63 : decode cX4_change 63 = .ok (.iconst 0, 1) := by decide +kernel
theorem dX4_change_64 : decode cX4_change 64 = .ok (.ireturn, 1) := by decide +kernel
theorem dX4_change_65 : decode cX4_change 65 = .ok (.aload_n 0, 1) := by decide +kernel
theorem dX4_change_66 : decode cX4_change 66 = .ok (.invokevirtual 124, 3) := by decide +kernel
theorem dX4_change_69 : decode cX4_change 69 = .ok (.iload_n 3, 1) := by decide +kernel
theorem dX4_change_70 : decode cX4_change 70 = .ok (.if_icmp .ge 15, 3) := by decide +kernel
theorem dX4_change_73 : decode cX4_change 73 = .ok (.aload_n 0, 1) := by decide +kernel
theorem dX4_change_74 : decode cX4_change 74 = .ok (.invokevirtual 128, 3) := by decide +kernel
theorem dX4_change_77 : decode cX4_change 77 = .ok (.bipush (-3), 2) := by decide +kernel
theorem dX4_change_79 : decode cX4_change 79 = .ok (.if_icmp .ne 6, 3) := by decide +kernel
theorem dX4_change_82 : decode cX4_change 82 = .ok (.bipush (-3), 2) := by decide +kernel
theorem dX4_change_84 : decode cX4_change 84 = .ok (.ireturn, 1) := by decide +kernel
theorem dX4_change_85 : decode cX4_change 85 = .ok (.aload_n 0, 1) := by decide +kernel
theorem dX4_change_86 : decode cX4_change 86 = .ok (.invokevirtual 124, 3) := by decide +kernel
theorem dX4_change_89 : decode cX4_change 89 = .ok (.iload_n 3, 1) := by decide +kernel
theorem dX4_change_90 : decode cX4_change 90 = .ok (.if_icmp .ge 6, 3) := by decide +kernel
theorem dX4_change_93 : decode cX4_change 93 = .ok (.bipush (-2), 2) := by decide +kernel
theorem dX4_change_95 : decode cX4_change 95 = .ok (.ireturn, 1) := by decide +kernel
theorem dX4_change_96 : decode cX4_change 96 = .ok (.iload 4, 2) := by decide +kernel
theorem dX4_change_98 : decode cX4_change 98 = .ok (.istore 6, 2) := by decide +kernel
theorem dX4_change_100 : decode cX4_change 100 = .ok (.iconst 0, 1) := by decide +kernel
theorem dX4_change_101 : decode cX4_change 101 = .ok (.istore 7, 2) := by decide +kernel
theorem dX4_change_103 : decode cX4_change 103 = .ok (.iload 7, 2) := by decide +kernel
theorem dX4_change_105 : decode cX4_change 105 = .ok (.iload_n 3, 1) := by decide +kernel
theorem dX4_change_106 : decode cX4_change 106 = .ok (.if_icmp .ge 135, 3) := by decide +kernel
theorem dX4_change_109 : decode cX4_change 109 = .ok (.aload_n 0, 1) := by decide +kernel
theorem dX4_change_110 : decode cX4_change 110 = .ok (.iload_n 1, 1) := by decide +kernel
theorem dX4_change_111 : decode cX4_change 111 = .ok (.invokevirtual 131, 3) := by decide +kernel
theorem dX4_change_114 : decode cX4_change 114 = .ok (.istore 8, 2) := by decide +kernel
theorem dX4_change_116 : decode cX4_change 116 = .ok (.iload 8, 2) := by decide +kernel
theorem dX4_change_118 : decode cX4_change 118 = .ok (.iconst (-1), 1) := by decide +kernel
theorem dX4_change_119 : decode cX4_change 119 = .ok (.if_icmp .ne 6, 3) := by decide +kernel
theorem dX4_change_122 : decode cX4_change 122 = .ok (.bipush (-3), 2) := by decide +kernel
theorem dX4_change_124 : decode cX4_change 124 = .ok (.ireturn, 1) := by decide +kernel
theorem dX4_change_125 : decode cX4_change 125 = .ok (.aload_n 0, 1) := by decide +kernel
theorem dX4_change_126 : decode cX4_change 126 = .ok (.getfield 54, 3) := by decide +kernel
theorem dX4_change_129 : decode cX4_change 129 = .ok (.bipush 16, 2) := by decide +kernel
theorem dX4_change_131 : decode cX4_change 131 = .ok (.iload 8, 2) := by decide +kernel
theorem dX4_change_133 : decode cX4_change 133 = .ok (.imul, 1) := by decide +kernel
theorem dX4_change_134 : decode cX4_change 134 = .ok (.iload_n 2, 1) := by decide +kernel
theorem dX4_change_135 : decode cX4_change 135 = .ok (.iadd, 1) := by decide +kernel
theorem dX4_change_136 : decode cX4_change 136 = .ok (.iload 7, 2) := by decide +kernel
theorem dX4_change_138 : decode cX4_change 138 = .ok (.iadd, 1) := by decide +kernel
theorem dX4_change_139 : decode cX4_change 139 = .ok (.iload 6, 2) := by decide +kernel
theorem dX4_change_141 : decode cX4_change 141 = .ok (.iastore, 1) := by decide +kernel
theorem dX4_change_142 : decode cX4_change 142 = .ok (.aload_n 0, 1) := by decide +kernel
theorem dX4_change_143 : decode cX4_change 143 = .ok (.getfield 44, 3) := by decide +kernel
theorem dX4_change_146 : decode cX4_change 146 = .ok (.iload 8, 2) := by decide +kernel
theorem dX4_change_148 : decode cX4_change 148 = .ok (.aload_n 0, 1) := by decide +kernel
theorem dX4_change_149 : decode cX4_change 149 = .ok (.getfield 57, 3) := by decide +kernel
theorem dX4_change_152 : decode cX4_change 152 = .ok (.iastore, 1) := by decide +kernel
theorem dX4_change_153 : decode cX4_change 153 = .ok (.aload_n 0, 1) := by decide +kernel
theorem dX4_change_154 : decode cX4_change 154 = .ok (.getfield 47, 3) := by decide +kernel
theorem dX4_change_157 : decode cX4_change 157 = .ok (.iload 8, 2) := by decide +kernel
theorem dX4_change_159 : decode cX4_change 159 = .ok (.iconst 1, 1) := by decide +kernel
theorem dX4_change_160 : decode cX4_change 160 = .ok (.bastore, 1) := by decide +kernel
theorem dX4_change_161 : decode cX4_change 161 = .ok (.aload_n 0, 1) := by decide +kernel
theorem dX4_change_162 : decode cX4_change 162 = .ok (.getfield 60, 3) := by decide +kernel
theorem dX4_change_165 : decode cX4_change 165 = .ok (.aload_n 0, 1) := by decide +kernel
theorem dX4_change_166 : decode cX4_change 166 = .ok (.getfield 82, 3) := by decide +kernel
theorem dX4_change_169 : decode cX4_change 169 = .ok (.aload_n 0, 1) := by decide +kernel
theorem dX4_change_170 : decode cX4_change 170 = .ok (.getfield 57, 3) := by decide +kernel
theorem dX4_change_173 : decode cX4_change 173 = .ok (.iastore, 1) := by decide +kernel
theorem dX4_change_174 : decode cX4_change 174 = .ok (.aload_n 0, 1) := by decide +kernel
theorem dX4_change_175 : decode cX4_change 175 = .ok (.getfield 63, 3) := by decide +kernel
theorem dX4_change_178 : decode cX4_change 178 = .ok (.aload_n 0, 1) := by decide +kernel
theorem dX4_change_179 : decode cX4_change 179 = .ok (.getfield 82, 3) := by decide +kernel
theorem dX4_change_182 : decode cX4_change 182 = .ok (.iload_n 1, 1) := by decide +kernel
theorem dX4_change_183 : decode cX4_change 183 = .ok (.iastore, 1) := by decide +kernel
theorem dX4_change_184 : decode cX4_change 184 = .ok (.aload_n 0, 1) := by decide +kernel
theorem dX4_change_185 : decode cX4_change 185 = .ok (.getfield 66, 3) := by decide +kernel
theorem dX4_change_188 : decode cX4_change 188 = .ok (.aload_n 0, 1) := by decide +kernel
theorem dX4_change_189 : decode cX4_change 189 = .ok (.getfield 82, 3) := by decide +kernel
theorem dX4_change_192 : decode cX4_change 192 = .ok (.iload_n 2, 1) := by decide +kernel
theorem dX4_change_193 : decode cX4_change 193 = .ok (.iload 7, 2) := by decide +kernel
theorem dX4_change_195 : decode cX4_change 195 = .ok (.iadd, 1) := by decide +kernel
theorem dX4_change_196 : decode cX4_change 196 = .ok (.iastore, 1) := by decide +kernel
theorem dX4_change_197 : decode cX4_change 197 = .ok (.aload_n 0, 1) := by decide +kernel
theorem dX4_change_198 : decode cX4_change 198 = .ok (.getfield 69, 3) := by decide +kernel
theorem dX4_change_201 : decode cX4_change 201 = .ok (.aload_n 0, 1) := by decide +kernel
theorem dX4_change_202 : decode cX4_change 202 = .ok (.getfield 82, 3) := by decide +kernel
theorem dX4_change_205 : decode cX4_change 205 = .ok (.iload 6, 2) := by decide +kernel
theorem dX4_change_207 : decode cX4_change 207 = .ok (.iastore, 1) := by decide +kernel
theorem dX4_change_208 : decode cX4_change 208 = .ok (.aload_n 0, 1) := by decide +kernel
theorem dX4_change_209 : decode cX4_change 209 = .ok (.dup, 1) := by decide +kernel
theorem dX4_change_210 : decode cX4_change 210 = .ok (.getfield 82, 3) := by decide +kernel
theorem dX4_change_213 : decode cX4_change 213 = .ok (.iconst 1, 1) := by decide +kernel
theorem dX4_change_214 : decode cX4_change 214 = .ok (.iadd, 1) := by decide +kernel
theorem dX4_change_215 : decode cX4_change 215 = .ok (.putfield 82, 3) := by decide +kernel
theorem dX4_change_218 : decode cX4_change 218 = .ok (.aload_n 0, 1) := by decide +kernel
theorem dX4_change_219 : decode cX4_change 219 = .ok (.dup, 1) := by decide +kernel
theorem dX4_change_220 : decode cX4_change 220 = .ok (.getfield 57, 3) := by decide +kernel
theorem dX4_change_223 : decode cX4_change 223 = .ok (.iconst 1, 1) := by decide +kernel
theorem dX4_change_224 : decode cX4_change 224 = .ok (.iadd, 1) := by decide +kernel
theorem dX4_change_225 : decode cX4_change 225 = .ok (.putfield 57, 3) := by decide +kernel
theorem dX4_change_228 : decode cX4_change 228 = .ok (.iload 6, 2) := by decide +kernel
theorem dX4_change_230 : decode cX4_change 230 = .ok (.iload 5, 2) := by decide +kernel
theorem dX4_change_232 : decode cX4_change 232 = .ok (.iadd, 1) := by decide +kernel
theorem dX4_change_233 : decode cX4_change 233 = .ok (.istore 6, 2) := by decide +kernel
theorem dX4_change_235 : decode cX4_change 235 = .ok (.iinc 7 1, 3) := by decide +kernel
theorem dX4_change_238 : decode cX4_change 238 = .ok (.goto (-135), 3) := by decide +kernel
theorem dX4_change_241 : decode cX4_change 241 = .ok (.aload_n 0, 1) := by decide +kernel
theorem dX4_change_242 : decode cX4_change 242 = .ok (.getfield 57, 3) := by decide +kernel
theorem dX4_change_245 : decode cX4_change 245 = .ok (.iconst 1, 1) := by decide +kernel
theorem dX4_change_246 : decode cX4_change 246 = .ok (.isub, 1) := by decide +kernel
theorem dX4_change_247 : decode cX4_change 247 = .ok (.ireturn, 1) := by decide +kernel
theorem dX4_read_0 : decode cX4_read 0 = .ok (.aload_n 0, 1) := by decide +kernel
theorem dX4_read_1 : decode cX4_read 1 = .ok (.iconst 0, 1) := by decide +kernel
theorem dX4_read_2 : decode cX4_read 2 = .ok (.putfield 75, 3) := by decide +kernel
theorem dX4_read_5 : decode cX4_read 5 = .ok (.aload_n 0, 1) := by decide +kernel
theorem dX4_read_6 : decode cX4_read 6 = .ok (.iload_n 1, 1) := by decide +kernel
theorem dX4_read_7 : decode cX4_read 7 = .ok (.iconst 0, 1) := by decide +kernel
theorem dX4_read_8 : decode cX4_read 8 = .ok (.bipush 11, 2) := by decide +kernel
theorem dX4_read_10 : decode cX4_read 10 = .ok (.invokestatic 116, 3) := by decide +kernel
theorem dX4_read_13 : decode cX4_read 13 = .ok (.ifCond .eq 13, 3) := by decide +kernel
theorem dX4_read_16 : decode cX4_read 16 = .ok (.iload_n 2, 1) := by decide +kernel
theorem dX4_read_17 : decode cX4_read 17 = .ok (.iconst 0, 1) := by decide +kernel
theorem dX4_read_18 : decode cX4_read 18 = .ok (.bipush 15, 2) := by decide +kernel
theorem dX4_read_20 : decode cX4_read 20 = .ok (.invokestatic 116, 3) := by decide +kernel
theorem dX4_read_23 : decode cX4_read 23 = .ok (.ifCond .ne 7, 3) := by decide +kernel
theorem dX4_read_26 : decode cX4_read 26 = .ok (.iconst 1, 1) := by decide +kernel
theorem dX4_read_27 : decode cX4_read 27 = .ok (.goto 4, 3) := by decide +kernel
theorem dX4_read_30 : decode cX4_read 30 = .ok (.iconst 0, 1) := by decide +kernel
theorem dX4_read_31 : decode cX4_read 31 = .ok (.iconst 1, 1) := by decide +kernel
theorem dX4_read_32 : decode cX4_read 32 = .ok (.invokevirtual 120, 3) := by decide +kernel
theorem dX4_read_35 : decode cX4_read 35 = .ok (.ifCond .ne 15, 3) := by decide +kernel
theorem dX4_read_38 : decode cX4_read 38 = .ok (.aload_n 0, 1) := by decide +kernel
theorem dX4_read_39 : decode cX4_read 39 = .ok (.aload_n 0, 1) := by decide +kernel
theorem dX4_read_40 : decode cX4_read 40 = .ok (.getfield 78, 3) := by decide +kernel
theorem dX4_read_43 : decode cX4_read 43 = .ok (.iconst 2, 1) := by decide +kernel
theorem dX4_read_44 : decode cX4_read 44 = .ok (.invokevirtual 120, 3) := by decide +kernel
theorem dX4_read_47 : decode cX4_read 47 = .ok (.ifCond .eq 5, 3) := by decide +kernel
theorem dX4_read_50 : decode cX4_read 50 = .ok (.iconst 0, 1) := by decide +kernel
theorem dX4_read_51 : decode cX4_read 51 = .ok (.ireturn, 1) := by decide +kernel
theorem dX4_read_52 : decode cX4_read 52 = .ok (.aload_n 0, 1) := by decide +kernel
theorem dX4_read_53 : decode cX4_read 53 = .ok (.iload_n 1, 1) := by decide +kernel
theorem dX4_read_54 : decode cX4_read 54 = .ok (.invokevirtual 131, 3) := by decide +kernel
theorem dX4_read_57 : decode cX4_read 57 = .ok (.istore_n 3, 1) := by decide +kernel
theorem dX4_read_58 : decode cX4_read 58 = .ok (.aload_n 0, 1) := by decide +kernel
theorem dX4_read_59 : decode cX4_read 59 = .ok (.iload_n 3, 1) := by decide +kernel
theorem dX4_read_60 : decode cX4_read 60 = .ok (.iconst (-1), 1) := by decide +kernel
theorem dX4_read_61 : decode cX4_read 61 = .ok (.if_icmp .ne 7, 3) := by decide +kernel
theorem dX4_read_64 : decode cX4_read 64 = .ok (.iconst 0, 1) := by decide +kernel
theorem dX4_read_65 : decode cX4_read 65 = .ok (.goto 14, 3) := by decide +kernel
theorem dX4_read_68 : decode cX4_read 68 = .ok (.aload_n 0, 1) := by decide +kernel
theorem dX4_read_69 : decode cX4_read 69 = .ok (.getfield 54, 3) := by decide +kernel
theorem dX4_read_72 : decode cX4_read 72 = .ok (.bipush 16, 2) := by decide +kernel
theorem dX4_read_74 : decode cX4_read 74 = .ok (.iload_n 3, 1) := by decide +kernel
theorem dX4_read_75 : decode cX4_read 75 = .ok (.imul, 1) := by decide +kernel
theorem dX4_read_76 : decode cX4_read 76 = .ok (.iload_n 2, 1) := by decide +kernel
theorem dX4_read_77 : decode cX4_read 77 = .ok (.iadd, 1) := by decide +kernel
theorem dX4_read_78 : decode cX4_read 78 = .ok (.iaload, 1) := by decide +kernel
theorem dX4_read_79 : decode cX4_read 79 = .ok (.putfield 135, 3) := by decide +kernel
theorem dX4_read_82 : decode cX4_read 82 = .ok (.iload_n 3, 1) := by decide +kernel
theorem dX4_read_83 : decode cX4_read 83 = .ok (.iconst (-1), 1) := by decide +kernel
theorem dX4_read_84 : decode cX4_read 84 = .ok (.if_icmp .ne 8, 3) := by decide +kernel
theorem dX4_read_87 : decode cX4_read 87 = .ok (.bipush (-3), 2) := by decide +kernel
theorem dX4_read_89 : decode cX4_read 89 = .ok (.goto 4, 3) := by decide +kernel
theorem dX4_read_92 : decode cX4_read 92 = .ok (.iconst 1, 1) := by decide +kernel
theorem dX4_read_93 : decode cX4_read 93 = .ok (.ireturn, 1) := by decide +kernel
theorem dX4_got_0 : decode cX4_got 0 = .ok (.aload_n 0, 1) := by decide +kernel
theorem dX4_got_1 : decode cX4_got 1 = .ok (.iconst 0, 1) := by decide +kernel
theorem dX4_got_2 : decode cX4_got 2 = .ok (.putfield 75, 3) := by decide +kernel
theorem dX4_got_5 : decode cX4_got 5 = .ok (.aload_n 0, 1) := by decide +kernel
theorem dX4_got_6 : decode cX4_got 6 = .ok (.getfield 135, 3) := by decide +kernel
theorem dX4_got_9 : decode cX4_got 9 = .ok (.ireturn, 1) := by decide +kernel
theorem dX4_sync_0 : decode cX4_sync 0 = .ok (.aload_n 0, 1) := by decide +kernel
theorem dX4_sync_1 : decode cX4_sync 1 = .ok (.iconst 0, 1) := by decide +kernel
theorem dX4_sync_2 : decode cX4_sync 2 = .ok (.putfield 75, 3) := by decide +kernel
theorem dX4_sync_5 : decode cX4_sync 5 = .ok (.aload_n 0, 1) := by decide +kernel
theorem dX4_sync_6 : decode cX4_sync 6 = .ok (.aload_n 0, 1) := by decide +kernel
theorem dX4_sync_7 : decode cX4_sync 7 = .ok (.getfield 78, 3) := by decide +kernel
theorem dX4_sync_10 : decode cX4_sync 10 = .ok (.iconst 1, 1) := by decide +kernel
theorem dX4_sync_11 : decode cX4_sync 11 = .ok (.invokevirtual 120, 3) := by decide +kernel
theorem dX4_sync_14 : decode cX4_sync 14 = .ok (.ifCond .eq 5, 3) := by decide +kernel
theorem dX4_sync_17 : decode cX4_sync 17 = .ok (.iconst 0, 1) := by decide +kernel
theorem dX4_sync_18 : decode cX4_sync 18 = .ok (.ireturn, 1) := by decide +kernel
theorem dX4_sync_19 : decode cX4_sync 19 = .ok (.aload_n 0, 1) := by decide +kernel
theorem dX4_sync_20 : decode cX4_sync 20 = .ok (.getfield 82, 3) := by decide +kernel
theorem dX4_sync_23 : decode cX4_sync 23 = .ok (.istore_n 1, 1) := by decide +kernel
theorem dX4_sync_24 : decode cX4_sync 24 = .ok (.aload_n 0, 1) := by decide +kernel
theorem dX4_sync_25 : decode cX4_sync 25 = .ok (.invokevirtual 95, 3) := by decide +kernel
theorem dX4_sync_28 : decode cX4_sync 28 = .ok (.ifCond .eq 7, 3) := by decide +kernel
theorem dX4_sync_31 : decode cX4_sync 31 = .ok (.iload_n 1, 1) := by decide +kernel
theorem dX4_sync_32 : decode cX4_sync 32 = .ok (.goto 5, 3) := by decide +kernel
theorem dX4_sync_35 : decode cX4_sync 35 = .ok (.bipush (-3), 2) := by decide +kernel
theorem dX4_sync_37 : decode cX4_sync 37 = .ok (.ireturn, 1) := by decide +kernel
theorem dX4_checkpoint_0 : decode cX4_checkpoint 0 = .ok (.aload_n 0, 1) := by decide +kernel
theorem dX4_checkpoint_1 : decode cX4_checkpoint 1 = .ok (.iconst 0, 1) := by decide +kernel
theorem dX4_checkpoint_2 : decode cX4_checkpoint 2 = .ok (.putfield 75, 3) := by decide +kernel
theorem dX4_checkpoint_5 : decode cX4_checkpoint 5 = .ok (.aload_n 0, 1) := by decide +kernel
theorem dX4_checkpoint_6 : decode cX4_checkpoint 6 = .ok (.aload_n 0, 1) := by decide +kernel
theorem dX4_checkpoint_7 : decode cX4_checkpoint 7 = .ok (.getfield 78, 3) := by decide +kernel
theorem dX4_checkpoint_10 : decode cX4_checkpoint 10 = .ok (.iconst 1, 1) := by decide +kernel
theorem dX4_checkpoint_11 : decode cX4_checkpoint 11 = .ok (.invokevirtual 120, 3) := by decide +kernel
theorem dX4_checkpoint_14 : decode cX4_checkpoint 14 = .ok (.ifCond .eq 7, 3) := by decide +kernel
theorem dX4_checkpoint_17 : decode cX4_checkpoint 17 = .ok (.iconst 0, 1) := by decide +kernel
theorem dX4_checkpoint_18 : decode cX4_checkpoint 18 = .ok (.goto 7, 3) := by decide +kernel
theorem dX4_checkpoint_21 : decode cX4_checkpoint 21 = .ok (.aload_n 0, 1) := by decide +kernel
theorem dX4_checkpoint_22 : decode cX4_checkpoint 22 = .ok (.invokevirtual 128, 3) := by decide +kernel
theorem dX4_checkpoint_25 : decode cX4_checkpoint 25 = .ok (.ireturn, 1) := by decide +kernel
theorem dX4_power_0 : decode cX4_power 0 = .ok (.aload_n 0, 1) := by decide +kernel
theorem dX4_power_1 : decode cX4_power 1 = .ok (.iconst 0, 1) := by decide +kernel
theorem dX4_power_2 : decode cX4_power 2 = .ok (.putfield 75, 3) := by decide +kernel
theorem dX4_power_5 : decode cX4_power 5 = .ok (.aload_n 0, 1) := by decide +kernel
theorem dX4_power_6 : decode cX4_power 6 = .ok (.iload_n 1, 1) := by decide +kernel
theorem dX4_power_7 : decode cX4_power 7 = .ok (.iconst (-1), 1) := by decide +kernel
theorem dX4_power_8 : decode cX4_power 8 = .ok (.sipush 10000, 3) := by decide +kernel
theorem dX4_power_11 : decode cX4_power 11 = .ok (.invokestatic 116, 3) := by decide +kernel
theorem dX4_power_14 : decode cX4_power 14 = .ok (.ifCond .ne 7, 3) := by decide +kernel
theorem dX4_power_17 : decode cX4_power 17 = .ok (.iconst 1, 1) := by decide +kernel
theorem dX4_power_18 : decode cX4_power 18 = .ok (.goto 4, 3) := by decide +kernel
theorem dX4_power_21 : decode cX4_power 21 = .ok (.iconst 0, 1) := by decide +kernel
theorem dX4_power_22 : decode cX4_power 22 = .ok (.iconst 1, 1) := by decide +kernel
theorem dX4_power_23 : decode cX4_power 23 = .ok (.invokevirtual 120, 3) := by decide +kernel
theorem dX4_power_26 : decode cX4_power 26 = .ok (.ifCond .ne 8, 3) := by decide +kernel
theorem dX4_power_29 : decode cX4_power 29 = .ok (.aload_n 0, 1) := by decide +kernel
theorem dX4_power_30 : decode cX4_power 30 = .ok (.iload_n 1, 1) := by decide +kernel
theorem dX4_power_31 : decode cX4_power 31 = .ok (.putfield 72, 3) := by decide +kernel
theorem dX4_power_34 : decode cX4_power 34 = .ok (.return_, 1) := by decide +kernel
theorem dX4_mend_0 : decode cX4_mend 0 = .ok (.iconst 0, 1) := by decide +kernel
theorem dX4_mend_1 : decode cX4_mend 1 = .ok (.istore_n 1, 1) := by decide +kernel
theorem dX4_mend_2 : decode cX4_mend 2 = .ok (.iload_n 1, 1) := by decide +kernel
theorem dX4_mend_3 : decode cX4_mend 3 = .ok (.bipush 12, 2) := by decide +kernel
theorem dX4_mend_5 : decode cX4_mend 5 = .ok (.if_icmp .ge 135, 3) := by decide +kernel
theorem dX4_mend_8 : decode cX4_mend 8 = .ok (.aload_n 0, 1) := by decide +kernel
theorem dX4_mend_9 : decode cX4_mend 9 = .ok (.iload_n 1, 1) := by decide +kernel
theorem dX4_mend_10 : decode cX4_mend 10 = .ok (.invokevirtual 138, 3) := by decide +kernel
theorem dX4_mend_13 : decode cX4_mend 13 = .ok (.ifCond .eq 6, 3) := by decide +kernel
theorem dX4_mend_16 : decode cX4_mend 16 = .ok (.goto 118, 3) := by decide +kernel
theorem dX4_mend_19 : decode cX4_mend 19 = .ok (.iconst (-1), 1) := by decide +kernel
theorem dX4_mend_20 : decode cX4_mend 20 = .ok (.istore_n 2, 1) := by decide +kernel
theorem dX4_mend_21 : decode cX4_mend 21 = .ok (.iconst 0, 1) := by decide +kernel
theorem dX4_mend_22 : decode cX4_mend 22 = .ok (.istore_n 3, 1) := by decide +kernel
theorem dX4_mend_23 : decode cX4_mend 23 = .ok (.iload_n 3, 1) := by decide +kernel
theorem dX4_mend_24 : decode cX4_mend 24 = .ok (.iconst 4, 1) := by decide +kernel
theorem dX4_mend_25 : decode cX4_mend 25 = .ok (.if_icmp .ge 71, 3) := by decide +kernel
theorem dX4_mend_28 : decode cX4_mend 28 = .ok (.aload_n 0, 1) := by decide +kernel
theorem dX4_mend_29 : decode cX4_mend 29 = .ok (.iload_n 3, 1) := by decide +kernel
theorem dX4_mend_30 : decode cX4_mend 30 = .ok (.invokevirtual 141, 3) := by decide +kernel
theorem dX4_mend_33 : decode cX4_mend 33 = .ok (.ifCond .eq 19, 3) := by decide +kernel
theorem dX4_mend_36 : decode cX4_mend 36 = .ok (.aload_n 0, 1) := by decide +kernel
theorem dX4_mend_37 : decode cX4_mend 37 = .ok (.getfield 19, 3) := by decide +kernel
theorem dX4_mend_40 : decode cX4_mend 40 = .ok (.iconst 4, 1) := by decide +kernel
theorem dX4_mend_41 : decode cX4_mend 41 = .ok (.iload_n 3, 1) := by decide +kernel
theorem dX4_mend_42 : decode cX4_mend 42 = .ok (.imul, 1) := by decide +kernel
theorem dX4_mend_43 : decode cX4_mend 43 = .ok (.iaload, 1) := by decide +kernel
theorem dX4_mend_44 : decode cX4_mend 44 = .ok (.iload_n 1, 1) := by decide +kernel
theorem dX4_mend_45 : decode cX4_mend 45 = .ok (.if_icmp .ne 7, 3) := by decide +kernel
theorem dX4_mend_48 : decode cX4_mend 48 = .ok (.iconst 1, 1) := by decide +kernel
theorem dX4_mend_49 : decode cX4_mend 49 = .ok (.goto 4, 3) := by decide +kernel
theorem dX4_mend_52 : decode cX4_mend 52 = .ok (.iconst 0, 1) := by decide +kernel
theorem dX4_mend_53 : decode cX4_mend 53 = .ok (.istore 4, 2) := by decide +kernel
theorem dX4_mend_55 : decode cX4_mend 55 = .ok (.iload 4, 2) := by decide +kernel
theorem dX4_mend_57 : decode cX4_mend 57 = .ok (.ifCond .eq 31, 3) := by decide +kernel
theorem dX4_mend_60 : decode cX4_mend 60 = .ok (.iload_n 2, 1) := by decide +kernel
theorem dX4_mend_61 : decode cX4_mend 61 = .ok (.iconst (-1), 1) := by decide +kernel
theorem dX4_mend_62 : decode cX4_mend 62 = .ok (.if_icmp .eq 22, 3) := by decide +kernel
theorem dX4_mend_65 : decode cX4_mend 65 = .ok (.aload_n 0, 1) := by decide +kernel
theorem dX4_mend_66 : decode cX4_mend 66 = .ok (.getfield 16, 3) := by decide +kernel
theorem dX4_mend_69 : decode cX4_mend 69 = .ok (.iconst 4, 1) := by decide +kernel
theorem dX4_mend_70 : decode cX4_mend 70 = .ok (.iload_n 3, 1) := by decide +kernel
theorem dX4_mend_71 : decode cX4_mend 71 = .ok (.imul, 1) := by decide +kernel
theorem dX4_mend_72 : decode cX4_mend 72 = .ok (.iaload, 1) := by decide +kernel
theorem dX4_mend_73 : decode cX4_mend 73 = .ok (.aload_n 0, 1) := by decide +kernel
theorem dX4_mend_74 : decode cX4_mend 74 = .ok (.getfield 16, 3) := by decide +kernel
theorem dX4_mend_77 : decode cX4_mend 77 = .ok (.iconst 4, 1) := by decide +kernel
theorem dX4_mend_78 : decode cX4_mend 78 = .ok (.iload_n 2, 1) := by decide +kernel
theorem dX4_mend_79 : decode cX4_mend 79 = .ok (.imul, 1) := by decide +kernel
theorem dX4_mend_80 : decode cX4_mend 80 = .ok (.iaload, 1) := by decide +kernel
theorem dX4_mend_81 : decode cX4_mend 81 = .ok (.if_icmp .le 7, 3) := by decide +kernel
theorem dX4_mend_84 : decode cX4_mend 84 = .ok (.iload_n 3, 1) := by decide +kernel
theorem dX4_mend_85 : decode cX4_mend 85 = .ok (.goto 4, 3) := by decide +kernel
theorem dX4_mend_88 : decode cX4_mend 88 = .ok (.iload_n 2, 1) := by decide +kernel
theorem dX4_mend_89 : decode cX4_mend 89 = .ok (.istore_n 2, 1) := by decide +kernel
theorem dX4_mend_90 : decode cX4_mend 90 = .ok (.iinc 3 1, 3) := by decide +kernel
theorem dX4_mend_93 : decode cX4_mend 93 = .ok (.goto (-70), 3) := by decide +kernel
theorem dX4_mend_96 : decode cX4_mend 96 = .ok (.iload_n 2, 1) := by decide +kernel
theorem dX4_mend_97 : decode cX4_mend 97 = .ok (.iconst (-1), 1) := by decide +kernel
theorem dX4_mend_98 : decode cX4_mend 98 = .ok (.if_icmp .ne 6, 3) := by decide +kernel
theorem dX4_mend_101 : decode cX4_mend 101 = .ok (.goto 33, 3) := by decide +kernel
theorem dX4_mend_104 : decode cX4_mend 104 = .ok (.aload_n 0, 1) := by decide +kernel
theorem dX4_mend_105 : decode cX4_mend 105 = .ok (.iload_n 1, 1) := by decide +kernel
theorem dX4_mend_106 : decode cX4_mend 106 = .ok (.aload_n 0, 1) := by decide +kernel
theorem dX4_mend_107 : decode cX4_mend 107 = .ok (.getfield 16, 3) := by decide +kernel
theorem dX4_mend_110 : decode cX4_mend 110 = .ok (.iconst 4, 1) := by decide +kernel
theorem dX4_mend_111 : decode cX4_mend 111 = .ok (.iload_n 2, 1) := by decide +kernel
theorem dX4_mend_112 : decode cX4_mend 112 = .ok (.imul, 1) := by decide +kernel
theorem dX4_mend_113 : decode cX4_mend 113 = .ok (.iaload, 1) := by decide +kernel
theorem dX4_mend_114 : decode cX4_mend 114 = .ok (.iload_n 2, 1) := by decide +kernel
theorem dX4_mend_115 : decode cX4_mend 115 = .ok (.iconst 0, 1) := by decide +kernel
theorem dX4_mend_116 : decode cX4_mend 116 = .ok (.invokevirtual 102, 3) := by decide +kernel
theorem dX4_mend_119 : decode cX4_mend 119 = .ok (.ifCond .ne 5, 3) := by decide +kernel
theorem dX4_mend_122 : decode cX4_mend 122 = .ok (.iconst 0, 1) := by decide +kernel
theorem dX4_mend_123 : decode cX4_mend 123 = .ok (.ireturn, 1) := by decide +kernel
theorem dX4_mend_124 : decode cX4_mend 124 = .ok (.aload_n 0, 1) := by decide +kernel
theorem dX4_mend_125 : decode cX4_mend 125 = .ok (.dup, 1) := by decide +kernel
theorem dX4_mend_126 : decode cX4_mend 126 = .ok (.getfield 144, 3) := by decide +kernel
theorem dX4_mend_129 : decode cX4_mend 129 = .ok (.iconst 1, 1) := by decide +kernel
theorem dX4_mend_130 : decode cX4_mend 130 = .ok (.iadd, 1) := by decide +kernel
theorem dX4_mend_131 : decode cX4_mend 131 = .ok (.putfield 144, 3) := by decide +kernel
theorem dX4_mend_134 : decode cX4_mend 134 = .ok (.iinc 1 1, 3) := by decide +kernel
theorem dX4_mend_137 : decode cX4_mend 137 = .ok (.goto (-135), 3) := by decide +kernel
theorem dX4_mend_140 : decode cX4_mend 140 = .ok (.iconst 1, 1) := by decide +kernel
theorem dX4_mend_141 : decode cX4_mend 141 = .ok (.ireturn, 1) := by decide +kernel
theorem dX4_recover_0 : decode cX4_recover 0 = .ok (.aload_n 0, 1) := by decide +kernel
theorem dX4_recover_1 : decode cX4_recover 1 = .ok (.iconst 0, 1) := by decide +kernel
theorem dX4_recover_2 : decode cX4_recover 2 = .ok (.putfield 75, 3) := by decide +kernel
theorem dX4_recover_5 : decode cX4_recover 5 = .ok (.aload_n 0, 1) := by decide +kernel
theorem dX4_recover_6 : decode cX4_recover 6 = .ok (.aload_n 0, 1) := by decide +kernel
theorem dX4_recover_7 : decode cX4_recover 7 = .ok (.getfield 78, 3) := by decide +kernel
theorem dX4_recover_10 : decode cX4_recover 10 = .ok (.ifCond .ne 7, 3) := by decide +kernel
theorem dX4_recover_13 : decode cX4_recover 13 = .ok (.iconst 1, 1) := by decide +kernel
theorem dX4_recover_14 : decode cX4_recover 14 = .ok (.goto 4, 3) := by decide +kernel
theorem dX4_recover_17 : decode cX4_recover 17 = .ok (.iconst 0, 1) := by decide +kernel
theorem dX4_recover_18 : decode cX4_recover 18 = .ok (.iconst 1, 1) := by decide +kernel
theorem dX4_recover_19 : decode cX4_recover 19 = .ok (.invokevirtual 120, 3) := by decide +kernel
theorem dX4_recover_22 : decode cX4_recover 22 = .ok (.ifCond .eq 5, 3) := by decide +kernel
theorem dX4_recover_25 : decode cX4_recover 25 = .ok (.iconst 0, 1) := by decide +kernel
theorem dX4_recover_26 : decode cX4_recover 26 = .ok (.ireturn, 1) := by decide +kernel
theorem dX4_recover_27 : decode cX4_recover 27 = .ok (.aload_n 0, 1) := by decide +kernel
theorem dX4_recover_28 : decode cX4_recover 28 = .ok (.invokevirtual 147, 3) := by decide +kernel
theorem dX4_recover_31 : decode cX4_recover 31 = .ok (.ifCond .ne 6, 3) := by decide +kernel
theorem dX4_recover_34 : decode cX4_recover 34 = .ok (.bipush (-3), 2) := by decide +kernel
theorem dX4_recover_36 : decode cX4_recover 36 = .ok (.ireturn, 1) := by decide +kernel
theorem dX4_recover_37 : decode cX4_recover 37 = .ok (.aload_n 0, 1) := by decide +kernel
theorem dX4_recover_38 : decode cX4_recover 38 = .ok (.getfield 37, 3) := by decide +kernel
theorem dX4_recover_41 : decode cX4_recover 41 = .ok (.istore_n 1, 1) := by decide +kernel
theorem dX4_recover_42 : decode cX4_recover 42 = .ok (.aload_n 0, 1) := by decide +kernel
theorem dX4_recover_43 : decode cX4_recover 43 = .ok (.getfield 25, 3) := by decide +kernel
theorem dX4_recover_46 : decode cX4_recover 46 = .ok (.iload_n 1, 1) := by decide +kernel
theorem dX4_recover_47 : decode cX4_recover 47 = .ok (.bipush 12, 2) := by decide +kernel
theorem dX4_recover_49 : decode cX4_recover 49 = .ok (.irem, 1) := by decide +kernel
theorem dX4_recover_50 : decode cX4_recover 50 = .ok (.iaload, 1) := by decide +kernel
theorem dX4_recover_51 : decode cX4_recover 51 = .ok (.iload_n 1, 1) := by decide +kernel
theorem dX4_recover_52 : decode cX4_recover 52 = .ok (.if_icmp .ne 79, 3) := by decide +kernel
theorem dX4_recover_55 : decode cX4_recover 55 = .ok (.iload_n 1, 1) := by decide +kernel
theorem dX4_recover_56 : decode cX4_recover 56 = .ok (.bipush 12, 2) := by decide +kernel
theorem dX4_recover_58 : decode cX4_recover 58 = .ok (.irem, 1) := by decide +kernel
theorem dX4_recover_59 : decode cX4_recover 59 = .ok (.istore_n 2, 1) := by decide +kernel
theorem dX4_recover_60 : decode cX4_recover 60 = .ok (.aload_n 0, 1) := by decide +kernel
theorem dX4_recover_61 : decode cX4_recover 61 = .ok (.aload_n 0, 1) := by decide +kernel
theorem dX4_recover_62 : decode cX4_recover 62 = .ok (.getfield 28, 3) := by decide +kernel
theorem dX4_recover_65 : decode cX4_recover 65 = .ok (.iload_n 2, 1) := by decide +kernel
theorem dX4_recover_66 : decode cX4_recover 66 = .ok (.iaload, 1) := by decide +kernel
theorem dX4_recover_67 : decode cX4_recover 67 = .ok (.invokevirtual 131, 3) := by decide +kernel
theorem dX4_recover_70 : decode cX4_recover 70 = .ok (.istore_n 3, 1) := by decide +kernel
theorem dX4_recover_71 : decode cX4_recover 71 = .ok (.iload_n 3, 1) := by decide +kernel
theorem dX4_recover_72 : decode cX4_recover 72 = .ok (.iconst (-1), 1) := by decide +kernel
theorem dX4_recover_73 : decode cX4_recover 73 = .ok (.if_icmp .ne 6, 3) := by decide +kernel
theorem dX4_recover_76 : decode cX4_recover 76 = .ok (.bipush (-3), 2) := by decide +kernel
theorem dX4_recover_78 : decode cX4_recover 78 = .ok (.ireturn, 1) := by decide +kernel
theorem dX4_recover_79 : decode cX4_recover 79 = .ok (.aload_n 0, 1) := by decide +kernel
theorem dX4_recover_80 : decode cX4_recover 80 = .ok (.getfield 44, 3) := by decide +kernel
theorem dX4_recover_83 : decode cX4_recover 83 = .ok (.iload_n 3, 1) := by decide +kernel
theorem dX4_recover_84 : decode cX4_recover 84 = .ok (.iaload, 1) := by decide +kernel
theorem dX4_recover_85 : decode cX4_recover 85 = .ok (.iload_n 1, 1) := by decide +kernel
theorem dX4_recover_86 : decode cX4_recover 86 = .ok (.if_icmp .ge 39, 3) := by decide +kernel
theorem dX4_recover_89 : decode cX4_recover 89 = .ok (.aload_n 0, 1) := by decide +kernel
theorem dX4_recover_90 : decode cX4_recover 90 = .ok (.getfield 54, 3) := by decide +kernel
theorem dX4_recover_93 : decode cX4_recover 93 = .ok (.bipush 16, 2) := by decide +kernel
theorem dX4_recover_95 : decode cX4_recover 95 = .ok (.iload_n 3, 1) := by decide +kernel
theorem dX4_recover_96 : decode cX4_recover 96 = .ok (.imul, 1) := by decide +kernel
theorem dX4_recover_97 : decode cX4_recover 97 = .ok (.aload_n 0, 1) := by decide +kernel
theorem dX4_recover_98 : decode cX4_recover 98 = .ok (.getfield 31, 3) := by decide +kernel
theorem dX4_recover_101 : decode cX4_recover 101 = .ok (.iload_n 2, 1) := by decide +kernel
theorem dX4_recover_102 : decode cX4_recover 102 = .ok (.iaload, 1) := by decide +kernel
theorem dX4_recover_103 : decode cX4_recover 103 = .ok (.iadd, 1) := by decide +kernel
theorem dX4_recover_104 : decode cX4_recover 104 = .ok (.aload_n 0, 1) := by decide +kernel
theorem dX4_recover_105 : decode cX4_recover 105 = .ok (.getfield 34, 3) := by decide +kernel
theorem dX4_recover_108 : decode cX4_recover 108 = .ok (.iload_n 2, 1) := by decide +kernel
theorem dX4_recover_109 : decode cX4_recover 109 = .ok (.iaload, 1) := by decide +kernel
theorem dX4_recover_110 : decode cX4_recover 110 = .ok (.iastore, 1) := by decide +kernel
theorem dX4_recover_111 : decode cX4_recover 111 = .ok (.aload_n 0, 1) := by decide +kernel
theorem dX4_recover_112 : decode cX4_recover 112 = .ok (.getfield 44, 3) := by decide +kernel
theorem dX4_recover_115 : decode cX4_recover 115 = .ok (.iload_n 3, 1) := by decide +kernel
theorem dX4_recover_116 : decode cX4_recover 116 = .ok (.iload_n 1, 1) := by decide +kernel
theorem dX4_recover_117 : decode cX4_recover 117 = .ok (.iastore, 1) := by decide +kernel
theorem dX4_recover_118 : decode cX4_recover 118 = .ok (.aload_n 0, 1) := by decide +kernel
theorem dX4_recover_119 : decode cX4_recover 119 = .ok (.getfield 47, 3) := by decide +kernel
theorem dX4_recover_122 : decode cX4_recover 122 = .ok (.iload_n 3, 1) := by decide +kernel
theorem dX4_recover_123 : decode cX4_recover 123 = .ok (.iconst 1, 1) := by decide +kernel
theorem dX4_recover_124 : decode cX4_recover 124 = .ok (.bastore, 1) := by decide +kernel
theorem dX4_recover_125 : decode cX4_recover 125 = .ok (.iinc 1 1, 3) := by decide +kernel
theorem dX4_recover_128 : decode cX4_recover 128 = .ok (.goto (-86), 3) := by decide +kernel
theorem dX4_recover_131 : decode cX4_recover 131 = .ok (.aload_n 0, 1) := by decide +kernel
theorem dX4_recover_132 : decode cX4_recover 132 = .ok (.iload_n 1, 1) := by decide +kernel
theorem dX4_recover_133 : decode cX4_recover 133 = .ok (.putfield 57, 3) := by decide +kernel
theorem dX4_recover_136 : decode cX4_recover 136 = .ok (.aload_n 0, 1) := by decide +kernel
theorem dX4_recover_137 : decode cX4_recover 137 = .ok (.iconst 0, 1) := by decide +kernel
theorem dX4_recover_138 : decode cX4_recover 138 = .ok (.putfield 78, 3) := by decide +kernel
theorem dX4_recover_141 : decode cX4_recover 141 = .ok (.iload_n 1, 1) := by decide +kernel
theorem dX4_recover_142 : decode cX4_recover 142 = .ok (.iconst 1, 1) := by decide +kernel
theorem dX4_recover_143 : decode cX4_recover 143 = .ok (.isub, 1) := by decide +kernel
theorem dX4_recover_144 : decode cX4_recover 144 = .ok (.ireturn, 1) := by decide +kernel
theorem dX4_cut_0 : decode cX4_cut 0 = .ok (.aload_n 0, 1) := by decide +kernel
theorem dX4_cut_1 : decode cX4_cut 1 = .ok (.iconst 0, 1) := by decide +kernel
theorem dX4_cut_2 : decode cX4_cut 2 = .ok (.putfield 75, 3) := by decide +kernel
theorem dX4_cut_5 : decode cX4_cut 5 = .ok (.aload_n 0, 1) := by decide +kernel
theorem dX4_cut_6 : decode cX4_cut 6 = .ok (.aload_n 0, 1) := by decide +kernel
theorem dX4_cut_7 : decode cX4_cut 7 = .ok (.getfield 78, 3) := by decide +kernel
theorem dX4_cut_10 : decode cX4_cut 10 = .ok (.iconst 1, 1) := by decide +kernel
theorem dX4_cut_11 : decode cX4_cut 11 = .ok (.invokevirtual 120, 3) := by decide +kernel
theorem dX4_cut_14 : decode cX4_cut 14 = .ok (.ifCond .eq 5, 3) := by decide +kernel
theorem dX4_cut_17 : decode cX4_cut 17 = .ok (.iconst 0, 1) := by decide +kernel
theorem dX4_cut_18 : decode cX4_cut 18 = .ok (.ireturn, 1) := by decide +kernel
theorem dX4_cut_19 : decode cX4_cut 19 = .ok (.aload_n 0, 1) := by decide +kernel
theorem dX4_cut_20 : decode cX4_cut 20 = .ok (.getfield 82, 3) := by decide +kernel
theorem dX4_cut_23 : decode cX4_cut 23 = .ok (.istore_n 1, 1) := by decide +kernel
theorem dX4_cut_24 : decode cX4_cut 24 = .ok (.aload_n 0, 1) := by decide +kernel
theorem dX4_cut_25 : decode cX4_cut 25 = .ok (.invokevirtual 85, 3) := by decide +kernel
theorem dX4_cut_28 : decode cX4_cut 28 = .ok (.iload_n 1, 1) := by decide +kernel
theorem dX4_cut_29 : decode cX4_cut 29 = .ok (.ireturn, 1) := by decide +kernel
theorem dX4_disk_0 : decode cX4_disk 0 = .ok (.aload_n 0, 1) := by decide +kernel
theorem dX4_disk_1 : decode cX4_disk 1 = .ok (.iconst 0, 1) := by decide +kernel
theorem dX4_disk_2 : decode cX4_disk 2 = .ok (.putfield 75, 3) := by decide +kernel
theorem dX4_disk_5 : decode cX4_disk 5 = .ok (.iload_n 1, 1) := by decide +kernel
theorem dX4_disk_6 : decode cX4_disk 6 = .ok (.ifCond .ne 31, 3) := by decide +kernel
theorem dX4_disk_9 : decode cX4_disk 9 = .ok (.iload_n 2, 1) := by decide +kernel
theorem dX4_disk_10 : decode cX4_disk 10 = .ok (.iconst 0, 1) := by decide +kernel
theorem dX4_disk_11 : decode cX4_disk 11 = .ok (.bipush 11, 2) := by decide +kernel
theorem dX4_disk_13 : decode cX4_disk 13 = .ok (.invokestatic 116, 3) := by decide +kernel
theorem dX4_disk_16 : decode cX4_disk 16 = .ok (.ifCond .eq 17, 3) := by decide +kernel
theorem dX4_disk_19 : decode cX4_disk 19 = .ok (.iload_n 3, 1) := by decide +kernel
theorem dX4_disk_20 : decode cX4_disk 20 = .ok (.iconst 0, 1) := by decide +kernel
theorem dX4_disk_21 : decode cX4_disk 21 = .ok (.bipush 19, 2) := by decide +kernel
theorem dX4_disk_23 : decode cX4_disk 23 = .ok (.invokestatic 116, 3) := by decide +kernel
theorem dX4_disk_26 : decode cX4_disk 26 = .ok (.ifCond .eq 7, 3) := by decide +kernel
theorem dX4_disk_29 : decode cX4_disk 29 = .ok (.iconst 1, 1) := by decide +kernel
theorem dX4_disk_30 : decode cX4_disk 30 = .ok (.goto 89, 3) := by decide +kernel
theorem dX4_disk_33 : decode cX4_disk 33 = .ok (.iconst 0, 1) := by decide +kernel
theorem dX4_disk_34 : decode cX4_disk 34 = .ok (.goto 85, 3) := by decide +kernel
theorem dX4_disk_37 : decode cX4_disk 37 = .ok (.iload_n 1, 1) := by decide +kernel
theorem dX4_disk_38 : decode cX4_disk 38 = .ok (.iconst 1, 1) := by decide +kernel
theorem dX4_disk_39 : decode cX4_disk 39 = .ok (.if_icmp .ne 30, 3) := by decide +kernel
theorem dX4_disk_42 : decode cX4_disk 42 = .ok (.iload_n 2, 1) := by decide +kernel
theorem dX4_disk_43 : decode cX4_disk 43 = .ok (.iconst 0, 1) := by decide +kernel
theorem dX4_disk_44 : decode cX4_disk 44 = .ok (.iconst 3, 1) := by decide +kernel
theorem dX4_disk_45 : decode cX4_disk 45 = .ok (.invokestatic 116, 3) := by decide +kernel
theorem dX4_disk_48 : decode cX4_disk 48 = .ok (.ifCond .eq 17, 3) := by decide +kernel
theorem dX4_disk_51 : decode cX4_disk 51 = .ok (.iload_n 3, 1) := by decide +kernel
theorem dX4_disk_52 : decode cX4_disk 52 = .ok (.iconst 0, 1) := by decide +kernel
theorem dX4_disk_53 : decode cX4_disk 53 = .ok (.bipush 23, 2) := by decide +kernel
theorem dX4_disk_55 : decode cX4_disk 55 = .ok (.invokestatic 116, 3) := by decide +kernel
theorem dX4_disk_58 : decode cX4_disk 58 = .ok (.ifCond .eq 7, 3) := by decide +kernel
theorem dX4_disk_61 : decode cX4_disk 61 = .ok (.iconst 1, 1) := by decide +kernel
theorem dX4_disk_62 : decode cX4_disk 62 = .ok (.goto 57, 3) := by decide +kernel
theorem dX4_disk_65 : decode cX4_disk 65 = .ok (.iconst 0, 1) := by decide +kernel
theorem dX4_disk_66 : decode cX4_disk 66 = .ok (.goto 53, 3) := by decide +kernel
theorem dX4_disk_69 : decode cX4_disk 69 = .ok (.iload_n 1, 1) := by decide +kernel
theorem dX4_disk_70 : decode cX4_disk 70 = .ok (.iconst 2, 1) := by decide +kernel
theorem dX4_disk_71 : decode cX4_disk 71 = .ok (.if_icmp .ne 30, 3) := by decide +kernel
theorem dX4_disk_74 : decode cX4_disk 74 = .ok (.iload_n 2, 1) := by decide +kernel
theorem dX4_disk_75 : decode cX4_disk 75 = .ok (.iconst 0, 1) := by decide +kernel
theorem dX4_disk_76 : decode cX4_disk 76 = .ok (.bipush 11, 2) := by decide +kernel
theorem dX4_disk_78 : decode cX4_disk 78 = .ok (.invokestatic 116, 3) := by decide +kernel
theorem dX4_disk_81 : decode cX4_disk 81 = .ok (.ifCond .eq 16, 3) := by decide +kernel
theorem dX4_disk_84 : decode cX4_disk 84 = .ok (.iload_n 3, 1) := by decide +kernel
theorem dX4_disk_85 : decode cX4_disk 85 = .ok (.iconst 0, 1) := by decide +kernel
theorem dX4_disk_86 : decode cX4_disk 86 = .ok (.iconst 3, 1) := by decide +kernel
theorem dX4_disk_87 : decode cX4_disk 87 = .ok (.invokestatic 116, 3) := by decide +kernel
theorem dX4_disk_90 : decode cX4_disk 90 = .ok (.ifCond .eq 7, 3) := by decide +kernel
theorem dX4_disk_93 : decode cX4_disk 93 = .ok (.iconst 1, 1) := by decide +kernel
theorem dX4_disk_94 : decode cX4_disk 94 = .ok (.goto 25, 3) := by decide +kernel
theorem dX4_disk_97 : decode cX4_disk 97 = .ok (.iconst 0, 1) := by decide +kernel
theorem dX4_disk_98 : decode cX4_disk 98 = .ok (.goto 21, 3) := by decide +kernel
theorem dX4_disk_101 : decode cX4_disk 101 = .ok (.iload_n 1, 1) := by decide +kernel
theorem dX4_disk_102 : decode cX4_disk 102 = .ok (.iconst 3, 1) := by decide +kernel
theorem dX4_disk_103 : decode cX4_disk 103 = .ok (.if_icmp .ne 15, 3) := by decide +kernel
theorem dX4_disk_106 : decode cX4_disk 106 = .ok (.iload_n 2, 1) := by decide +kernel
theorem dX4_disk_107 : decode cX4_disk 107 = .ok (.ifCond .ne 11, 3) := by decide +kernel
theorem dX4_disk_110 : decode cX4_disk 110 = .ok (.iload_n 3, 1) := by decide +kernel
theorem dX4_disk_111 : decode cX4_disk 111 = .ok (.ifCond .ne 7, 3) := by decide +kernel
theorem dX4_disk_114 : decode cX4_disk 114 = .ok (.iconst 1, 1) := by decide +kernel
theorem dX4_disk_115 : decode cX4_disk 115 = .ok (.goto 4, 3) := by decide +kernel
theorem dX4_disk_118 : decode cX4_disk 118 = .ok (.iconst 0, 1) := by decide +kernel
theorem dX4_disk_119 : decode cX4_disk 119 = .ok (.istore 4, 2) := by decide +kernel
theorem dX4_disk_121 : decode cX4_disk 121 = .ok (.aload_n 0, 1) := by decide +kernel
theorem dX4_disk_122 : decode cX4_disk 122 = .ok (.iload 4, 2) := by decide +kernel
theorem dX4_disk_124 : decode cX4_disk 124 = .ok (.ifCond .ne 7, 3) := by decide +kernel
theorem dX4_disk_127 : decode cX4_disk 127 = .ok (.iconst 1, 1) := by decide +kernel
theorem dX4_disk_128 : decode cX4_disk 128 = .ok (.goto 4, 3) := by decide +kernel
theorem dX4_disk_131 : decode cX4_disk 131 = .ok (.iconst 0, 1) := by decide +kernel
theorem dX4_disk_132 : decode cX4_disk 132 = .ok (.iconst 1, 1) := by decide +kernel
theorem dX4_disk_133 : decode cX4_disk 133 = .ok (.invokevirtual 120, 3) := by decide +kernel
theorem dX4_disk_136 : decode cX4_disk 136 = .ok (.ifCond .eq 5, 3) := by decide +kernel
theorem dX4_disk_139 : decode cX4_disk 139 = .ok (.iconst 0, 1) := by decide +kernel
theorem dX4_disk_140 : decode cX4_disk 140 = .ok (.ireturn, 1) := by decide +kernel
theorem dX4_disk_141 : decode cX4_disk 141 = .ok (.iload_n 1, 1) := by decide +kernel
theorem dX4_disk_142 : decode cX4_disk 142 = .ok (.ifCond .ne 37, 3) := by decide +kernel
theorem dX4_disk_145 : decode cX4_disk 145 = .ok (.iload_n 3, 1) := by decide +kernel
theorem dX4_disk_146 : decode cX4_disk 146 = .ok (.bipush 16, 2) := by decide +kernel
theorem dX4_disk_148 : decode cX4_disk 148 = .ok (.if_icmp .ge 17, 3) := by decide +kernel
theorem dX4_disk_151 : decode cX4_disk 151 = .ok (.aload_n 0, 1) := by decide +kernel
theorem dX4_disk_152 : decode cX4_disk 152 = .ok (.getfield 13, 3) := by decide +kernel
theorem dX4_disk_155 : decode cX4_disk 155 = .ok (.bipush 16, 2) := by decide +kernel
theorem dX4_disk_157 : decode cX4_disk 157 = .ok (.iload_n 2, 1) := by decide +kernel
theorem dX4_disk_158 : decode cX4_disk 158 = .ok (.imul, 1) := by decide +kernel
theorem dX4_disk_159 : decode cX4_disk 159 = .ok (.iload_n 3, 1) := by decide +kernel
theorem dX4_disk_160 : decode cX4_disk 160 = .ok (.iadd, 1) := by decide +kernel
theorem dX4_disk_161 : decode cX4_disk 161 = .ok (.iaload, 1) := by decide +kernel
theorem dX4_disk_162 : decode cX4_disk 162 = .ok (.goto 16, 3) := by decide +kernel
theorem dX4_disk_165 : decode cX4_disk 165 = .ok (.aload_n 0, 1) := by decide +kernel
theorem dX4_disk_166 : decode cX4_disk 166 = .ok (.getfield 7, 3) := by decide +kernel
theorem dX4_disk_169 : decode cX4_disk 169 = .ok (.iconst 4, 1) := by decide +kernel
theorem dX4_disk_170 : decode cX4_disk 170 = .ok (.iload_n 2, 1) := by decide +kernel
theorem dX4_disk_171 : decode cX4_disk 171 = .ok (.imul, 1) := by decide +kernel
theorem dX4_disk_172 : decode cX4_disk 172 = .ok (.iload_n 3, 1) := by decide +kernel
theorem dX4_disk_173 : decode cX4_disk 173 = .ok (.iadd, 1) := by decide +kernel
theorem dX4_disk_174 : decode cX4_disk 174 = .ok (.bipush 16, 2) := by decide +kernel
theorem dX4_disk_176 : decode cX4_disk 176 = .ok (.isub, 1) := by decide +kernel
theorem dX4_disk_177 : decode cX4_disk 177 = .ok (.iaload, 1) := by decide +kernel
theorem dX4_disk_178 : decode cX4_disk 178 = .ok (.ireturn, 1) := by decide +kernel
theorem dX4_disk_179 : decode cX4_disk 179 = .ok (.iload_n 1, 1) := by decide +kernel
theorem dX4_disk_180 : decode cX4_disk 180 = .ok (.iconst 1, 1) := by decide +kernel
theorem dX4_disk_181 : decode cX4_disk 181 = .ok (.if_icmp .ne 59, 3) := by decide +kernel
theorem dX4_disk_184 : decode cX4_disk 184 = .ok (.iload_n 3, 1) := by decide +kernel
theorem dX4_disk_185 : decode cX4_disk 185 = .ok (.bipush 16, 2) := by decide +kernel
theorem dX4_disk_187 : decode cX4_disk 187 = .ok (.if_icmp .ge 17, 3) := by decide +kernel
theorem dX4_disk_190 : decode cX4_disk 190 = .ok (.aload_n 0, 1) := by decide +kernel
theorem dX4_disk_191 : decode cX4_disk 191 = .ok (.getfield 22, 3) := by decide +kernel
theorem dX4_disk_194 : decode cX4_disk 194 = .ok (.bipush 16, 2) := by decide +kernel
theorem dX4_disk_196 : decode cX4_disk 196 = .ok (.iload_n 2, 1) := by decide +kernel
theorem dX4_disk_197 : decode cX4_disk 197 = .ok (.imul, 1) := by decide +kernel
theorem dX4_disk_198 : decode cX4_disk 198 = .ok (.iload_n 3, 1) := by decide +kernel
theorem dX4_disk_199 : decode cX4_disk 199 = .ok (.iadd, 1) := by decide +kernel
theorem dX4_disk_200 : decode cX4_disk 200 = .ok (.iaload, 1) := by decide +kernel
theorem dX4_disk_201 : decode cX4_disk 201 = .ok (.goto 38, 3) := by decide +kernel
theorem dX4_disk_204 : decode cX4_disk 204 = .ok (.iload_n 3, 1) := by decide +kernel
theorem dX4_disk_205 : decode cX4_disk 205 = .ok (.bipush 20, 2) := by decide +kernel
theorem dX4_disk_207 : decode cX4_disk 207 = .ok (.if_icmp .ge 19, 3) := by decide +kernel
theorem dX4_disk_210 : decode cX4_disk 210 = .ok (.aload_n 0, 1) := by decide +kernel
theorem dX4_disk_211 : decode cX4_disk 211 = .ok (.getfield 16, 3) := by decide +kernel
theorem dX4_disk_214 : decode cX4_disk 214 = .ok (.iconst 4, 1) := by decide +kernel
theorem dX4_disk_215 : decode cX4_disk 215 = .ok (.iload_n 2, 1) := by decide +kernel
theorem dX4_disk_216 : decode cX4_disk 216 = .ok (.imul, 1) := by decide +kernel
theorem dX4_disk_217 : decode cX4_disk 217 = .ok (.iload_n 3, 1) := by decide +kernel
theorem dX4_disk_218 : decode cX4_disk 218 = .ok (.iadd, 1) := by decide +kernel
theorem dX4_disk_219 : decode cX4_disk 219 = .ok (.bipush 16, 2) := by decide +kernel
theorem dX4_disk_221 : decode cX4_disk 221 = .ok (.isub, 1) := by decide +kernel
theorem dX4_disk_222 : decode cX4_disk 222 = .ok (.iaload, 1) := by decide +kernel
theorem dX4_disk_223 : decode cX4_disk 223 = .ok (.goto 16, 3) := by decide +kernel
theorem dX4_disk_226 : decode cX4_disk 226 = .ok (.aload_n 0, 1) := by decide +kernel
theorem dX4_disk_227 : decode cX4_disk 227 = .ok (.getfield 19, 3) := by decide +kernel
theorem dX4_disk_230 : decode cX4_disk 230 = .ok (.iconst 4, 1) := by decide +kernel
theorem dX4_disk_231 : decode cX4_disk 231 = .ok (.iload_n 2, 1) := by decide +kernel
theorem dX4_disk_232 : decode cX4_disk 232 = .ok (.imul, 1) := by decide +kernel
theorem dX4_disk_233 : decode cX4_disk 233 = .ok (.iload_n 3, 1) := by decide +kernel
theorem dX4_disk_234 : decode cX4_disk 234 = .ok (.iadd, 1) := by decide +kernel
theorem dX4_disk_235 : decode cX4_disk 235 = .ok (.bipush 20, 2) := by decide +kernel
theorem dX4_disk_237 : decode cX4_disk 237 = .ok (.isub, 1) := by decide +kernel
theorem dX4_disk_238 : decode cX4_disk 238 = .ok (.iaload, 1) := by decide +kernel
theorem dX4_disk_239 : decode cX4_disk 239 = .ok (.ireturn, 1) := by decide +kernel
theorem dX4_disk_240 : decode cX4_disk 240 = .ok (.iload_n 1, 1) := by decide +kernel
theorem dX4_disk_241 : decode cX4_disk 241 = .ok (.iconst 3, 1) := by decide +kernel
theorem dX4_disk_242 : decode cX4_disk 242 = .ok (.if_icmp .ne 10, 3) := by decide +kernel
theorem dX4_disk_245 : decode cX4_disk 245 = .ok (.aload_n 0, 1) := by decide +kernel
theorem dX4_disk_246 : decode cX4_disk 246 = .ok (.getfield 37, 3) := by decide +kernel
theorem dX4_disk_249 : decode cX4_disk 249 = .ok (.goto 50, 3) := by decide +kernel
theorem dX4_disk_252 : decode cX4_disk 252 = .ok (.iload_n 3, 1) := by decide +kernel
theorem dX4_disk_253 : decode cX4_disk 253 = .ok (.ifCond .ne 12, 3) := by decide +kernel
theorem dX4_disk_256 : decode cX4_disk 256 = .ok (.aload_n 0, 1) := by decide +kernel
theorem dX4_disk_257 : decode cX4_disk 257 = .ok (.getfield 25, 3) := by decide +kernel
theorem dX4_disk_260 : decode cX4_disk 260 = .ok (.iload_n 2, 1) := by decide +kernel
theorem dX4_disk_261 : decode cX4_disk 261 = .ok (.iaload, 1) := by decide +kernel
theorem dX4_disk_262 : decode cX4_disk 262 = .ok (.goto 37, 3) := by decide +kernel
theorem dX4_disk_265 : decode cX4_disk 265 = .ok (.iload_n 3, 1) := by decide +kernel
theorem dX4_disk_266 : decode cX4_disk 266 = .ok (.iconst 1, 1) := by decide +kernel
theorem dX4_disk_267 : decode cX4_disk 267 = .ok (.if_icmp .ne 12, 3) := by decide +kernel
theorem dX4_disk_270 : decode cX4_disk 270 = .ok (.aload_n 0, 1) := by decide +kernel
theorem dX4_disk_271 : decode cX4_disk 271 = .ok (.getfield 28, 3) := by decide +kernel
theorem dX4_disk_274 : decode cX4_disk 274 = .ok (.iload_n 2, 1) := by decide +kernel
theorem dX4_disk_275 : decode cX4_disk 275 = .ok (.iaload, 1) := by decide +kernel
theorem dX4_disk_276 : decode cX4_disk 276 = .ok (.goto 23, 3) := by decide +kernel
theorem dX4_disk_279 : decode cX4_disk 279 = .ok (.iload_n 3, 1) := by decide +kernel
theorem dX4_disk_280 : decode cX4_disk 280 = .ok (.iconst 2, 1) := by decide +kernel
theorem dX4_disk_281 : decode cX4_disk 281 = .ok (.if_icmp .ne 12, 3) := by decide +kernel
theorem dX4_disk_284 : decode cX4_disk 284 = .ok (.aload_n 0, 1) := by decide +kernel
theorem dX4_disk_285 : decode cX4_disk 285 = .ok (.getfield 31, 3) := by decide +kernel
theorem dX4_disk_288 : decode cX4_disk 288 = .ok (.iload_n 2, 1) := by decide +kernel
theorem dX4_disk_289 : decode cX4_disk 289 = .ok (.iaload, 1) := by decide +kernel
theorem dX4_disk_290 : decode cX4_disk 290 = .ok (.goto 9, 3) := by decide +kernel
theorem dX4_disk_293 : decode cX4_disk 293 = .ok (.aload_n 0, 1) := by decide +kernel
theorem dX4_disk_294 : decode cX4_disk 294 = .ok (.getfield 34, 3) := by decide +kernel
theorem dX4_disk_297 : decode cX4_disk 297 = .ok (.iload_n 2, 1) := by decide +kernel
theorem dX4_disk_298 : decode cX4_disk 298 = .ok (.iaload, 1) := by decide +kernel
theorem dX4_disk_299 : decode cX4_disk 299 = .ok (.ireturn, 1) := by decide +kernel
theorem dX4_frame_0 : decode cX4_frame 0 = .ok (.aload_n 0, 1) := by decide +kernel
theorem dX4_frame_1 : decode cX4_frame 1 = .ok (.iconst 0, 1) := by decide +kernel
theorem dX4_frame_2 : decode cX4_frame 2 = .ok (.putfield 75, 3) := by decide +kernel
theorem dX4_frame_5 : decode cX4_frame 5 = .ok (.aload_n 0, 1) := by decide +kernel
theorem dX4_frame_6 : decode cX4_frame 6 = .ok (.iload_n 1, 1) := by decide +kernel
theorem dX4_frame_7 : decode cX4_frame 7 = .ok (.iconst 0, 1) := by decide +kernel
theorem dX4_frame_8 : decode cX4_frame 8 = .ok (.iconst 3, 1) := by decide +kernel
theorem dX4_frame_9 : decode cX4_frame 9 = .ok (.invokestatic 116, 3) := by decide +kernel
theorem dX4_frame_12 : decode cX4_frame 12 = .ok (.ifCond .eq 13, 3) := by decide +kernel
theorem dX4_frame_15 : decode cX4_frame 15 = .ok (.iload_n 2, 1) := by decide +kernel
theorem dX4_frame_16 : decode cX4_frame 16 = .ok (.iconst 0, 1) := by decide +kernel
theorem dX4_frame_17 : decode cX4_frame 17 = .ok (.bipush 18, 2) := by decide +kernel
theorem dX4_frame_19 : decode cX4_frame 19 = .ok (.invokestatic 116, 3) := by decide +kernel
theorem dX4_frame_22 : decode cX4_frame 22 = .ok (.ifCond .ne 7, 3) := by decide +kernel
theorem dX4_frame_25 : decode cX4_frame 25 = .ok (.iconst 1, 1) := by decide +kernel
theorem dX4_frame_26 : decode cX4_frame 26 = .ok (.goto 4, 3) := by decide +kernel
theorem dX4_frame_29 : decode cX4_frame 29 = .ok (.iconst 0, 1) := by decide +kernel
theorem dX4_frame_30 : decode cX4_frame 30 = .ok (.iconst 1, 1) := by decide +kernel
theorem dX4_frame_31 : decode cX4_frame 31 = .ok (.invokevirtual 120, 3) := by decide +kernel
theorem dX4_frame_34 : decode cX4_frame 34 = .ok (.ifCond .eq 5, 3) := by decide +kernel
theorem dX4_frame_37 : decode cX4_frame 37 = .ok (.iconst 0, 1) := by decide +kernel
theorem dX4_frame_38 : decode cX4_frame 38 = .ok (.ireturn, 1) := by decide +kernel
theorem dX4_frame_39 : decode cX4_frame 39 = .ok (.iload_n 2, 1) := by decide +kernel
theorem dX4_frame_40 : decode cX4_frame 40 = .ok (.ifCond .eq 13, 3) := by decide +kernel
theorem dX4_frame_43 : decode cX4_frame 43 = .ok (.aload_n 0, 1) := by decide +kernel
theorem dX4_frame_44 : decode cX4_frame 44 = .ok (.getfield 41, 3) := by decide +kernel
theorem dX4_frame_47 : decode cX4_frame 47 = .ok (.iload_n 1, 1) := by decide +kernel
theorem dX4_frame_48 : decode cX4_frame 48 = .ok (.iaload, 1) := by decide +kernel
theorem dX4_frame_49 : decode cX4_frame 49 = .ok (.iconst (-1), 1) := by decide +kernel
theorem dX4_frame_50 : decode cX4_frame 50 = .ok (.if_icmp .ne 18, 3) := by decide +kernel
theorem dX4_frame_53 : decode cX4_frame 53 = .ok (.iload_n 2, 1) := by decide +kernel
theorem dX4_frame_54 : decode cX4_frame 54 = .ok (.ifCond .ne 12, 3) := by decide +kernel
theorem dX4_frame_57 : decode cX4_frame 57 = .ok (.aload_n 0, 1) := by decide +kernel
theorem dX4_frame_58 : decode cX4_frame 58 = .ok (.getfield 41, 3) := by decide +kernel
theorem dX4_frame_61 : decode cX4_frame 61 = .ok (.iload_n 1, 1) := by decide +kernel
theorem dX4_frame_62 : decode cX4_frame 62 = .ok (.iaload, 1) := by decide +kernel
theorem dX4_frame_63 : decode cX4_frame 63 = .ok (.goto 4, 3) := by decide +kernel
theorem dX4_frame_66 : decode cX4_frame 66 = .ok (.iconst 0, 1) := by decide +kernel
theorem dX4_frame_67 : decode cX4_frame 67 = .ok (.ireturn, 1) := by decide +kernel
theorem dX4_frame_68 : decode cX4_frame 68 = .ok (.iload_n 2, 1) := by decide +kernel
theorem dX4_frame_69 : decode cX4_frame 69 = .ok (.iconst 1, 1) := by decide +kernel
theorem dX4_frame_70 : decode cX4_frame 70 = .ok (.if_icmp .ne 12, 3) := by decide +kernel
theorem dX4_frame_73 : decode cX4_frame 73 = .ok (.aload_n 0, 1) := by decide +kernel
theorem dX4_frame_74 : decode cX4_frame 74 = .ok (.getfield 44, 3) := by decide +kernel
theorem dX4_frame_77 : decode cX4_frame 77 = .ok (.iload_n 1, 1) := by decide +kernel
theorem dX4_frame_78 : decode cX4_frame 78 = .ok (.iaload, 1) := by decide +kernel
theorem dX4_frame_79 : decode cX4_frame 79 = .ok (.goto 38, 3) := by decide +kernel
theorem dX4_frame_82 : decode cX4_frame 82 = .ok (.iload_n 2, 1) := by decide +kernel
theorem dX4_frame_83 : decode cX4_frame 83 = .ok (.iconst 2, 1) := by decide +kernel
theorem dX4_frame_84 : decode cX4_frame 84 = .ok (.if_icmp .ne 20, 3) := by decide +kernel
theorem dX4_frame_87 : decode cX4_frame 87 = .ok (.aload_n 0, 1) := by decide +kernel
theorem dX4_frame_88 : decode cX4_frame 88 = .ok (.getfield 47, 3) := by decide +kernel
theorem dX4_frame_91 : decode cX4_frame 91 = .ok (.iload_n 1, 1) := by decide +kernel
theorem dX4_frame_92 : decode cX4_frame 92 = .ok (.baload, 1) := by decide +kernel
theorem dX4_frame_93 : decode cX4_frame 93 = .ok (.ifCond .eq 7, 3) := by decide +kernel
theorem dX4_frame_96 : decode cX4_frame 96 = .ok (.iconst 1, 1) := by decide +kernel
theorem dX4_frame_97 : decode cX4_frame 97 = .ok (.goto 20, 3) := by decide +kernel
theorem dX4_frame_100 : decode cX4_frame 100 = .ok (.iconst 0, 1) := by decide +kernel
theorem dX4_frame_101 : decode cX4_frame 101 = .ok (.goto 16, 3) := by decide +kernel
theorem dX4_frame_104 : decode cX4_frame 104 = .ok (.aload_n 0, 1) := by decide +kernel
theorem dX4_frame_105 : decode cX4_frame 105 = .ok (.getfield 54, 3) := by decide +kernel
theorem dX4_frame_108 : decode cX4_frame 108 = .ok (.bipush 16, 2) := by decide +kernel
theorem dX4_frame_110 : decode cX4_frame 110 = .ok (.iload_n 1, 1) := by decide +kernel
theorem dX4_frame_111 : decode cX4_frame 111 = .ok (.imul, 1) := by decide +kernel
theorem dX4_frame_112 : decode cX4_frame 112 = .ok (.iload_n 2, 1) := by decide +kernel
theorem dX4_frame_113 : decode cX4_frame 113 = .ok (.iadd, 1) := by decide +kernel
theorem dX4_frame_114 : decode cX4_frame 114 = .ok (.iconst 3, 1) := by decide +kernel
theorem dX4_frame_115 : decode cX4_frame 115 = .ok (.isub, 1) := by decide +kernel
theorem dX4_frame_116 : decode cX4_frame 116 = .ok (.iaload, 1) := by decide +kernel
end
section
theorem dX4_frame_117 : decode cX4_frame 117 = .ok (.ireturn, 1) := by decide +kernel
theorem dX4_count_0 : decode cX4_count 0 = .ok (.aload_n 0, 1) := by decide +kernel
theorem dX4_count_1 : decode cX4_count 1 = .ok (.iconst 0, 1) := by decide +kernel
theorem dX4_count_2 : decode cX4_count 2 = .ok (.putfield 75, 3) := by decide +kernel
theorem dX4_count_5 : decode cX4_count 5 = .ok (.aload_n 0, 1) := by decide +kernel
theorem dX4_count_6 : decode cX4_count 6 = .ok (.iload_n 1, 1) := by decide +kernel
theorem dX4_count_7 : decode cX4_count 7 = .ok (.iconst 0, 1) := by decide +kernel
theorem dX4_count_8 : decode cX4_count 8 = .ok (.bipush 6, 2) := by decide +kernel
theorem dX4_count_10 : decode cX4_count 10 = .ok (.invokestatic 116, 3) := by decide +kernel
theorem dX4_count_13 : decode cX4_count 13 = .ok (.ifCond .ne 7, 3) := by decide +kernel
theorem dX4_count_16 : decode cX4_count 16 = .ok (.iconst 1, 1) := by decide +kernel
theorem dX4_count_17 : decode cX4_count 17 = .ok (.goto 4, 3) := by decide +kernel
theorem dX4_count_20 : decode cX4_count 20 = .ok (.iconst 0, 1) := by decide +kernel
theorem dX4_count_21 : decode cX4_count 21 = .ok (.iconst 1, 1) := by decide +kernel
theorem dX4_count_22 : decode cX4_count 22 = .ok (.invokevirtual 120, 3) := by decide +kernel
theorem dX4_count_25 : decode cX4_count 25 = .ok (.ifCond .eq 5, 3) := by decide +kernel
theorem dX4_count_28 : decode cX4_count 28 = .ok (.iconst 0, 1) := by decide +kernel
theorem dX4_count_29 : decode cX4_count 29 = .ok (.ireturn, 1) := by decide +kernel
theorem dX4_count_30 : decode cX4_count 30 = .ok (.iload_n 1, 1) := by decide +kernel
theorem dX4_count_31 : decode cX4_count 31 = .ok (.ifCond .ne 23, 3) := by decide +kernel
theorem dX4_count_34 : decode cX4_count 34 = .ok (.aload_n 0, 1) := by decide +kernel
theorem dX4_count_35 : decode cX4_count 35 = .ok (.getfield 78, 3) := by decide +kernel
theorem dX4_count_38 : decode cX4_count 38 = .ok (.ifCond .eq 7, 3) := by decide +kernel
theorem dX4_count_41 : decode cX4_count 41 = .ok (.iconst 0, 1) := by decide +kernel
theorem dX4_count_42 : decode cX4_count 42 = .ok (.goto 95, 3) := by decide +kernel
theorem dX4_count_45 : decode cX4_count 45 = .ok (.aload_n 0, 1) := by decide +kernel
theorem dX4_count_46 : decode cX4_count 46 = .ok (.getfield 57, 3) := by decide +kernel
theorem dX4_count_49 : decode cX4_count 49 = .ok (.iconst 1, 1) := by decide +kernel
theorem dX4_count_50 : decode cX4_count 50 = .ok (.isub, 1) := by decide +kernel
theorem dX4_count_51 : decode cX4_count 51 = .ok (.goto 86, 3) := by decide +kernel
theorem dX4_count_54 : decode cX4_count 54 = .ok (.iload_n 1, 1) := by decide +kernel
theorem dX4_count_55 : decode cX4_count 55 = .ok (.iconst 1, 1) := by decide +kernel
theorem dX4_count_56 : decode cX4_count 56 = .ok (.if_icmp .ne 10, 3) := by decide +kernel
theorem dX4_count_59 : decode cX4_count 59 = .ok (.aload_n 0, 1) := by decide +kernel
theorem dX4_count_60 : decode cX4_count 60 = .ok (.getfield 82, 3) := by decide +kernel
theorem dX4_count_63 : decode cX4_count 63 = .ok (.goto 74, 3) := by decide +kernel
theorem dX4_count_66 : decode cX4_count 66 = .ok (.iload_n 1, 1) := by decide +kernel
theorem dX4_count_67 : decode cX4_count 67 = .ok (.iconst 2, 1) := by decide +kernel
theorem dX4_count_68 : decode cX4_count 68 = .ok (.if_icmp .ne 10, 3) := by decide +kernel
theorem dX4_count_71 : decode cX4_count 71 = .ok (.aload_n 0, 1) := by decide +kernel
theorem dX4_count_72 : decode cX4_count 72 = .ok (.getfield 88, 3) := by decide +kernel
theorem dX4_count_75 : decode cX4_count 75 = .ok (.goto 62, 3) := by decide +kernel
theorem dX4_count_78 : decode cX4_count 78 = .ok (.iload_n 1, 1) := by decide +kernel
theorem dX4_count_79 : decode cX4_count 79 = .ok (.iconst 3, 1) := by decide +kernel
theorem dX4_count_80 : decode cX4_count 80 = .ok (.if_icmp .ne 18, 3) := by decide +kernel
theorem dX4_count_83 : decode cX4_count 83 = .ok (.aload_n 0, 1) := by decide +kernel
theorem dX4_count_84 : decode cX4_count 84 = .ok (.getfield 78, 3) := by decide +kernel
theorem dX4_count_87 : decode cX4_count 87 = .ok (.ifCond .eq 7, 3) := by decide +kernel
theorem dX4_count_90 : decode cX4_count 90 = .ok (.iconst 1, 1) := by decide +kernel
theorem dX4_count_91 : decode cX4_count 91 = .ok (.goto 46, 3) := by decide +kernel
theorem dX4_count_94 : decode cX4_count 94 = .ok (.iconst 0, 1) := by decide +kernel
theorem dX4_count_95 : decode cX4_count 95 = .ok (.goto 42, 3) := by decide +kernel
theorem dX4_count_98 : decode cX4_count 98 = .ok (.iload_n 1, 1) := by decide +kernel
theorem dX4_count_99 : decode cX4_count 99 = .ok (.iconst 4, 1) := by decide +kernel
theorem dX4_count_100 : decode cX4_count 100 = .ok (.if_icmp .ne 10, 3) := by decide +kernel
theorem dX4_count_103 : decode cX4_count 103 = .ok (.aload_n 0, 1) := by decide +kernel
theorem dX4_count_104 : decode cX4_count 104 = .ok (.getfield 106, 3) := by decide +kernel
theorem dX4_count_107 : decode cX4_count 107 = .ok (.goto 30, 3) := by decide +kernel
theorem dX4_count_110 : decode cX4_count 110 = .ok (.iload_n 1, 1) := by decide +kernel
theorem dX4_count_111 : decode cX4_count 111 = .ok (.iconst 5, 1) := by decide +kernel
theorem dX4_count_112 : decode cX4_count 112 = .ok (.if_icmp .ne 10, 3) := by decide +kernel
theorem dX4_count_115 : decode cX4_count 115 = .ok (.aload_n 0, 1) := by decide +kernel
theorem dX4_count_116 : decode cX4_count 116 = .ok (.getfield 144, 3) := by decide +kernel
theorem dX4_count_119 : decode cX4_count 119 = .ok (.goto 18, 3) := by decide +kernel
theorem dX4_count_122 : decode cX4_count 122 = .ok (.aload_n 0, 1) := by decide +kernel
theorem dX4_count_123 : decode cX4_count 123 = .ok (.getfield 78, 3) := by decide +kernel
theorem dX4_count_126 : decode cX4_count 126 = .ok (.ifCond .eq 7, 3) := by decide +kernel
theorem dX4_count_129 : decode cX4_count 129 = .ok (.iconst 0, 1) := by decide +kernel
theorem dX4_count_130 : decode cX4_count 130 = .ok (.goto 7, 3) := by decide +kernel
theorem dX4_count_133 : decode cX4_count 133 = .ok (.aload_n 0, 1) := by decide +kernel
theorem dX4_count_134 : decode cX4_count 134 = .ok (.invokevirtual 124, 3) := by decide +kernel
theorem dX4_count_137 : decode cX4_count 137 = .ok (.ireturn, 1) := by decide +kernel
theorem dJ9_floorMod_7cf53_0 : decode cJ9_floorMod_7cf53 0 = .ok (.iload_n 0, 1) := by decide +kernel
theorem dJ9_floorMod_7cf53_1 : decode cJ9_floorMod_7cf53 1 = .ok (.iload_n 1, 1) := by decide +kernel
theorem dJ9_floorMod_7cf53_2 : decode cJ9_floorMod_7cf53 2 = .ok (.irem, 1) := by decide +kernel
theorem dJ9_floorMod_7cf53_3 : decode cJ9_floorMod_7cf53 3 = .ok (.istore_n 2, 1) := by decide +kernel
theorem dJ9_floorMod_7cf53_4 : decode cJ9_floorMod_7cf53 4 = .ok (.iload_n 0, 1) := by decide +kernel
theorem dJ9_floorMod_7cf53_5 : decode cJ9_floorMod_7cf53 5 = .ok (.iload_n 1, 1) := by decide +kernel
theorem dJ9_floorMod_7cf53_6 : decode cJ9_floorMod_7cf53 6 = .ok (.ixor, 1) := by decide +kernel
theorem dJ9_floorMod_7cf53_7 : decode cJ9_floorMod_7cf53 7 = .ok (.ifCond .ge 11, 3) := by decide +kernel
theorem dJ9_floorMod_7cf53_10 : decode cJ9_floorMod_7cf53 10 = .ok (.iload_n 2, 1) := by decide +kernel
theorem dJ9_floorMod_7cf53_11 : decode cJ9_floorMod_7cf53 11 = .ok (.ifCond .eq 7, 3) := by decide +kernel
theorem dJ9_floorMod_7cf53_14 : decode cJ9_floorMod_7cf53 14 = .ok (.iload_n 2, 1) := by decide +kernel
theorem dJ9_floorMod_7cf53_15 : decode cJ9_floorMod_7cf53 15 = .ok (.iload_n 1, 1) := by decide +kernel
theorem dJ9_floorMod_7cf53_16 : decode cJ9_floorMod_7cf53 16 = .ok (.iadd, 1) := by decide +kernel
theorem dJ9_floorMod_7cf53_17 : decode cJ9_floorMod_7cf53 17 = .ok (.ireturn, 1) := by decide +kernel
theorem dJ9_floorMod_7cf53_18 : decode cJ9_floorMod_7cf53 18 = .ok (.iload_n 2, 1) := by decide +kernel
theorem dJ9_floorMod_7cf53_19 : decode cJ9_floorMod_7cf53 19 = .ok (.ireturn, 1) := by decide +kernel
theorem dL_change_0 : decode cL_change 0 = .ok (.aload 6, 2) := by decide +kernel
theorem dL_change_2 : decode cL_change 2 = .ok (.iconst 0, 1) := by decide +kernel
theorem dL_change_3 : decode cL_change 3 = .ok (.aload_n 0, 1) := by decide +kernel
theorem dL_change_4 : decode cL_change 4 = .ok (.iload_n 1, 1) := by decide +kernel
theorem dL_change_5 : decode cL_change 5 = .ok (.iload_n 2, 1) := by decide +kernel
theorem dL_change_6 : decode cL_change 6 = .ok (.iload_n 3, 1) := by decide +kernel
theorem dL_change_7 : decode cL_change 7 = .ok (.iload 4, 2) := by decide +kernel
theorem dL_change_9 : decode cL_change 9 = .ok (.iload 5, 2) := by decide +kernel
theorem dL_change_11 : decode cL_change 11 = .ok (.invokevirtual 7, 3) := by decide +kernel
theorem dL_change_14 : decode cL_change 14 = .ok (.i2l, 1) := by decide +kernel
theorem dL_change_15 : decode cL_change 15 = .ok (.lastore, 1) := by decide +kernel
theorem dL_change_16 : decode cL_change 16 = .ok (.goto 11, 3) := by decide +kernel
theorem dL_change_19 : decode cL_change 19 = .ok (.astore 7, 2) := by decide +kernel
theorem dL_change_21 : decode cL_change 21 = .ok (.iconst 1, 1) := by decide +kernel
theorem dL_change_22 : decode cL_change 22 = .ok (.ireturn, 1) := by decide +kernel
theorem dL_change_23 : decode cL_change 23 = .ok (.astore 7, 2) := by decide +kernel
theorem dL_change_25 : decode cL_change 25 = .ok (.iconst 2, 1) := by decide +kernel
theorem dL_change_26 : decode cL_change 26 = .ok (.ireturn, 1) := by decide +kernel
theorem dL_change_27 : decode cL_change 27 = .ok (.iconst 0, 1) := by decide +kernel
theorem dL_change_28 : decode cL_change 28 = .ok (.ireturn, 1) := by decide +kernel
theorem dL_read_0 : decode cL_read 0 = .ok (.aload_n 3, 1) := by decide +kernel
theorem dL_read_1 : decode cL_read 1 = .ok (.iconst 0, 1) := by decide +kernel
theorem dL_read_2 : decode cL_read 2 = .ok (.aload_n 0, 1) := by decide +kernel
theorem dL_read_3 : decode cL_read 3 = .ok (.iload_n 1, 1) := by decide +kernel
theorem dL_read_4 : decode cL_read 4 = .ok (.iload_n 2, 1) := by decide +kernel
theorem dL_read_5 : decode cL_read 5 = .ok (.invokevirtual 17, 3) := by decide +kernel
theorem dL_read_8 : decode cL_read 8 = .ok (.i2l, 1) := by decide +kernel
theorem dL_read_9 : decode cL_read 9 = .ok (.lastore, 1) := by decide +kernel
theorem dL_read_10 : decode cL_read 10 = .ok (.goto 11, 3) := by decide +kernel
theorem dL_read_13 : decode cL_read 13 = .ok (.astore 4, 2) := by decide +kernel
theorem dL_read_15 : decode cL_read 15 = .ok (.iconst 1, 1) := by decide +kernel
theorem dL_read_16 : decode cL_read 16 = .ok (.ireturn, 1) := by decide +kernel
theorem dL_read_17 : decode cL_read 17 = .ok (.astore 4, 2) := by decide +kernel
theorem dL_read_19 : decode cL_read 19 = .ok (.iconst 2, 1) := by decide +kernel
theorem dL_read_20 : decode cL_read 20 = .ok (.ireturn, 1) := by decide +kernel
theorem dL_read_21 : decode cL_read 21 = .ok (.iconst 0, 1) := by decide +kernel
theorem dL_read_22 : decode cL_read 22 = .ok (.ireturn, 1) := by decide +kernel
theorem dL_sync_0 : decode cL_sync 0 = .ok (.aload_n 1, 1) := by decide +kernel
theorem dL_sync_1 : decode cL_sync 1 = .ok (.iconst 0, 1) := by decide +kernel
theorem dL_sync_2 : decode cL_sync 2 = .ok (.aload_n 0, 1) := by decide +kernel
theorem dL_sync_3 : decode cL_sync 3 = .ok (.invokevirtual 21, 3) := by decide +kernel
theorem dL_sync_6 : decode cL_sync 6 = .ok (.i2l, 1) := by decide +kernel
theorem dL_sync_7 : decode cL_sync 7 = .ok (.lastore, 1) := by decide +kernel
theorem dL_sync_8 : decode cL_sync 8 = .ok (.goto 6, 3) := by decide +kernel
theorem dL_sync_11 : decode cL_sync 11 = .ok (.astore_n 2, 1) := by decide +kernel
theorem dL_sync_12 : decode cL_sync 12 = .ok (.iconst 1, 1) := by decide +kernel
theorem dL_sync_13 : decode cL_sync 13 = .ok (.ireturn, 1) := by decide +kernel
theorem dL_sync_14 : decode cL_sync 14 = .ok (.iconst 0, 1) := by decide +kernel
theorem dL_sync_15 : decode cL_sync 15 = .ok (.ireturn, 1) := by decide +kernel
theorem dL_checkpoint_0 : decode cL_checkpoint 0 = .ok (.aload_n 1, 1) := by decide +kernel
theorem dL_checkpoint_1 : decode cL_checkpoint 1 = .ok (.iconst 0, 1) := by decide +kernel
theorem dL_checkpoint_2 : decode cL_checkpoint 2 = .ok (.aload_n 0, 1) := by decide +kernel
theorem dL_checkpoint_3 : decode cL_checkpoint 3 = .ok (.invokevirtual 25, 3) := by decide +kernel
theorem dL_checkpoint_6 : decode cL_checkpoint 6 = .ok (.i2l, 1) := by decide +kernel
theorem dL_checkpoint_7 : decode cL_checkpoint 7 = .ok (.lastore, 1) := by decide +kernel
theorem dL_checkpoint_8 : decode cL_checkpoint 8 = .ok (.goto 6, 3) := by decide +kernel
theorem dL_checkpoint_11 : decode cL_checkpoint 11 = .ok (.astore_n 2, 1) := by decide +kernel
theorem dL_checkpoint_12 : decode cL_checkpoint 12 = .ok (.iconst 1, 1) := by decide +kernel
theorem dL_checkpoint_13 : decode cL_checkpoint 13 = .ok (.ireturn, 1) := by decide +kernel
theorem dL_checkpoint_14 : decode cL_checkpoint 14 = .ok (.iconst 0, 1) := by decide +kernel
theorem dL_checkpoint_15 : decode cL_checkpoint 15 = .ok (.ireturn, 1) := by decide +kernel
theorem dL_power_0 : decode cL_power 0 = .ok (.aload_n 0, 1) := by decide +kernel
theorem dL_power_1 : decode cL_power 1 = .ok (.iload_n 1, 1) := by decide +kernel
theorem dL_power_2 : decode cL_power 2 = .ok (.invokevirtual 28, 3) := by decide +kernel
theorem dL_power_5 : decode cL_power 5 = .ok (.goto 6, 3) := by decide +kernel
theorem dL_power_8 : decode cL_power 8 = .ok (.astore_n 2, 1) := by decide +kernel
theorem dL_power_9 : decode cL_power 9 = .ok (.iconst 1, 1) := by decide +kernel
theorem dL_power_10 : decode cL_power 10 = .ok (.ireturn, 1) := by decide +kernel
theorem dL_power_11 : decode cL_power 11 = .ok (.iconst 0, 1) := by decide +kernel
theorem dL_power_12 : decode cL_power 12 = .ok (.ireturn, 1) := by decide +kernel
theorem dL_recover_0 : decode cL_recover 0 = .ok (.aload_n 1, 1) := by decide +kernel
theorem dL_recover_1 : decode cL_recover 1 = .ok (.iconst 0, 1) := by decide +kernel
theorem dL_recover_2 : decode cL_recover 2 = .ok (.aload_n 0, 1) := by decide +kernel
theorem dL_recover_3 : decode cL_recover 3 = .ok (.invokevirtual 32, 3) := by decide +kernel
theorem dL_recover_6 : decode cL_recover 6 = .ok (.i2l, 1) := by decide +kernel
theorem dL_recover_7 : decode cL_recover 7 = .ok (.lastore, 1) := by decide +kernel
theorem dL_recover_8 : decode cL_recover 8 = .ok (.goto 6, 3) := by decide +kernel
theorem dL_recover_11 : decode cL_recover 11 = .ok (.astore_n 2, 1) := by decide +kernel
theorem dL_recover_12 : decode cL_recover 12 = .ok (.iconst 1, 1) := by decide +kernel
theorem dL_recover_13 : decode cL_recover 13 = .ok (.ireturn, 1) := by decide +kernel
theorem dL_recover_14 : decode cL_recover 14 = .ok (.iconst 0, 1) := by decide +kernel
theorem dL_recover_15 : decode cL_recover 15 = .ok (.ireturn, 1) := by decide +kernel
theorem dL_cut_0 : decode cL_cut 0 = .ok (.aload_n 1, 1) := by decide +kernel
theorem dL_cut_1 : decode cL_cut 1 = .ok (.iconst 0, 1) := by decide +kernel
theorem dL_cut_2 : decode cL_cut 2 = .ok (.aload_n 0, 1) := by decide +kernel
theorem dL_cut_3 : decode cL_cut 3 = .ok (.invokevirtual 35, 3) := by decide +kernel
theorem dL_cut_6 : decode cL_cut 6 = .ok (.i2l, 1) := by decide +kernel
theorem dL_cut_7 : decode cL_cut 7 = .ok (.lastore, 1) := by decide +kernel
theorem dL_cut_8 : decode cL_cut 8 = .ok (.goto 6, 3) := by decide +kernel
theorem dL_cut_11 : decode cL_cut 11 = .ok (.astore_n 2, 1) := by decide +kernel
theorem dL_cut_12 : decode cL_cut 12 = .ok (.iconst 1, 1) := by decide +kernel
theorem dL_cut_13 : decode cL_cut 13 = .ok (.ireturn, 1) := by decide +kernel
theorem dL_cut_14 : decode cL_cut 14 = .ok (.iconst 0, 1) := by decide +kernel
theorem dL_cut_15 : decode cL_cut 15 = .ok (.ireturn, 1) := by decide +kernel
theorem dL_disk_0 : decode cL_disk 0 = .ok (.aload 4, 2) := by decide +kernel
theorem dL_disk_2 : decode cL_disk 2 = .ok (.iconst 0, 1) := by decide +kernel
theorem dL_disk_3 : decode cL_disk 3 = .ok (.aload_n 0, 1) := by decide +kernel
theorem dL_disk_4 : decode cL_disk 4 = .ok (.iload_n 1, 1) := by decide +kernel
theorem dL_disk_5 : decode cL_disk 5 = .ok (.iload_n 2, 1) := by decide +kernel
theorem dL_disk_6 : decode cL_disk 6 = .ok (.iload_n 3, 1) := by decide +kernel
theorem dL_disk_7 : decode cL_disk 7 = .ok (.invokevirtual 38, 3) := by decide +kernel
theorem dL_disk_10 : decode cL_disk 10 = .ok (.i2l, 1) := by decide +kernel
theorem dL_disk_11 : decode cL_disk 11 = .ok (.lastore, 1) := by decide +kernel
theorem dL_disk_12 : decode cL_disk 12 = .ok (.goto 7, 3) := by decide +kernel
theorem dL_disk_15 : decode cL_disk 15 = .ok (.astore 5, 2) := by decide +kernel
theorem dL_disk_17 : decode cL_disk 17 = .ok (.iconst 1, 1) := by decide +kernel
theorem dL_disk_18 : decode cL_disk 18 = .ok (.ireturn, 1) := by decide +kernel
theorem dL_disk_19 : decode cL_disk 19 = .ok (.iconst 0, 1) := by decide +kernel
theorem dL_disk_20 : decode cL_disk 20 = .ok (.ireturn, 1) := by decide +kernel
theorem dL_frame_0 : decode cL_frame 0 = .ok (.aload_n 3, 1) := by decide +kernel
theorem dL_frame_1 : decode cL_frame 1 = .ok (.iconst 0, 1) := by decide +kernel
theorem dL_frame_2 : decode cL_frame 2 = .ok (.aload_n 0, 1) := by decide +kernel
theorem dL_frame_3 : decode cL_frame 3 = .ok (.iload_n 1, 1) := by decide +kernel
theorem dL_frame_4 : decode cL_frame 4 = .ok (.iload_n 2, 1) := by decide +kernel
theorem dL_frame_5 : decode cL_frame 5 = .ok (.invokevirtual 42, 3) := by decide +kernel
theorem dL_frame_8 : decode cL_frame 8 = .ok (.i2l, 1) := by decide +kernel
theorem dL_frame_9 : decode cL_frame 9 = .ok (.lastore, 1) := by decide +kernel
theorem dL_frame_10 : decode cL_frame 10 = .ok (.goto 7, 3) := by decide +kernel
theorem dL_frame_13 : decode cL_frame 13 = .ok (.astore 4, 2) := by decide +kernel
theorem dL_frame_15 : decode cL_frame 15 = .ok (.iconst 1, 1) := by decide +kernel
theorem dL_frame_16 : decode cL_frame 16 = .ok (.ireturn, 1) := by decide +kernel
theorem dL_frame_17 : decode cL_frame 17 = .ok (.iconst 0, 1) := by decide +kernel
theorem dL_frame_18 : decode cL_frame 18 = .ok (.ireturn, 1) := by decide +kernel
theorem dL_count_0 : decode cL_count 0 = .ok (.aload_n 2, 1) := by decide +kernel
theorem dL_count_1 : decode cL_count 1 = .ok (.iconst 0, 1) := by decide +kernel
theorem dL_count_2 : decode cL_count 2 = .ok (.aload_n 0, 1) := by decide +kernel
theorem dL_count_3 : decode cL_count 3 = .ok (.iload_n 1, 1) := by decide +kernel
theorem dL_count_4 : decode cL_count 4 = .ok (.invokevirtual 45, 3) := by decide +kernel
theorem dL_count_7 : decode cL_count 7 = .ok (.i2l, 1) := by decide +kernel
theorem dL_count_8 : decode cL_count 8 = .ok (.lastore, 1) := by decide +kernel
theorem dL_count_9 : decode cL_count 9 = .ok (.goto 6, 3) := by decide +kernel
theorem dL_count_12 : decode cL_count 12 = .ok (.astore_n 3, 1) := by decide +kernel
theorem dL_count_13 : decode cL_count 13 = .ok (.iconst 1, 1) := by decide +kernel
theorem dL_count_14 : decode cL_count 14 = .ok (.ireturn, 1) := by decide +kernel
theorem dL_count_15 : decode cL_count 15 = .ok (.iconst 0, 1) := by decide +kernel
theorem dL_count_16 : decode cL_count 16 = .ok (.ireturn, 1) := by decide +kernel
theorem dL_law_0 : decode cL_law 0 = .ok (.new 8, 3) := by decide +kernel
theorem dL_law_3 : decode cL_law 3 = .ok (.dup, 1) := by decide +kernel
theorem dL_law_4 : decode cL_law 4 = .ok (.invokespecial 49, 3) := by decide +kernel
theorem dL_law_7 : decode cL_law 7 = .ok (.astore_n 1, 1) := by decide +kernel
theorem dL_law_8 : decode cL_law 8 = .ok (.new 50, 3) := by decide +kernel
theorem dL_law_11 : decode cL_law 11 = .ok (.dup, 1) := by decide +kernel
theorem dL_law_12 : decode cL_law 12 = .ok (.invokespecial 52, 3) := by decide +kernel
theorem dL_law_15 : decode cL_law 15 = .ok (.astore_n 2, 1) := by decide +kernel
theorem dL_law_16 : decode cL_law 16 = .ok (.iconst 1, 1) := by decide +kernel
theorem dL_law_17 : decode cL_law 17 = .ok (.newarray .long, 2) := by decide +kernel
theorem dL_law_19 : decode cL_law 19 = .ok (.astore_n 3, 1) := by decide +kernel
theorem dL_law_20 : decode cL_law 20 = .ok (.iconst 0, 1) := by decide +kernel
theorem dL_law_21 : decode cL_law 21 = .ok (.istore 4, 2) := by decide +kernel
theorem dL_law_23 : decode cL_law 23 = .ok (.iload 4, 2) := by decide +kernel
theorem dL_law_25 : decode cL_law 25 = .ok (.aload_n 0, 1) := by decide +kernel
theorem dL_law_26 : decode cL_law 26 = .ok (.arraylength, 1) := by decide +kernel
theorem dL_law_27 : decode cL_law 27 = .ok (.bipush 6, 2) := by decide +kernel
theorem dL_law_29 : decode cL_law 29 = .ok (.isub, 1) := by decide +kernel
theorem dL_law_30 : decode cL_law 30 = .ok (.if_icmp .gt 677, 3) := by decide +kernel
theorem dL_law_33 : decode cL_law 33 = .ok (.aload_n 0, 1) := by decide +kernel
theorem dL_law_34 : decode cL_law 34 = .ok (.iload 4, 2) := by decide +kernel
theorem dL_law_36 : decode cL_law 36 = .ok (.iaload, 1) := by decide +kernel
theorem dL_law_37 : decode cL_law 37 = .ok (.bipush 15, 2) := by decide +kernel
theorem dL_law_39 : decode cL_law 39 = .ok (.iand, 1) := by decide +kernel
theorem dL_law_40 : decode cL_law 40 = .ok (.tableswitch 661 0 10 #[60, 164, 232, 245, 289, 333, 369, 413, 457, 537, 605], 60) := by decide +kernel
theorem dL_law_100 : decode cL_law 100 = .ok (.aload_n 1, 1) := by decide +kernel
theorem dL_law_101 : decode cL_law 101 = .ok (.aload_n 0, 1) := by decide +kernel
theorem dL_law_102 : decode cL_law 102 = .ok (.iload 4, 2) := by decide +kernel
theorem dL_law_104 : decode cL_law 104 = .ok (.iconst 1, 1) := by decide +kernel
theorem dL_law_105 : decode cL_law 105 = .ok (.iadd, 1) := by decide +kernel
theorem dL_law_106 : decode cL_law 106 = .ok (.iaload, 1) := by decide +kernel
theorem dL_law_107 : decode cL_law 107 = .ok (.aload_n 0, 1) := by decide +kernel
theorem dL_law_108 : decode cL_law 108 = .ok (.iload 4, 2) := by decide +kernel
theorem dL_law_110 : decode cL_law 110 = .ok (.iconst 2, 1) := by decide +kernel
theorem dL_law_111 : decode cL_law 111 = .ok (.iadd, 1) := by decide +kernel
theorem dL_law_112 : decode cL_law 112 = .ok (.iaload, 1) := by decide +kernel
theorem dL_law_113 : decode cL_law 113 = .ok (.aload_n 0, 1) := by decide +kernel
theorem dL_law_114 : decode cL_law 114 = .ok (.iload 4, 2) := by decide +kernel
theorem dL_law_116 : decode cL_law 116 = .ok (.iconst 3, 1) := by decide +kernel
theorem dL_law_117 : decode cL_law 117 = .ok (.iadd, 1) := by decide +kernel
theorem dL_law_118 : decode cL_law 118 = .ok (.iaload, 1) := by decide +kernel
theorem dL_law_119 : decode cL_law 119 = .ok (.aload_n 0, 1) := by decide +kernel
theorem dL_law_120 : decode cL_law 120 = .ok (.iload 4, 2) := by decide +kernel
theorem dL_law_122 : decode cL_law 122 = .ok (.iconst 4, 1) := by decide +kernel
theorem dL_law_123 : decode cL_law 123 = .ok (.iadd, 1) := by decide +kernel
theorem dL_law_124 : decode cL_law 124 = .ok (.iaload, 1) := by decide +kernel
theorem dL_law_125 : decode cL_law 125 = .ok (.aload_n 0, 1) := by decide +kernel
theorem dL_law_126 : decode cL_law 126 = .ok (.iload 4, 2) := by decide +kernel
theorem dL_law_128 : decode cL_law 128 = .ok (.iconst 5, 1) := by decide +kernel
theorem dL_law_129 : decode cL_law 129 = .ok (.iadd, 1) := by decide +kernel
theorem dL_law_130 : decode cL_law 130 = .ok (.iaload, 1) := by decide +kernel
theorem dL_law_131 : decode cL_law 131 = .ok (.aload_n 3, 1) := by decide +kernel
theorem dL_law_132 : decode cL_law 132 = .ok (.invokestatic 53, 3) := by decide +kernel
theorem dL_law_135 : decode cL_law 135 = .ok (.istore 5, 2) := by decide +kernel
theorem dL_law_137 : decode cL_law 137 = .ok (.aload_n 2, 1) := by decide +kernel
theorem dL_law_138 : decode cL_law 138 = .ok (.aload_n 0, 1) := by decide +kernel
theorem dL_law_139 : decode cL_law 139 = .ok (.iload 4, 2) := by decide +kernel
theorem dL_law_141 : decode cL_law 141 = .ok (.iconst 1, 1) := by decide +kernel
theorem dL_law_142 : decode cL_law 142 = .ok (.iadd, 1) := by decide +kernel
theorem dL_law_143 : decode cL_law 143 = .ok (.iaload, 1) := by decide +kernel
theorem dL_law_144 : decode cL_law 144 = .ok (.aload_n 0, 1) := by decide +kernel
theorem dL_law_145 : decode cL_law 145 = .ok (.iload 4, 2) := by decide +kernel
theorem dL_law_147 : decode cL_law 147 = .ok (.iconst 2, 1) := by decide +kernel
theorem dL_law_148 : decode cL_law 148 = .ok (.iadd, 1) := by decide +kernel
theorem dL_law_149 : decode cL_law 149 = .ok (.iaload, 1) := by decide +kernel
theorem dL_law_150 : decode cL_law 150 = .ok (.aload_n 0, 1) := by decide +kernel
theorem dL_law_151 : decode cL_law 151 = .ok (.iload 4, 2) := by decide +kernel
theorem dL_law_153 : decode cL_law 153 = .ok (.iconst 3, 1) := by decide +kernel
theorem dL_law_154 : decode cL_law 154 = .ok (.iadd, 1) := by decide +kernel
theorem dL_law_155 : decode cL_law 155 = .ok (.iaload, 1) := by decide +kernel
theorem dL_law_156 : decode cL_law 156 = .ok (.aload_n 0, 1) := by decide +kernel
theorem dL_law_157 : decode cL_law 157 = .ok (.iload 4, 2) := by decide +kernel
theorem dL_law_159 : decode cL_law 159 = .ok (.iconst 4, 1) := by decide +kernel
theorem dL_law_160 : decode cL_law 160 = .ok (.iadd, 1) := by decide +kernel
theorem dL_law_161 : decode cL_law 161 = .ok (.iaload, 1) := by decide +kernel
theorem dL_law_162 : decode cL_law 162 = .ok (.aload_n 0, 1) := by decide +kernel
theorem dL_law_163 : decode cL_law 163 = .ok (.iload 4, 2) := by decide +kernel
theorem dL_law_165 : decode cL_law 165 = .ok (.iconst 5, 1) := by decide +kernel
theorem dL_law_166 : decode cL_law 166 = .ok (.iadd, 1) := by decide +kernel
theorem dL_law_167 : decode cL_law 167 = .ok (.iaload, 1) := by decide +kernel
theorem dL_law_168 : decode cL_law 168 = .ok (.invokevirtual 58, 3) := by decide +kernel
theorem dL_law_171 : decode cL_law 171 = .ok (.istore 6, 2) := by decide +kernel
theorem dL_law_173 : decode cL_law 173 = .ok (.aload_n 2, 1) := by decide +kernel
theorem dL_law_174 : decode cL_law 174 = .ok (.invokevirtual 59, 3) := by decide +kernel
theorem dL_law_177 : decode cL_law 177 = .ok (.iload 5, 2) := by decide +kernel
theorem dL_law_179 : decode cL_law 179 = .ok (.if_icmp .eq 5, 3) := by decide +kernel
theorem dL_law_182 : decode cL_law 182 = .ok (.iconst 0, 1) := by decide +kernel
theorem dL_law_183 : decode cL_law 183 = .ok (.ireturn, 1) := by decide +kernel
theorem dL_law_184 : decode cL_law 184 = .ok (.iload 5, 2) := by decide +kernel
theorem dL_law_186 : decode cL_law 186 = .ok (.ifCond .ne 15, 3) := by decide +kernel
theorem dL_law_189 : decode cL_law 189 = .ok (.aload_n 3, 1) := by decide +kernel
theorem dL_law_190 : decode cL_law 190 = .ok (.iconst 0, 1) := by decide +kernel
theorem dL_law_191 : decode cL_law 191 = .ok (.laload, 1) := by decide +kernel
theorem dL_law_192 : decode cL_law 192 = .ok (.iload 6, 2) := by decide +kernel
theorem dL_law_194 : decode cL_law 194 = .ok (.i2l, 1) := by decide +kernel
theorem dL_law_195 : decode cL_law 195 = .ok (.lcmp, 1) := by decide +kernel
theorem dL_law_196 : decode cL_law 196 = .ok (.ifCond .eq 5, 3) := by decide +kernel
theorem dL_law_199 : decode cL_law 199 = .ok (.iconst 0, 1) := by decide +kernel
theorem dL_law_200 : decode cL_law 200 = .ok (.ireturn, 1) := by decide +kernel
theorem dL_law_201 : decode cL_law 201 = .ok (.goto 500, 3) := by decide +kernel
theorem dL_law_204 : decode cL_law 204 = .ok (.aload_n 1, 1) := by decide +kernel
theorem dL_law_205 : decode cL_law 205 = .ok (.aload_n 0, 1) := by decide +kernel
theorem dL_law_206 : decode cL_law 206 = .ok (.iload 4, 2) := by decide +kernel
theorem dL_law_208 : decode cL_law 208 = .ok (.iconst 1, 1) := by decide +kernel
theorem dL_law_209 : decode cL_law 209 = .ok (.iadd, 1) := by decide +kernel
theorem dL_law_210 : decode cL_law 210 = .ok (.iaload, 1) := by decide +kernel
theorem dL_law_211 : decode cL_law 211 = .ok (.aload_n 0, 1) := by decide +kernel
theorem dL_law_212 : decode cL_law 212 = .ok (.iload 4, 2) := by decide +kernel
theorem dL_law_214 : decode cL_law 214 = .ok (.iconst 2, 1) := by decide +kernel
theorem dL_law_215 : decode cL_law 215 = .ok (.iadd, 1) := by decide +kernel
theorem dL_law_216 : decode cL_law 216 = .ok (.iaload, 1) := by decide +kernel
theorem dL_law_217 : decode cL_law 217 = .ok (.aload_n 3, 1) := by decide +kernel
theorem dL_law_218 : decode cL_law 218 = .ok (.invokestatic 62, 3) := by decide +kernel
theorem dL_law_221 : decode cL_law 221 = .ok (.istore 5, 2) := by decide +kernel
theorem dL_law_223 : decode cL_law 223 = .ok (.aload_n 2, 1) := by decide +kernel
theorem dL_law_224 : decode cL_law 224 = .ok (.aload_n 0, 1) := by decide +kernel
theorem dL_law_225 : decode cL_law 225 = .ok (.iload 4, 2) := by decide +kernel
theorem dL_law_227 : decode cL_law 227 = .ok (.iconst 1, 1) := by decide +kernel
theorem dL_law_228 : decode cL_law 228 = .ok (.iadd, 1) := by decide +kernel
theorem dL_law_229 : decode cL_law 229 = .ok (.iaload, 1) := by decide +kernel
theorem dL_law_230 : decode cL_law 230 = .ok (.aload_n 0, 1) := by decide +kernel
theorem dL_law_231 : decode cL_law 231 = .ok (.iload 4, 2) := by decide +kernel
theorem dL_law_233 : decode cL_law 233 = .ok (.iconst 2, 1) := by decide +kernel
theorem dL_law_234 : decode cL_law 234 = .ok (.iadd, 1) := by decide +kernel
theorem dL_law_235 : decode cL_law 235 = .ok (.iaload, 1) := by decide +kernel
theorem dL_law_236 : decode cL_law 236 = .ok (.invokevirtual 65, 3) := by decide +kernel
theorem dL_law_239 : decode cL_law 239 = .ok (.istore 6, 2) := by decide +kernel
theorem dL_law_241 : decode cL_law 241 = .ok (.aload_n 2, 1) := by decide +kernel
theorem dL_law_242 : decode cL_law 242 = .ok (.invokevirtual 59, 3) := by decide +kernel
theorem dL_law_245 : decode cL_law 245 = .ok (.iload 5, 2) := by decide +kernel
theorem dL_law_247 : decode cL_law 247 = .ok (.if_icmp .eq 5, 3) := by decide +kernel
theorem dL_law_250 : decode cL_law 250 = .ok (.iconst 0, 1) := by decide +kernel
theorem dL_law_251 : decode cL_law 251 = .ok (.ireturn, 1) := by decide +kernel
theorem dL_law_252 : decode cL_law 252 = .ok (.iload 5, 2) := by decide +kernel
theorem dL_law_254 : decode cL_law 254 = .ok (.ifCond .ne 15, 3) := by decide +kernel
theorem dL_law_257 : decode cL_law 257 = .ok (.aload_n 3, 1) := by decide +kernel
theorem dL_law_258 : decode cL_law 258 = .ok (.iconst 0, 1) := by decide +kernel
theorem dL_law_259 : decode cL_law 259 = .ok (.laload, 1) := by decide +kernel
theorem dL_law_260 : decode cL_law 260 = .ok (.iload 6, 2) := by decide +kernel
theorem dL_law_262 : decode cL_law 262 = .ok (.i2l, 1) := by decide +kernel
theorem dL_law_263 : decode cL_law 263 = .ok (.lcmp, 1) := by decide +kernel
theorem dL_law_264 : decode cL_law 264 = .ok (.ifCond .eq 5, 3) := by decide +kernel
theorem dL_law_267 : decode cL_law 267 = .ok (.iconst 0, 1) := by decide +kernel
theorem dL_law_268 : decode cL_law 268 = .ok (.ireturn, 1) := by decide +kernel
theorem dL_law_269 : decode cL_law 269 = .ok (.goto 432, 3) := by decide +kernel
theorem dL_law_272 : decode cL_law 272 = .ok (.aload_n 1, 1) := by decide +kernel
theorem dL_law_273 : decode cL_law 273 = .ok (.invokevirtual 66, 3) := by decide +kernel
theorem dL_law_276 : decode cL_law 276 = .ok (.aload_n 2, 1) := by decide +kernel
theorem dL_law_277 : decode cL_law 277 = .ok (.invokevirtual 69, 3) := by decide +kernel
theorem dL_law_280 : decode cL_law 280 = .ok (.if_icmp .eq 421, 3) := by decide +kernel
theorem dL_law_283 : decode cL_law 283 = .ok (.iconst 0, 1) := by decide +kernel
theorem dL_law_284 : decode cL_law 284 = .ok (.ireturn, 1) := by decide +kernel
theorem dL_law_285 : decode cL_law 285 = .ok (.aload_n 1, 1) := by decide +kernel
theorem dL_law_286 : decode cL_law 286 = .ok (.aload_n 3, 1) := by decide +kernel
theorem dL_law_287 : decode cL_law 287 = .ok (.invokestatic 70, 3) := by decide +kernel
theorem dL_law_290 : decode cL_law 290 = .ok (.istore 5, 2) := by decide +kernel
theorem dL_law_292 : decode cL_law 292 = .ok (.aload_n 2, 1) := by decide +kernel
theorem dL_law_293 : decode cL_law 293 = .ok (.invokevirtual 73, 3) := by decide +kernel
theorem dL_law_296 : decode cL_law 296 = .ok (.istore 6, 2) := by decide +kernel
theorem dL_law_298 : decode cL_law 298 = .ok (.aload_n 2, 1) := by decide +kernel
theorem dL_law_299 : decode cL_law 299 = .ok (.invokevirtual 59, 3) := by decide +kernel
theorem dL_law_302 : decode cL_law 302 = .ok (.iload 5, 2) := by decide +kernel
theorem dL_law_304 : decode cL_law 304 = .ok (.if_icmp .eq 5, 3) := by decide +kernel
theorem dL_law_307 : decode cL_law 307 = .ok (.iconst 0, 1) := by decide +kernel
theorem dL_law_308 : decode cL_law 308 = .ok (.ireturn, 1) := by decide +kernel
theorem dL_law_309 : decode cL_law 309 = .ok (.iload 5, 2) := by decide +kernel
theorem dL_law_311 : decode cL_law 311 = .ok (.ifCond .ne 15, 3) := by decide +kernel
theorem dL_law_314 : decode cL_law 314 = .ok (.aload_n 3, 1) := by decide +kernel
theorem dL_law_315 : decode cL_law 315 = .ok (.iconst 0, 1) := by decide +kernel
theorem dL_law_316 : decode cL_law 316 = .ok (.laload, 1) := by decide +kernel
theorem dL_law_317 : decode cL_law 317 = .ok (.iload 6, 2) := by decide +kernel
theorem dL_law_319 : decode cL_law 319 = .ok (.i2l, 1) := by decide +kernel
theorem dL_law_320 : decode cL_law 320 = .ok (.lcmp, 1) := by decide +kernel
theorem dL_law_321 : decode cL_law 321 = .ok (.ifCond .eq 5, 3) := by decide +kernel
theorem dL_law_324 : decode cL_law 324 = .ok (.iconst 0, 1) := by decide +kernel
theorem dL_law_325 : decode cL_law 325 = .ok (.ireturn, 1) := by decide +kernel
theorem dL_law_326 : decode cL_law 326 = .ok (.goto 375, 3) := by decide +kernel
theorem dL_law_329 : decode cL_law 329 = .ok (.aload_n 1, 1) := by decide +kernel
theorem dL_law_330 : decode cL_law 330 = .ok (.aload_n 3, 1) := by decide +kernel
theorem dL_law_331 : decode cL_law 331 = .ok (.invokestatic 74, 3) := by decide +kernel
theorem dL_law_334 : decode cL_law 334 = .ok (.istore 5, 2) := by decide +kernel
theorem dL_law_336 : decode cL_law 336 = .ok (.aload_n 2, 1) := by decide +kernel
theorem dL_law_337 : decode cL_law 337 = .ok (.invokevirtual 76, 3) := by decide +kernel
theorem dL_law_340 : decode cL_law 340 = .ok (.istore 6, 2) := by decide +kernel
theorem dL_law_342 : decode cL_law 342 = .ok (.aload_n 2, 1) := by decide +kernel
theorem dL_law_343 : decode cL_law 343 = .ok (.invokevirtual 59, 3) := by decide +kernel
theorem dL_law_346 : decode cL_law 346 = .ok (.iload 5, 2) := by decide +kernel
theorem dL_law_348 : decode cL_law 348 = .ok (.if_icmp .eq 5, 3) := by decide +kernel
theorem dL_law_351 : decode cL_law 351 = .ok (.iconst 0, 1) := by decide +kernel
theorem dL_law_352 : decode cL_law 352 = .ok (.ireturn, 1) := by decide +kernel
theorem dL_law_353 : decode cL_law 353 = .ok (.iload 5, 2) := by decide +kernel
theorem dL_law_355 : decode cL_law 355 = .ok (.ifCond .ne 15, 3) := by decide +kernel
theorem dL_law_358 : decode cL_law 358 = .ok (.aload_n 3, 1) := by decide +kernel
theorem dL_law_359 : decode cL_law 359 = .ok (.iconst 0, 1) := by decide +kernel
theorem dL_law_360 : decode cL_law 360 = .ok (.laload, 1) := by decide +kernel
theorem dL_law_361 : decode cL_law 361 = .ok (.iload 6, 2) := by decide +kernel
theorem dL_law_363 : decode cL_law 363 = .ok (.i2l, 1) := by decide +kernel
theorem dL_law_364 : decode cL_law 364 = .ok (.lcmp, 1) := by decide +kernel
theorem dL_law_365 : decode cL_law 365 = .ok (.ifCond .eq 5, 3) := by decide +kernel
theorem dL_law_368 : decode cL_law 368 = .ok (.iconst 0, 1) := by decide +kernel
theorem dL_law_369 : decode cL_law 369 = .ok (.ireturn, 1) := by decide +kernel
theorem dL_law_370 : decode cL_law 370 = .ok (.goto 331, 3) := by decide +kernel
theorem dL_law_373 : decode cL_law 373 = .ok (.aload_n 1, 1) := by decide +kernel
theorem dL_law_374 : decode cL_law 374 = .ok (.aload_n 0, 1) := by decide +kernel
theorem dL_law_375 : decode cL_law 375 = .ok (.iload 4, 2) := by decide +kernel
theorem dL_law_377 : decode cL_law 377 = .ok (.iconst 1, 1) := by decide +kernel
theorem dL_law_378 : decode cL_law 378 = .ok (.iadd, 1) := by decide +kernel
theorem dL_law_379 : decode cL_law 379 = .ok (.iaload, 1) := by decide +kernel
theorem dL_law_380 : decode cL_law 380 = .ok (.invokestatic 77, 3) := by decide +kernel
theorem dL_law_383 : decode cL_law 383 = .ok (.istore 5, 2) := by decide +kernel
theorem dL_law_385 : decode cL_law 385 = .ok (.aload_n 2, 1) := by decide +kernel
theorem dL_law_386 : decode cL_law 386 = .ok (.aload_n 0, 1) := by decide +kernel
theorem dL_law_387 : decode cL_law 387 = .ok (.iload 4, 2) := by decide +kernel
theorem dL_law_389 : decode cL_law 389 = .ok (.iconst 1, 1) := by decide +kernel
theorem dL_law_390 : decode cL_law 390 = .ok (.iadd, 1) := by decide +kernel
theorem dL_law_391 : decode cL_law 391 = .ok (.iaload, 1) := by decide +kernel
theorem dL_law_392 : decode cL_law 392 = .ok (.invokevirtual 80, 3) := by decide +kernel
theorem dL_law_395 : decode cL_law 395 = .ok (.aload_n 2, 1) := by decide +kernel
theorem dL_law_396 : decode cL_law 396 = .ok (.invokevirtual 59, 3) := by decide +kernel
theorem dL_law_399 : decode cL_law 399 = .ok (.iload 5, 2) := by decide +kernel
theorem dL_law_401 : decode cL_law 401 = .ok (.if_icmp .eq 5, 3) := by decide +kernel
theorem dL_law_404 : decode cL_law 404 = .ok (.iconst 0, 1) := by decide +kernel
theorem dL_law_405 : decode cL_law 405 = .ok (.ireturn, 1) := by decide +kernel
theorem dL_law_406 : decode cL_law 406 = .ok (.goto 295, 3) := by decide +kernel
theorem dL_law_409 : decode cL_law 409 = .ok (.aload_n 1, 1) := by decide +kernel
theorem dL_law_410 : decode cL_law 410 = .ok (.aload_n 3, 1) := by decide +kernel
theorem dL_law_411 : decode cL_law 411 = .ok (.invokestatic 81, 3) := by decide +kernel
theorem dL_law_414 : decode cL_law 414 = .ok (.istore 5, 2) := by decide +kernel
theorem dL_law_416 : decode cL_law 416 = .ok (.aload_n 2, 1) := by decide +kernel
theorem dL_law_417 : decode cL_law 417 = .ok (.invokevirtual 83, 3) := by decide +kernel
theorem dL_law_420 : decode cL_law 420 = .ok (.istore 6, 2) := by decide +kernel
theorem dL_law_422 : decode cL_law 422 = .ok (.aload_n 2, 1) := by decide +kernel
theorem dL_law_423 : decode cL_law 423 = .ok (.invokevirtual 59, 3) := by decide +kernel
theorem dL_law_426 : decode cL_law 426 = .ok (.iload 5, 2) := by decide +kernel
theorem dL_law_428 : decode cL_law 428 = .ok (.if_icmp .eq 5, 3) := by decide +kernel
theorem dL_law_431 : decode cL_law 431 = .ok (.iconst 0, 1) := by decide +kernel
theorem dL_law_432 : decode cL_law 432 = .ok (.ireturn, 1) := by decide +kernel
theorem dL_law_433 : decode cL_law 433 = .ok (.iload 5, 2) := by decide +kernel
theorem dL_law_435 : decode cL_law 435 = .ok (.ifCond .ne 15, 3) := by decide +kernel
theorem dL_law_438 : decode cL_law 438 = .ok (.aload_n 3, 1) := by decide +kernel
theorem dL_law_439 : decode cL_law 439 = .ok (.iconst 0, 1) := by decide +kernel
theorem dL_law_440 : decode cL_law 440 = .ok (.laload, 1) := by decide +kernel
theorem dL_law_441 : decode cL_law 441 = .ok (.iload 6, 2) := by decide +kernel
theorem dL_law_443 : decode cL_law 443 = .ok (.i2l, 1) := by decide +kernel
theorem dL_law_444 : decode cL_law 444 = .ok (.lcmp, 1) := by decide +kernel
theorem dL_law_445 : decode cL_law 445 = .ok (.ifCond .eq 5, 3) := by decide +kernel
theorem dL_law_448 : decode cL_law 448 = .ok (.iconst 0, 1) := by decide +kernel
theorem dL_law_449 : decode cL_law 449 = .ok (.ireturn, 1) := by decide +kernel
theorem dL_law_450 : decode cL_law 450 = .ok (.goto 251, 3) := by decide +kernel
theorem dL_law_453 : decode cL_law 453 = .ok (.aload_n 1, 1) := by decide +kernel
theorem dL_law_454 : decode cL_law 454 = .ok (.aload_n 3, 1) := by decide +kernel
theorem dL_law_455 : decode cL_law 455 = .ok (.invokestatic 84, 3) := by decide +kernel
theorem dL_law_458 : decode cL_law 458 = .ok (.istore 5, 2) := by decide +kernel
theorem dL_law_460 : decode cL_law 460 = .ok (.aload_n 2, 1) := by decide +kernel
theorem dL_law_461 : decode cL_law 461 = .ok (.invokevirtual 86, 3) := by decide +kernel
theorem dL_law_464 : decode cL_law 464 = .ok (.istore 6, 2) := by decide +kernel
theorem dL_law_466 : decode cL_law 466 = .ok (.aload_n 2, 1) := by decide +kernel
theorem dL_law_467 : decode cL_law 467 = .ok (.invokevirtual 59, 3) := by decide +kernel
theorem dL_law_470 : decode cL_law 470 = .ok (.iload 5, 2) := by decide +kernel
theorem dL_law_472 : decode cL_law 472 = .ok (.if_icmp .eq 5, 3) := by decide +kernel
theorem dL_law_475 : decode cL_law 475 = .ok (.iconst 0, 1) := by decide +kernel
theorem dL_law_476 : decode cL_law 476 = .ok (.ireturn, 1) := by decide +kernel
theorem dL_law_477 : decode cL_law 477 = .ok (.iload 5, 2) := by decide +kernel
theorem dL_law_479 : decode cL_law 479 = .ok (.ifCond .ne 15, 3) := by decide +kernel
theorem dL_law_482 : decode cL_law 482 = .ok (.aload_n 3, 1) := by decide +kernel
theorem dL_law_483 : decode cL_law 483 = .ok (.iconst 0, 1) := by decide +kernel
theorem dL_law_484 : decode cL_law 484 = .ok (.laload, 1) := by decide +kernel
theorem dL_law_485 : decode cL_law 485 = .ok (.iload 6, 2) := by decide +kernel
theorem dL_law_487 : decode cL_law 487 = .ok (.i2l, 1) := by decide +kernel
theorem dL_law_488 : decode cL_law 488 = .ok (.lcmp, 1) := by decide +kernel
theorem dL_law_489 : decode cL_law 489 = .ok (.ifCond .eq 5, 3) := by decide +kernel
theorem dL_law_492 : decode cL_law 492 = .ok (.iconst 0, 1) := by decide +kernel
theorem dL_law_493 : decode cL_law 493 = .ok (.ireturn, 1) := by decide +kernel
theorem dL_law_494 : decode cL_law 494 = .ok (.goto 207, 3) := by decide +kernel
theorem dL_law_497 : decode cL_law 497 = .ok (.aload_n 1, 1) := by decide +kernel
theorem dL_law_498 : decode cL_law 498 = .ok (.aload_n 0, 1) := by decide +kernel
theorem dL_law_499 : decode cL_law 499 = .ok (.iload 4, 2) := by decide +kernel
theorem dL_law_501 : decode cL_law 501 = .ok (.iconst 1, 1) := by decide +kernel
theorem dL_law_502 : decode cL_law 502 = .ok (.iadd, 1) := by decide +kernel
theorem dL_law_503 : decode cL_law 503 = .ok (.iaload, 1) := by decide +kernel
theorem dL_law_504 : decode cL_law 504 = .ok (.aload_n 0, 1) := by decide +kernel
theorem dL_law_505 : decode cL_law 505 = .ok (.iload 4, 2) := by decide +kernel
theorem dL_law_507 : decode cL_law 507 = .ok (.iconst 2, 1) := by decide +kernel
theorem dL_law_508 : decode cL_law 508 = .ok (.iadd, 1) := by decide +kernel
theorem dL_law_509 : decode cL_law 509 = .ok (.iaload, 1) := by decide +kernel
theorem dL_law_510 : decode cL_law 510 = .ok (.aload_n 0, 1) := by decide +kernel
theorem dL_law_511 : decode cL_law 511 = .ok (.iload 4, 2) := by decide +kernel
theorem dL_law_513 : decode cL_law 513 = .ok (.iconst 3, 1) := by decide +kernel
theorem dL_law_514 : decode cL_law 514 = .ok (.iadd, 1) := by decide +kernel
theorem dL_law_515 : decode cL_law 515 = .ok (.iaload, 1) := by decide +kernel
theorem dL_law_516 : decode cL_law 516 = .ok (.aload_n 3, 1) := by decide +kernel
theorem dL_law_517 : decode cL_law 517 = .ok (.invokestatic 87, 3) := by decide +kernel
theorem dL_law_520 : decode cL_law 520 = .ok (.istore 5, 2) := by decide +kernel
theorem dL_law_522 : decode cL_law 522 = .ok (.aload_n 2, 1) := by decide +kernel
theorem dL_law_523 : decode cL_law 523 = .ok (.aload_n 0, 1) := by decide +kernel
theorem dL_law_524 : decode cL_law 524 = .ok (.iload 4, 2) := by decide +kernel
theorem dL_law_526 : decode cL_law 526 = .ok (.iconst 1, 1) := by decide +kernel
theorem dL_law_527 : decode cL_law 527 = .ok (.iadd, 1) := by decide +kernel
theorem dL_law_528 : decode cL_law 528 = .ok (.iaload, 1) := by decide +kernel
theorem dL_law_529 : decode cL_law 529 = .ok (.aload_n 0, 1) := by decide +kernel
theorem dL_law_530 : decode cL_law 530 = .ok (.iload 4, 2) := by decide +kernel
theorem dL_law_532 : decode cL_law 532 = .ok (.iconst 2, 1) := by decide +kernel
theorem dL_law_533 : decode cL_law 533 = .ok (.iadd, 1) := by decide +kernel
theorem dL_law_534 : decode cL_law 534 = .ok (.iaload, 1) := by decide +kernel
theorem dL_law_535 : decode cL_law 535 = .ok (.aload_n 0, 1) := by decide +kernel
theorem dL_law_536 : decode cL_law 536 = .ok (.iload 4, 2) := by decide +kernel
theorem dL_law_538 : decode cL_law 538 = .ok (.iconst 3, 1) := by decide +kernel
theorem dL_law_539 : decode cL_law 539 = .ok (.iadd, 1) := by decide +kernel
theorem dL_law_540 : decode cL_law 540 = .ok (.iaload, 1) := by decide +kernel
theorem dL_law_541 : decode cL_law 541 = .ok (.invokevirtual 90, 3) := by decide +kernel
theorem dL_law_544 : decode cL_law 544 = .ok (.istore 6, 2) := by decide +kernel
theorem dL_law_546 : decode cL_law 546 = .ok (.aload_n 2, 1) := by decide +kernel
theorem dL_law_547 : decode cL_law 547 = .ok (.invokevirtual 59, 3) := by decide +kernel
theorem dL_law_550 : decode cL_law 550 = .ok (.iload 5, 2) := by decide +kernel
theorem dL_law_552 : decode cL_law 552 = .ok (.if_icmp .eq 5, 3) := by decide +kernel
theorem dL_law_555 : decode cL_law 555 = .ok (.iconst 0, 1) := by decide +kernel
theorem dL_law_556 : decode cL_law 556 = .ok (.ireturn, 1) := by decide +kernel
theorem dL_law_557 : decode cL_law 557 = .ok (.iload 5, 2) := by decide +kernel
theorem dL_law_559 : decode cL_law 559 = .ok (.ifCond .ne 15, 3) := by decide +kernel
theorem dL_law_562 : decode cL_law 562 = .ok (.aload_n 3, 1) := by decide +kernel
theorem dL_law_563 : decode cL_law 563 = .ok (.iconst 0, 1) := by decide +kernel
theorem dL_law_564 : decode cL_law 564 = .ok (.laload, 1) := by decide +kernel
theorem dL_law_565 : decode cL_law 565 = .ok (.iload 6, 2) := by decide +kernel
theorem dL_law_567 : decode cL_law 567 = .ok (.i2l, 1) := by decide +kernel
theorem dL_law_568 : decode cL_law 568 = .ok (.lcmp, 1) := by decide +kernel
theorem dL_law_569 : decode cL_law 569 = .ok (.ifCond .eq 5, 3) := by decide +kernel
theorem dL_law_572 : decode cL_law 572 = .ok (.iconst 0, 1) := by decide +kernel
theorem dL_law_573 : decode cL_law 573 = .ok (.ireturn, 1) := by decide +kernel
theorem dL_law_574 : decode cL_law 574 = .ok (.goto 127, 3) := by decide +kernel
theorem dL_law_577 : decode cL_law 577 = .ok (.aload_n 1, 1) := by decide +kernel
theorem dL_law_578 : decode cL_law 578 = .ok (.aload_n 0, 1) := by decide +kernel
theorem dL_law_579 : decode cL_law 579 = .ok (.iload 4, 2) := by decide +kernel
theorem dL_law_581 : decode cL_law 581 = .ok (.iconst 1, 1) := by decide +kernel
theorem dL_law_582 : decode cL_law 582 = .ok (.iadd, 1) := by decide +kernel
theorem dL_law_583 : decode cL_law 583 = .ok (.iaload, 1) := by decide +kernel
theorem dL_law_584 : decode cL_law 584 = .ok (.aload_n 0, 1) := by decide +kernel
theorem dL_law_585 : decode cL_law 585 = .ok (.iload 4, 2) := by decide +kernel
theorem dL_law_587 : decode cL_law 587 = .ok (.iconst 2, 1) := by decide +kernel
theorem dL_law_588 : decode cL_law 588 = .ok (.iadd, 1) := by decide +kernel
theorem dL_law_589 : decode cL_law 589 = .ok (.iaload, 1) := by decide +kernel
theorem dL_law_590 : decode cL_law 590 = .ok (.aload_n 3, 1) := by decide +kernel
theorem dL_law_591 : decode cL_law 591 = .ok (.invokestatic 91, 3) := by decide +kernel
theorem dL_law_594 : decode cL_law 594 = .ok (.istore 5, 2) := by decide +kernel
theorem dL_law_596 : decode cL_law 596 = .ok (.aload_n 2, 1) := by decide +kernel
theorem dL_law_597 : decode cL_law 597 = .ok (.aload_n 0, 1) := by decide +kernel
theorem dL_law_598 : decode cL_law 598 = .ok (.iload 4, 2) := by decide +kernel
theorem dL_law_600 : decode cL_law 600 = .ok (.iconst 1, 1) := by decide +kernel
theorem dL_law_601 : decode cL_law 601 = .ok (.iadd, 1) := by decide +kernel
theorem dL_law_602 : decode cL_law 602 = .ok (.iaload, 1) := by decide +kernel
theorem dL_law_603 : decode cL_law 603 = .ok (.aload_n 0, 1) := by decide +kernel
theorem dL_law_604 : decode cL_law 604 = .ok (.iload 4, 2) := by decide +kernel
theorem dL_law_606 : decode cL_law 606 = .ok (.iconst 2, 1) := by decide +kernel
theorem dL_law_607 : decode cL_law 607 = .ok (.iadd, 1) := by decide +kernel
theorem dL_law_608 : decode cL_law 608 = .ok (.iaload, 1) := by decide +kernel
theorem dL_law_609 : decode cL_law 609 = .ok (.invokevirtual 93, 3) := by decide +kernel
theorem dL_law_612 : decode cL_law 612 = .ok (.istore 6, 2) := by decide +kernel
theorem dL_law_614 : decode cL_law 614 = .ok (.aload_n 2, 1) := by decide +kernel
theorem dL_law_615 : decode cL_law 615 = .ok (.invokevirtual 59, 3) := by decide +kernel
theorem dL_law_618 : decode cL_law 618 = .ok (.iload 5, 2) := by decide +kernel
theorem dL_law_620 : decode cL_law 620 = .ok (.if_icmp .eq 5, 3) := by decide +kernel
theorem dL_law_623 : decode cL_law 623 = .ok (.iconst 0, 1) := by decide +kernel
theorem dL_law_624 : decode cL_law 624 = .ok (.ireturn, 1) := by decide +kernel
theorem dL_law_625 : decode cL_law 625 = .ok (.iload 5, 2) := by decide +kernel
theorem dL_law_627 : decode cL_law 627 = .ok (.ifCond .ne 15, 3) := by decide +kernel
theorem dL_law_630 : decode cL_law 630 = .ok (.aload_n 3, 1) := by decide +kernel
theorem dL_law_631 : decode cL_law 631 = .ok (.iconst 0, 1) := by decide +kernel
theorem dL_law_632 : decode cL_law 632 = .ok (.laload, 1) := by decide +kernel
theorem dL_law_633 : decode cL_law 633 = .ok (.iload 6, 2) := by decide +kernel
theorem dL_law_635 : decode cL_law 635 = .ok (.i2l, 1) := by decide +kernel
theorem dL_law_636 : decode cL_law 636 = .ok (.lcmp, 1) := by decide +kernel
theorem dL_law_637 : decode cL_law 637 = .ok (.ifCond .eq 5, 3) := by decide +kernel
theorem dL_law_640 : decode cL_law 640 = .ok (.iconst 0, 1) := by decide +kernel
theorem dL_law_641 : decode cL_law 641 = .ok (.ireturn, 1) := by decide +kernel
theorem dL_law_642 : decode cL_law 642 = .ok (.goto 59, 3) := by decide +kernel
theorem dL_law_645 : decode cL_law 645 = .ok (.aload_n 1, 1) := by decide +kernel
theorem dL_law_646 : decode cL_law 646 = .ok (.aload_n 0, 1) := by decide +kernel
theorem dL_law_647 : decode cL_law 647 = .ok (.iload 4, 2) := by decide +kernel
theorem dL_law_649 : decode cL_law 649 = .ok (.iconst 1, 1) := by decide +kernel
theorem dL_law_650 : decode cL_law 650 = .ok (.iadd, 1) := by decide +kernel
theorem dL_law_651 : decode cL_law 651 = .ok (.iaload, 1) := by decide +kernel
theorem dL_law_652 : decode cL_law 652 = .ok (.aload_n 3, 1) := by decide +kernel
theorem dL_law_653 : decode cL_law 653 = .ok (.invokestatic 94, 3) := by decide +kernel
theorem dL_law_656 : decode cL_law 656 = .ok (.istore 5, 2) := by decide +kernel
theorem dL_law_658 : decode cL_law 658 = .ok (.aload_n 2, 1) := by decide +kernel
theorem dL_law_659 : decode cL_law 659 = .ok (.aload_n 0, 1) := by decide +kernel
theorem dL_law_660 : decode cL_law 660 = .ok (.iload 4, 2) := by decide +kernel
theorem dL_law_662 : decode cL_law 662 = .ok (.iconst 1, 1) := by decide +kernel
theorem dL_law_663 : decode cL_law 663 = .ok (.iadd, 1) := by decide +kernel
theorem dL_law_664 : decode cL_law 664 = .ok (.iaload, 1) := by decide +kernel
theorem dL_law_665 : decode cL_law 665 = .ok (.invokevirtual 97, 3) := by decide +kernel
theorem dL_law_668 : decode cL_law 668 = .ok (.istore 6, 2) := by decide +kernel
theorem dL_law_670 : decode cL_law 670 = .ok (.aload_n 2, 1) := by decide +kernel
theorem dL_law_671 : decode cL_law 671 = .ok (.invokevirtual 59, 3) := by decide +kernel
theorem dL_law_674 : decode cL_law 674 = .ok (.iload 5, 2) := by decide +kernel
theorem dL_law_676 : decode cL_law 676 = .ok (.if_icmp .eq 5, 3) := by decide +kernel
theorem dL_law_679 : decode cL_law 679 = .ok (.iconst 0, 1) := by decide +kernel
theorem dL_law_680 : decode cL_law 680 = .ok (.ireturn, 1) := by decide +kernel
theorem dL_law_681 : decode cL_law 681 = .ok (.iload 5, 2) := by decide +kernel
theorem dL_law_683 : decode cL_law 683 = .ok (.ifCond .ne 15, 3) := by decide +kernel
theorem dL_law_686 : decode cL_law 686 = .ok (.aload_n 3, 1) := by decide +kernel
theorem dL_law_687 : decode cL_law 687 = .ok (.iconst 0, 1) := by decide +kernel
theorem dL_law_688 : decode cL_law 688 = .ok (.laload, 1) := by decide +kernel
theorem dL_law_689 : decode cL_law 689 = .ok (.iload 6, 2) := by decide +kernel
theorem dL_law_691 : decode cL_law 691 = .ok (.i2l, 1) := by decide +kernel
theorem dL_law_692 : decode cL_law 692 = .ok (.lcmp, 1) := by decide +kernel
theorem dL_law_693 : decode cL_law 693 = .ok (.ifCond .eq 5, 3) := by decide +kernel
theorem dL_law_696 : decode cL_law 696 = .ok (.iconst 0, 1) := by decide +kernel
theorem dL_law_697 : decode cL_law 697 = .ok (.ireturn, 1) := by decide +kernel
theorem dL_law_698 : decode cL_law 698 = .ok (.goto 3, 3) := by decide +kernel
theorem dL_law_701 : decode cL_law 701 = .ok (.iinc 4 6, 3) := by decide +kernel
theorem dL_law_704 : decode cL_law 704 = .ok (.goto (-681), 3) := by decide +kernel
theorem dL_law_707 : decode cL_law 707 = .ok (.iconst 1, 1) := by decide +kernel
theorem dL_law_708 : decode cL_law 708 = .ok (.ireturn, 1) := by decide +kernel
end
section
/-! MEMORY BLOCKS: a world of n cells at the addresses ad i, each with the ints σ i; references in it never change -/
abbrev me_M : Type := Nat → Nat → Int32
def me_st (σ : me_M) (i k : Nat) (x : Int32) : me_M := va_up σ i (upd (σ i) k x)
theorem me_st_eq (σ : me_M) (i k : Nat) (x : Int32) (a b : Nat) : me_st σ i k x a b = if a = i ∧ b = k then x else σ a b := by
  unfold me_st va_up upd
  by_cases h : a = i
  · subst h
    by_cases h2 : b = k <;> simp [h2]
  · simp [h]
theorem me_st_self (σ : me_M) (i k : Nat) (x : Int32) : me_st σ i k x i k = x := by simp [me_st_eq]
theorem me_st_c (σ : me_M) {i a : Nat} (k : Nat) (x : Int32) (h : a ≠ i) : me_st σ i k x a = σ a := by
  funext b
  simp [me_st_eq, h]
theorem me_st_s (σ : me_M) (i : Nat) {k b : Nat} (x : Int32) (h : b ≠ k) : me_st σ i k x i b = σ i b := by simp [me_st_eq, h]
theorem me_st_i (σ : me_M) (i k : Nat) (x : Int32) : me_st σ i k x i = upd (σ i) k x := by simp [me_st, va_up]
def me_w (E : Nat → (Nat → Int32) → va_E) (ad : Nat → Nat) (n : Nat) (rest : va_W) (σ : me_M) : va_W := (List.range n).map (fun i => (ad i, E i (σ i))) ++ rest
theorem me_get {E : Nat → (Nat → Int32) → va_E} {ad : Nat → Nat} {n : Nat} {rest : va_W} {σ : me_M} {i : Nat} {e : va_E} (h : i < n) (he : E i (σ i) = e) : (me_w E ad n rest σ)[i]? = some (ad i, e) := by
  unfold me_w
  rw [List.getElem?_append_left (by simp; exact h)]
  simp [h, he]
theorem me_up {E : Nat → (Nat → Int32) → va_E} {ad : Nat → Nat} {n : Nat} {rest : va_W} {σ : me_M} {i : Nat} {f : Nat → Int32} {e : va_E} (h : i < n) (he : E i f = e) : (me_w E ad n rest σ).set i (ad i, e) = me_w E ad n rest (va_up σ i f) := by
  unfold me_w
  rw [List.set_append_left _ _ (by simp; exact h)]
  congr 1
  apply List.ext_getElem?
  intro j
  by_cases hj : j = i
  · subst hj
    rw [List.getElem?_set_self (by simp; exact h)]
    simp [h, va_up, he]
  · rw [List.getElem?_set_ne (Ne.symm hj)]
    by_cases hl : j < n
    · simp [hl, va_up, hj]
    · simp [hl]
def me_T (cy : Nat → ClassId) : List (ClassId × FieldType) := [(cy 0, .int), (cy 1, .boolean), (cy 2, .long), (cy 3, .object "TwinWrites$Place"), (cy 4, .object "TwinWrites$Change"), (cy 5, .object "TwinWrites$Frame")]
def me_P (D : va_G) (tys : List (ClassId × FieldType)) (w : va_W) (sz : Nat) : State → Prop := fun U => U.heap.size = sz ∧ va_P D vwCl w U.heap ∧ va_K D vwCl tys U ∧ va_D (fun _ => True) w
def me_B (D : va_G) (tys : List (ClassId × FieldType)) (A : Nat → Prop) (w : me_M → va_W) : me_M → State → Prop := fun σ t => va_P D vwCl (w σ) t.heap ∧ va_K D vwCl tys t ∧ va_D A (w σ)
/-- a method that answers an int (or a boolean): from the memory σ on it answers f.1 and leaves f.2 -/
def me_Ci (l : Launch) (y : MethodName) (ws : List Cond) (rm : Room) (D : va_G) (tys : List (ClassId × FieldType)) (w : me_M → va_W) (av : List Value) (sz : Nat) (σ : me_M) (f : Int32 × me_M) : Prop :=
  Met l y ws rm (va_Pc av (me_P D tys (w σ) sz)) (va_Qi (fun r σ' => (r, σ') = f) (me_B D tys (va_A (w σ) sz) w) (va_A (w σ) sz)) 0 0 (va_A (w σ) sz)
def me_Cv (l : Launch) (y : MethodName) (ws : List Cond) (rm : Room) (D : va_G) (tys : List (ClassId × FieldType)) (w : me_M → va_W) (av : List Value) (sz : Nat) (σ : me_M) (f : me_M) : Prop :=
  Met l y ws rm (va_Pc av (me_P D tys (w σ) sz)) (va_Qv (fun σ' => σ' = f) (me_B D tys (va_A (w σ) sz) w) (va_A (w σ) sz)) 0 0 (va_A (w σ) sz)
theorem me_blind {D : va_G} {tys : List (ClassId × FieldType)} {w : va_W} {sz : Nat} {av : List Value} : FrameBlind (va_Pc av (me_P D tys w sz)) := fun a U g mk q => by
  obtain ⟨q0, q1, qP, qK, qD⟩ := q
  exact ⟨q0, q1, qP, va_K.moved (u := U) (U := U.calling g mk a) (Vm.Alike.refl U.vm) qK, qD⟩
theorem me_pre {D : va_G} {tys : List (ClassId × FieldType)} {w : va_W} {av : List Value} {A : Nat → Prop} {s : State} {H : Heap} (hK : va_K D vwCl tys s) (hP : va_P D vwCl w H) (hD : va_D A w) : ∀ U : State, U.heap = H → s.WarmedH U.vm → va_Pc av (me_P D tys w H.size) av.toArray U :=
  fun U hU hW => ⟨rfl, by rw [hU], by rw [hU]; exact hP, va_K.moved hW.alike hK, hD.weaken (fun _ _ _ _ => trivial)⟩
theorem me_free {A : Nat → Prop} {w : va_W} {H0 H : Heap} {locs : List Loc} (hD : va_D A w) (hS : va_S A H0 H locs) (hA : ∀ q, H0.size ≤ q → A q) : ∀ q, va_A w H.size q → A q := by
  intro q h
  rcases h with ⟨k, e, h⟩ | h
  · exact hD.2 k (q, e) h
  · exact hA q (Nat.le_trans hS.1 h)
section MEA
variable {p : Program} {l : Launch} {e : Env} {R : Room} {s : State} {m : MethodId} {args : Array Value} {below : List Frame} {meth : Method} {c : Code} {H : Heap} {locs : List Loc} {cells slots : Nat} {Q : State → Prop}
variable {cc : ByteArray} {pc : Nat} {ls : Array Slot} {rest st : List Value} {D : va_G} {A : Nat → Prop} {b : Nat} {tys : List (ClassId × FieldType)} {E : Nat → (Nat → Int32) → va_E} {ad : Nat → Nat} {N : Nat} {xr : va_W} {σ : me_M} {w : me_M → va_W}
variable {y : MethodName} {bytes : ByteArray} {maxL nL n index : Nat} {ret : Option FieldType} {ws : List Cond} {rm : Room} {Ts : List Cond} {own C : String} {As : List Value}
/-- the top of the stack under another name -/
theorem me_top {x z : Int32} (h : x = z) (k : W p l e R s m args below meth c H locs cells slots Q (F0 m pc ls (.int z :: rest))) : W p l e R s m args below meth c H locs cells slots Q (F0 m pc ls (.int x :: rest)) := by rw [h]; exact k
theorem me_topr {x z : Value} (h : x = z) (k : W p l e R s m args below meth c H locs cells slots Q (F0 m pc ls (z :: rest))) : W p l e R s m args below meth c H locs cells slots Q (F0 m pc ls (x :: rest)) := by rw [h]; exact k
theorem me_put (hexec : p.tables.exec = Jvm.exec) (hb : c.code = cc) {ref : String} {T : u_T} {M ci : Nat} (hts : ∀ w ∈ Ts, w.before args s = true) (hin : ∀ w ∈ u_ws C T M, w ∈ Ts) (ty0 : Nat → FieldType) (hty : ∀ k, k < M → parseFieldDescriptor (T k).2.2.1 = some (ty0 k)) (hnm : ∀ a, a < M → ∀ b, b < M → a ≠ b → (T a).2.1 ≠ (T b).2.1) (hown : s.vm.findClass own = some m.cls) (hK : va_K D vwCl tys s) (hP : va_P D vwCl (me_w E ad N xr σ) H) (hD : va_D A (me_w E ad N xr σ)) (hS : va_S A s.heap H locs) (i : Nat) (hi : i < N) {fs : List Value} (he : E i (σ i) = .inr (ci, fs)) (hc : vwCl[ci]? = some (C, T, M)) (k : Nat) (hk : k < M) (hlink : (Cond.fieldLink own index ref (T k).2.1 (T k).2.2.1).before args s = true) (hsame : ∀ x, s.fieldFound? (T k).1 (T k).2.1 (T k).2.2.1 = some x → s.fieldFound? ref (T k).2.1 (T k).2.2.1 = some x) (hfin : (T k).2.2.2 = false) {ty : FieldType} {x : Int32} (hd : parseFieldDescriptor (T k).2.2.1 = some ty) (hn : narrow ty (.int x) = .int x) (hfit : fits ty (.int x) = true) (hl : k < fs.length) (he2 : E i (upd (σ i) k x) = .inr (ci, fs.set k (.int x)))
    (hdg : decode cc pc = .ok (.putfield index, 3)) (kk : ∀ (σ1 : me_M) (H1 : Heap) (locs1 : List Loc), me_st σ i k x = σ1 → va_P D vwCl (me_w E ad N xr σ1) H1 → va_D A (me_w E ad N xr σ1) → va_S A s.heap H1 locs1 → W p l e R s m args below meth c H1 locs1 cells slots Q (F0 m (pc + 3) ls rest)) : W p l e R s m args below meth c H locs cells slots Q (F0 m pc ls (.int x :: .ref (ad i) :: rest)) := by
  refine va_put hexec hb hts hin ty0 hty hnm hown hK hP hD hS i (me_get hi he) hc k hk hlink hsame hfin hd hn hfit hl hdg (fun H1 locs1 h1 h2 h3 => ?_)
  rw [me_up hi he2] at h1 h2
  exact kk _ H1 locs1 rfl h1 h2 h3
theorem me_iast (hexec : p.tables.exec = Jvm.exec) (hb : c.code = cc) (hK : va_K D vwCl tys s) (hP : va_P D vwCl (me_w E ad N xr σ) H) (hD : va_D A (me_w E ad N xr σ)) (hS : va_S A s.heap H locs) (i t0 : Nat) (hi : i < N) {cA : ClassId} {z : Nat} (he : ∀ f, E i f = .inl (cA, z, .inl f)) (ht : tys[t0]? = some (cA, .int)) {j x : Int32} (k : Nat) (hj : j = nI k) (hk : k < z) (hz : z < 2 ^ 31) (hdg : decode cc pc = .ok (.iastore, 1))
    (kk : ∀ (σ1 : me_M) (H1 : Heap) (locs1 : List Loc), me_st σ i k x = σ1 → va_P D vwCl (me_w E ad N xr σ1) H1 → va_D A (me_w E ad N xr σ1) → va_S A s.heap H1 locs1 → W p l e R s m args below meth c H1 locs1 cells slots Q (F0 m (pc + 1) ls rest)) : W p l e R s m args below meth c H locs cells slots Q (F0 m pc ls (.int x :: .int j :: .ref (ad i) :: rest)) := by
  subst hj
  refine va_iast hexec hb hK hP hD hS i t0 (me_get hi (he _)) ht (vp_in_nI hk hz) hdg (fun H1 locs1 h1 h2 h3 => ?_)
  rw [nI_clamp (Nat.lt_trans hk hz), me_up hi (he _)] at h1 h2
  exact kk _ H1 locs1 rfl h1 h2 h3
theorem me_zast (hexec : p.tables.exec = Jvm.exec) (hb : c.code = cc) (hK : va_K D vwCl tys s) (hP : va_P D vwCl (me_w E ad N xr σ) H) (hD : va_D A (me_w E ad N xr σ)) (hS : va_S A s.heap H locs) (i t0 : Nat) (hi : i < N) {cA : ClassId} {z : Nat} (he : ∀ f, E i f = .inl (cA, z, .inl f)) (ht : tys[t0]? = some (cA, .boolean)) {j x : Int32} (k : Nat) (hj : j = nI k) (hk : k < z) (hz : z < 2 ^ 31) (hx : vp_nar .boolean x = x) (hdg : decode cc pc = .ok (.bastore, 1))
    (kk : ∀ (σ1 : me_M) (H1 : Heap) (locs1 : List Loc), me_st σ i k x = σ1 → va_P D vwCl (me_w E ad N xr σ1) H1 → va_D A (me_w E ad N xr σ1) → va_S A s.heap H1 locs1 → W p l e R s m args below meth c H1 locs1 cells slots Q (F0 m (pc + 1) ls rest)) : W p l e R s m args below meth c H locs cells slots Q (F0 m pc ls (.int x :: .int j :: .ref (ad i) :: rest)) := by
  subst hj
  refine va_zast hexec hb hK hP hD hS i t0 (me_get hi (he _)) ht (vp_in_nI hk hz) hdg (fun H1 locs1 h1 h2 h3 => ?_)
  rw [nI_clamp (Nat.lt_trans hk hz), hx, me_up hi (he _)] at h1 h2
  exact kk _ H1 locs1 rfl h1 h2 h3
theorem me_iald (hexec : p.tables.exec = Jvm.exec) (hb : c.code = cc) (hK : va_K D vwCl tys s) (hP : va_P D vwCl (me_w E ad N xr σ) H) (i t0 : Nat) (hi : i < N) {cA : ClassId} {z : Nat} (he : ∀ f, E i f = .inl (cA, z, .inl f)) (ht : tys[t0]? = some (cA, .int)) {j : Int32} (k : Nat) (hj : j = nI k) (hk : k < z) (hz : z < 2 ^ 31) (hdg : decode cc pc = .ok (.iaload, 1))
    (kk : W p l e R s m args below meth c H locs cells slots Q (F0 m (pc + 1) ls (.int (σ i k) :: rest))) : W p l e R s m args below meth c H locs cells slots Q (F0 m pc ls (.int j :: .ref (ad i) :: rest)) := by
  subst hj
  refine va_iald hexec hb hK hP i t0 (me_get hi (he _)) ht (vp_in_nI hk hz) hdg ?_
  rw [nI_clamp (Nat.lt_trans hk hz)]
  exact kk
theorem me_zald (hexec : p.tables.exec = Jvm.exec) (hb : c.code = cc) (hK : va_K D vwCl tys s) (hP : va_P D vwCl (me_w E ad N xr σ) H) (i t0 : Nat) (hi : i < N) {cA : ClassId} {z : Nat} (he : ∀ f, E i f = .inl (cA, z, .inl f)) (ht : tys[t0]? = some (cA, .boolean)) {j : Int32} (k : Nat) (hj : j = nI k) (hk : k < z) (hz : z < 2 ^ 31) (hdg : decode cc pc = .ok (.baload, 1))
    (kk : W p l e R s m args below meth c H locs cells slots Q (F0 m (pc + 1) ls (.int (σ i k) :: rest))) : W p l e R s m args below meth c H locs cells slots Q (F0 m pc ls (.int j :: .ref (ad i) :: rest)) := by
  subst hj
  refine va_zald hexec hb hK hP i t0 (me_get hi (he _)) ht (vp_in_nI hk hz) hdg ?_
  rw [nI_clamp (Nat.lt_trans hk hz)]
  exact kk
/-- a place of an array of references that never change -/
theorem me_aald (hexec : p.tables.exec = Jvm.exec) (hb : c.code = cc) (hK : va_K D vwCl tys s) (hP : va_P D vwCl (me_w E ad N xr σ) H) (i t0 : Nat) (hi : i < N) {cA : ClassId} {C : String} {z : Nat} {g : Nat → Nat} (he : ∀ f, E i f = .inl (cA, z, .inr (.inr (.inr (.inr (fun j => some (g j))))))) (ht : tys[t0]? = some (cA, .object C)) {j : Int32} (k : Nat) (hj : j = nI k) (hk : k < z) (hz : z < 2 ^ 31) (hdg : decode cc pc = .ok (.aaload, 1))
    (kk : W p l e R s m args below meth c H locs cells slots Q (F0 m (pc + 1) ls (.ref (g k) :: rest))) : W p l e R s m args below meth c H locs cells slots Q (F0 m pc ls (.int j :: .ref (ad i) :: rest)) := by
  subst hj
  refine va_aldq hexec hb hK hP i t0 (me_get hi (he _)) ht (vp_in_nI hk hz) hdg ?_
  rw [nI_clamp (Nat.lt_trans hk hz)]
  exact kk
/-- a call of a method of an object of the world: int or boolean, or nothing -/
theorem me_calli {f : Int32 × me_M} (S : CallFix p m c cc nL s args Ts own) (hM : ∀ sz, me_Ci l y ws rm D tys w (.ref b :: As) sz σ f) (cw : CallW R s args own C index y bytes maxL ret ws rm 0 0 n)
    (hrec : ∃ cell : Cell, H[b]? = some cell ∧ cell.vm.isStatics = false ∧ s.vm.findClass C = some cell.cls) (hK : va_K D vwCl tys s) (hP : va_P D vwCl (w σ) H) (hD : va_D A (w σ)) (hS : va_S A s.heap H locs) (hA : ∀ q, s.heap.size ≤ q → A q)
    (hn : As.length = n) (hsize : ls.size = nL) (hst : st = As.reverse ++ .ref b :: rest) (hW : (rest.map fun v => v.category).sum ≤ 8) (hdg : decode cc pc = .ok (.invokevirtual index, 3)) (hf : cells ≤ R.cells ∧ slots ≤ R.slots)
    (kk : ∀ (r : Int32) (σ1 : me_M) (H1 : Heap) (locs1 : List Loc), f = (r, σ1) → va_P D vwCl (w σ1) H1 → va_D A (w σ1) → va_S A s.heap H1 locs1 → W p l e R s m args below meth c H1 locs1 cells slots Q (F0 m (pc + 3) ls (.int r :: rest))) : W p l e R s m args below meth c H locs cells slots Q (F0 m pc ls st) := by
  have hF := me_free hD hS hA
  refine va_calli (va_runV (As := As) (rest := rest) S (hM H.size) cw ⟨me_blind, hrec, me_pre hK hP hD⟩ rfl hn hsize hst (by simpa using hW) hdg hf) hS (fun q _ h => hF q h) hF (fun r u t H1 locs1 ht hvm hw hB hz1 hk1 hS1 => ?_)
  obtain ⟨hP1, hK1, hD1⟩ := hB
  rw [ht] at hP1
  exact kk _ _ H1 locs1 hw.symm hP1 (hD1.weaken (fun k q _ h => hF q.1 h)) hS1
theorem me_callv {f : me_M} (S : CallFix p m c cc nL s args Ts own) (hM : ∀ sz, me_Cv l y ws rm D tys w (.ref b :: As) sz σ f) (cw : CallW R s args own C index y bytes maxL ret ws rm 0 0 n)
    (hrec : ∃ cell : Cell, H[b]? = some cell ∧ cell.vm.isStatics = false ∧ s.vm.findClass C = some cell.cls) (hK : va_K D vwCl tys s) (hP : va_P D vwCl (w σ) H) (hD : va_D A (w σ)) (hS : va_S A s.heap H locs) (hA : ∀ q, s.heap.size ≤ q → A q)
    (hn : As.length = n) (hsize : ls.size = nL) (hst : st = As.reverse ++ .ref b :: rest) (hW : (rest.map fun v => v.category).sum ≤ 8) (hdg : decode cc pc = .ok (.invokevirtual index, 3)) (hf : cells ≤ R.cells ∧ slots ≤ R.slots)
    (kk : ∀ (σ1 : me_M) (H1 : Heap) (locs1 : List Loc), f = σ1 → va_P D vwCl (w σ1) H1 → va_D A (w σ1) → va_S A s.heap H1 locs1 → W p l e R s m args below meth c H1 locs1 cells slots Q (F0 m (pc + 3) ls rest)) : W p l e R s m args below meth c H locs cells slots Q (F0 m pc ls st) := by
  have hF := me_free hD hS hA
  refine va_callv (va_runV (As := As) (rest := rest) S (hM H.size) cw ⟨me_blind, hrec, me_pre hK hP hD⟩ rfl hn hsize hst (by simpa using hW) hdg hf) hS (fun q _ h => hF q h) hF (fun u t H1 locs1 ht hvm hw hB hz1 hk1 hS1 => ?_)
  obtain ⟨hP1, hK1, hD1⟩ := hB
  rw [ht] at hP1
  exact kk _ H1 locs1 hw.symm hP1 (hD1.weaken (fun k q _ h => hF q.1 h)) hS1
/-- a static method of ints alone -/
def me_Cs (l : Launch) (y : MethodName) (ws : List Cond) (rm : Room) (av : List Value) (r : Int32) : Prop := Met l y ws rm (fun v _ => v = av.toArray) (QcRead r) 0 0 (fun _ => False)
theorem me_calls {r : Int32} (S : CallFix p m c cc nL s args Ts own) (hM : me_Cs l y ws rm As r) (cw : CallB R s args own index y bytes maxL ret ws rm 0 0 n ∧ (Cond.static y).before args s = true)
    (hn : As.length = n) (hsize : ls.size = nL) (hst : st = As.reverse ++ rest) (hW : (rest.map fun v => v.category).sum ≤ 8) (hdg : decode cc pc = .ok (.invokestatic index, 3)) (hf : cells ≤ R.cells ∧ slots ≤ R.slots)
    (kk : W p l e R s m args below meth c H locs cells slots Q (F0 m (pc + 3) ls (.int r :: rest))) : W p l e R s m args below meth c H locs cells slots Q (F0 m pc ls st) :=
  W.callR (a := As.toArray) (rest := rest) (W.runS (As := As) (rest := rest) S hM cw preEq rfl hn hsize hst (by simpa using hW) hdg hf) kk
/-- the end of a method of the world -/
theorem me_reti {f : Int32 × me_M} {v : Int32} (hexec : p.tables.exec = Jvm.exec) (hb : c.code = cc) {ty : FieldType} (hr : meth.sig.returnType = some ty) (hn : narrow ty (.int v) = .int v) (hlocks : meth.locks = false) (hK : va_K D vwCl tys s) (hP : va_P D vwCl (w σ) H) (hD : va_D A (w σ)) (hS : va_S A s.heap H locs) (hf : (v, σ) = f) (hdg : decode cc pc = .ok (.ireturn, 1)) :
    W p l e R s m args below meth c H locs 0 0 (MQ below (va_Qi (fun r σ' => (r, σ') = f) (me_B D tys A w) A) args s 0 0 A) (F0 m pc ls [.int v]) :=
  W.zret (v := v) hexec hb hr hn (fun t ht hW => ⟨⟨v, σ, rfl, hf, by rw [ht]; exact hP, va_K.moved hW.alike hK, hD⟩, hS.F ht⟩) hS.2.2 hdg hlocks
theorem me_retv {f : me_M} (hexec : p.tables.exec = Jvm.exec) (hb : c.code = cc) (hr : meth.sig.returnType = none) (hlocks : meth.locks = false) (hK : va_K D vwCl tys s) (hP : va_P D vwCl (w σ) H) (hD : va_D A (w σ)) (hS : va_S A s.heap H locs) (hf : σ = f) (hdg : decode cc pc = .ok (.return_, 1)) :
    W p l e R s m args below meth c H locs 0 0 (MQ below (va_Qv (fun σ' => σ' = f) (me_B D tys A w) A) args s 0 0 A) (F0 m pc ls []) :=
  W.vret hexec hb hr (fun t ht hW => ⟨⟨σ, rfl, hf, by rw [ht]; exact hP, va_K.moved hW.alike hK, hD⟩, hS.F ht⟩) hS.2.2 hdg hlocks
theorem me_retr {f v : Int32} (hexec : p.tables.exec = Jvm.exec) (hb : c.code = cc) {ty : FieldType} (hr : meth.sig.returnType = some ty) (hn : narrow ty (.int v) = .int v) (hlocks : meth.locks = false) (hK : va_K D vwCl tys s) (hP : va_P D vwCl (w σ) H) (hD : va_D A (w σ)) (hS : va_S A s.heap H locs) (hf : v = f) (hdg : decode cc pc = .ok (.ireturn, 1)) :
    W p l e R s m args below meth c H locs 0 0 (MQ below (va_Qi (fun r σ' => (r, σ') = (f, σ)) (me_B D tys A w) A) args s 0 0 A) (F0 m pc ls [.int v]) :=
  me_reti hexec hb hr hn hlocks hK hP hD hS (by rw [hf]) hdg
theorem me_callr {f : Int32} (S : CallFix p m c cc nL s args Ts own) (hM : ∀ sz, me_Ci l y ws rm D tys w (.ref b :: As) sz σ (f, σ)) (cw : CallW R s args own C index y bytes maxL ret ws rm 0 0 n)
    (hrec : ∃ cell : Cell, H[b]? = some cell ∧ cell.vm.isStatics = false ∧ s.vm.findClass C = some cell.cls) (hK : va_K D vwCl tys s) (hP : va_P D vwCl (w σ) H) (hD : va_D A (w σ)) (hS : va_S A s.heap H locs) (hA : ∀ q, s.heap.size ≤ q → A q)
    (hn : As.length = n) (hsize : ls.size = nL) (hst : st = As.reverse ++ .ref b :: rest) (hW : (rest.map fun v => v.category).sum ≤ 8) (hdg : decode cc pc = .ok (.invokevirtual index, 3)) (hf : cells ≤ R.cells ∧ slots ≤ R.slots)
    (kk : ∀ (r : Int32) (H1 : Heap) (locs1 : List Loc), f = r → va_P D vwCl (w σ) H1 → va_D A (w σ) → va_S A s.heap H1 locs1 → W p l e R s m args below meth c H1 locs1 cells slots Q (F0 m (pc + 3) ls (.int r :: rest))) : W p l e R s m args below meth c H locs cells slots Q (F0 m pc ls st) := by
  refine me_calli S hM cw hrec hK hP hD hS hA hn hsize hst hW hdg hf (fun r σ1 H1 locs1 he hP1 hD1 hS1 => ?_)
  obtain ⟨h1, h2⟩ := Prod.mk.inj he
  rw [← h2] at hP1 hD1
  exact kk r H1 locs1 h1 hP1 hD1 hS1
theorem me_rets {r v : Int32} (hexec : p.tables.exec = Jvm.exec) (hb : c.code = cc) {ty : FieldType} (hr : meth.sig.returnType = some ty) (hn : narrow ty (.int v) = .int v) (hlocks : meth.locks = false) (hf : v = r) (hdg : decode cc pc = .ok (.ireturn, 1)) :
    W p l e R s m args below meth c s.heap [] 0 0 (MQ below (QcRead r) args s 0 0 (fun _ => False)) (F0 m pc ls [.int v]) := by
  subst hf
  exact W.zret (v := v) hexec hb hr hn (fun t ht hW => ⟨rfl, ht⟩) (fun _ h => by cases h) hdg hlocks
end MEA
theorem me_inc (i : Nat) : nI i + Int32.ofInt 1 = nI (i + 1) := nI_1 i
theorem me_dec (i : Nat) : nI (i + 1) + Int32.ofInt (-1) = nI i := pk_m1 i
theorem me_inb {x : Int32} {n : Nat} (h : vp_in x n) : x.toNatClampNeg < n := Nat.not_le.mp fun q => h (Or.inr q)
theorem me_ine {x : Int32} {n : Nat} (h : vp_in x n) : x = nI x.toNatClampNeg := by
  have h0 : ¬ x < 0 := fun q => h (Or.inl q)
  obtain ⟨j, hj, rfl⟩ := nI_of h0
  rw [nI_clamp hj]
theorem me_out {x : Int32} {n : Nat} (hn : n < 2 ^ 31) (h : ∀ j, j < n → ¬ x = nI j) : x.toInt < 0 ∨ (n : Int) - 1 < x.toInt := by
  rcases pk_ix x hn with h1 | h1 | ⟨j, hj, e⟩
  · exact Or.inl (Int32.lt_iff_toInt_lt.mp h1)
  · have := Int32.le_iff_toInt_le.mp h1
    rw [nI_toInt hn] at this
    exact Or.inr (by omega)
  · exact absurd e (h j hj)
end
section
/-! THE CLASS'S WORLD: 102 cells. 0 the object; 1 homes, 2 slots, 3 log, 4 frames, 5 waiting; place j (0 .. 11 at home, 12 .. 15 beside) at 6 + 4 j: words + 1, stamps + 2, pages + 3; record r of the log at 70 + 2 r, the change that waits in row r at 70 + 2 r + 1; frame k at 94 + 2 k, its words + 1 -/
def kk_E (cy : Nat → ClassId) (ad : Nat → Nat) (i : Nat) (f : Nat → Int32) : va_E :=
  if i = 0 then .inr (3, [.ref (ad 1), .ref (ad 2), .ref (ad 3), .int (f 3), .int (f 4), .int (f 5), .int (f 6), .int (f 7), .int (f 8), .ref (ad 4), .ref (ad 5), .int (f 11), .int (f 12), .int (f 13), .int (f 14)])
  else if i = 1 then .inl (cy 3, 12, .inr (.inr (.inr (.inr (fun j => some (ad (6 + 4 * j)))))))
  else if i = 2 then .inl (cy 3, 4, .inr (.inr (.inr (.inr (fun j => some (ad (6 + 4 * (12 + j))))))))
  else if i = 3 then .inl (cy 4, 12, .inr (.inr (.inr (.inr (fun j => some (ad (70 + 2 * j)))))))
  else if i = 4 then .inl (cy 5, 4, .inr (.inr (.inr (.inr (fun j => some (ad (94 + 2 * j)))))))
  else if i = 5 then .inl (cy 4, 12, .inr (.inr (.inr (.inr (fun j => some (ad (70 + 2 * j + 1)))))))
  else if i < 70 then (if i % 4 = 2 then .inr (2, [.ref (ad (i + 1)), .ref (ad (i + 2)), .ref (ad (i + 3))]) else if i % 4 = 3 then .inl (cy 0, 16, .inl f) else .inl (cy 0, 4, .inl f))
  else if i < 94 then .inr (0, [.int (f 0), .int (f 1), .int (f 2), .int (f 3)])
  else if i % 2 = 0 then .inr (1, [.ref (ad (i + 1)), .int (f 1), .int (f 2), .int (f 3), .int (f 4)])
  else .inl (cy 0, 16, .inl f)
abbrev kk_W (cy : Nat → ClassId) (ad : Nat → Nat) (xr : va_W) : me_M → va_W := me_w (kk_E cy ad) ad 102 xr
section KKE
variable (cy : Nat → ClassId) (ad : Nat → Nat)
theorem kk_0 (f : Nat → Int32) : kk_E cy ad 0 f = .inr (3, [.ref (ad 1), .ref (ad 2), .ref (ad 3), .int (f 3), .int (f 4), .int (f 5), .int (f 6), .int (f 7), .int (f 8), .ref (ad 4), .ref (ad 5), .int (f 11), .int (f 12), .int (f 13), .int (f 14)]) := rfl
theorem kk_a1 (f : Nat → Int32) : kk_E cy ad 1 f = .inl (cy 3, 12, .inr (.inr (.inr (.inr (fun j => some (ad (6 + 4 * j))))))) := rfl
theorem kk_a2 (f : Nat → Int32) : kk_E cy ad 2 f = .inl (cy 3, 4, .inr (.inr (.inr (.inr (fun j => some (ad (6 + 4 * (12 + j)))))))) := rfl
theorem kk_a3 (f : Nat → Int32) : kk_E cy ad 3 f = .inl (cy 4, 12, .inr (.inr (.inr (.inr (fun j => some (ad (70 + 2 * j))))))) := rfl
theorem kk_a4 (f : Nat → Int32) : kk_E cy ad 4 f = .inl (cy 5, 4, .inr (.inr (.inr (.inr (fun j => some (ad (94 + 2 * j))))))) := rfl
theorem kk_a5 (f : Nat → Int32) : kk_E cy ad 5 f = .inl (cy 4, 12, .inr (.inr (.inr (.inr (fun j => some (ad (70 + 2 * j + 1))))))) := rfl
theorem kk_pl {i : Nat} (h : 6 ≤ i ∧ i < 70 ∧ i % 4 = 2) (f : Nat → Int32) : kk_E cy ad i f = .inr (2, [.ref (ad (i + 1)), .ref (ad (i + 2)), .ref (ad (i + 3))]) := by
  unfold kk_E
  rw [if_neg (by omega), if_neg (by omega), if_neg (by omega), if_neg (by omega), if_neg (by omega), if_neg (by omega), if_pos (by omega), if_pos (by omega)]
theorem kk_16 {i : Nat} (h : (6 ≤ i ∧ i < 70 ∧ i % 4 = 3) ∨ (94 ≤ i ∧ i % 2 = 1)) (f : Nat → Int32) : kk_E cy ad i f = .inl (cy 0, 16, .inl f) := by
  unfold kk_E
  rw [if_neg (by omega), if_neg (by omega), if_neg (by omega), if_neg (by omega), if_neg (by omega), if_neg (by omega)]
  rcases h with h | h
  · rw [if_pos (by omega), if_neg (by omega), if_pos (by omega)]
  · rw [if_neg (by omega), if_neg (by omega), if_neg (by omega)]
theorem kk_4 {i : Nat} (h : 6 ≤ i ∧ i < 70 ∧ (i % 4 = 0 ∨ i % 4 = 1)) (f : Nat → Int32) : kk_E cy ad i f = .inl (cy 0, 4, .inl f) := by
  unfold kk_E
  rw [if_neg (by omega), if_neg (by omega), if_neg (by omega), if_neg (by omega), if_neg (by omega), if_neg (by omega), if_pos (by omega), if_neg (by omega), if_neg (by omega)]
theorem kk_ch {i : Nat} (h : 70 ≤ i ∧ i < 94) (f : Nat → Int32) : kk_E cy ad i f = .inr (0, [.int (f 0), .int (f 1), .int (f 2), .int (f 3)]) := by
  unfold kk_E
  rw [if_neg (by omega), if_neg (by omega), if_neg (by omega), if_neg (by omega), if_neg (by omega), if_neg (by omega), if_neg (by omega), if_pos (by omega)]
theorem kk_fr {i : Nat} (h : 94 ≤ i ∧ i % 2 = 0) (f : Nat → Int32) : kk_E cy ad i f = .inr (1, [.ref (ad (i + 1)), .int (f 1), .int (f 2), .int (f 3), .int (f 4)]) := by
  unfold kk_E
  rw [if_neg (by omega), if_neg (by omega), if_neg (by omega), if_neg (by omega), if_neg (by omega), if_neg (by omega), if_neg (by omega), if_neg (by omega), if_pos (by omega)]
end KKE
end
section
def k_fm (a : Int32) (b : Int32) : Int32 := if 0 ≤ (a ^^^ b) then (a - a / b * b) else (if (a - a / b * b) = 0 then (a - a / b * b) else ((a - a / b * b) + b))
set_option maxRecDepth 100000 in
set_option maxHeartbeats 4000000 in
theorem c_J9_floorMod_7cf53 (l : Launch) (a : Int32) (b : Int32) (hb0 : ¬ b = 0) : me_Cs l yJ9_floorMod_7cf53 wsJ9_floorMod_7cf53 ({ frames := 0, cells := 0, slots := 0, locals := 0 }) [.int a, .int b] (k_fm a b) := by
  refine va_MetF (cc := cJ9_floorMod_7cf53) (maxL := 3) (ret := (some .int)) (by decide +kernel) rfl ?_
  intro p e st m args below meth c s₁ B hml hv
  subst hv
  have hx := B.exec
  have hb := B.bytes
  have hr := B.returns
  have hts := atoms_spec (ws := wsJ9_floorMod_7cf53) B.pre
  have hown : st.vm.findClass RJ9 = some m.cls := findClass_of_methodNamed B.named
  have hlocks := B.notSynchronized
  have hl := lv_entry ([.int a, .int b]) (n := 3) (Nat.le_of_ble_eq_true rfl)
  rw [lg_entry_eq]
  generalize (lg_sl ([.int a, .int b]) ++ List.replicate (3 - (lg_sl ([.int a, .int b])).length) Slot.unset).toArray = ls at hl ⊢
  have hl : lv_has ls 3 [(0, .int a), (1, .int b)] := hl
  refine lv_iload_n hx hb dJ9_floorMod_7cf53_0 rfl (lv_at hl 0 rfl) ?_
  refine lv_iload_n hx hb dJ9_floorMod_7cf53_1 rfl (lv_at hl 1 rfl) ?_
  refine lv_irem hx hb dJ9_floorMod_7cf53_2 (hb0) ?_
  refine lv_istore_n (lv' := [(2, .int (a - a / b * b)), (0, .int a), (1, .int b)]) hx hb dJ9_floorMod_7cf53_3 rfl hl (by decide) rfl (fun ls hl => ?_)
  refine lv_iload_n hx hb dJ9_floorMod_7cf53_4 rfl (lv_at hl 1 rfl) ?_
  refine lv_iload_n hx hb dJ9_floorMod_7cf53_5 rfl (lv_at hl 2 rfl) ?_
  refine lv_ixor hx hb dJ9_floorMod_7cf53_6 ?_
  refine lv_if_ge (tgt := 18) hx hb dJ9_floorMod_7cf53_7 (by decide) (fun c7 => ?_) (fun c7 => ?_)
  ·
    refine lv_iload_n hx hb dJ9_floorMod_7cf53_18 rfl (lv_at hl 0 rfl) ?_
    exact me_rets hx hb hr rfl hlocks (by simp only [k_fm, if_pos c7]) dJ9_floorMod_7cf53_19
  ·
    refine lv_iload_n hx hb dJ9_floorMod_7cf53_10 rfl (lv_at hl 0 rfl) ?_
    refine lv_if_eq (tgt := 18) hx hb dJ9_floorMod_7cf53_11 (by decide) (fun c11 => ?_) (fun c11 => ?_)
    ·
      refine lv_iload_n hx hb dJ9_floorMod_7cf53_18 rfl (lv_at hl 0 rfl) ?_
      exact me_rets hx hb hr rfl hlocks (by simp only [k_fm, if_neg c7, if_pos c11]) dJ9_floorMod_7cf53_19
    ·
      refine lv_iload_n hx hb dJ9_floorMod_7cf53_14 rfl (lv_at hl 0 rfl) ?_
      refine lv_iload_n hx hb dJ9_floorMod_7cf53_15 rfl (lv_at hl 2 rfl) ?_
      refine lv_iadd hx hb dJ9_floorMod_7cf53_16 ?_
      exact me_rets hx hb hr rfl hlocks (by simp only [k_fm, if_neg c7, if_neg c11]) dJ9_floorMod_7cf53_17

def k_isIn (x : Int32) (z : Int32) : Int32 := if x < 0 then (nI 0) else (if z ≤ x then (nI 0) else (nI 1))
set_option maxRecDepth 100000 in
set_option maxHeartbeats 4000000 in
theorem c_X3_isIn (l : Launch) (x : Int32) (z : Int32)  : me_Cs l yX3_isIn wsX3_isIn ({ frames := 0, cells := 0, slots := 0, locals := 0 }) [.int x, .int z] (k_isIn x z) := by
  refine Met.ofW (cc := cX3_isIn) (maxL := 2) (ret := (some .boolean)) (by decide +kernel) rfl ?_
  intro p e st m args below meth c s₁ B hml hv
  subst hv
  have hx := B.exec
  have hb := B.bytes
  have hr := B.returns
  have hts := atoms_spec (ws := wsX3_isIn) B.pre
  have hown : st.vm.findClass RX3 = some m.cls := findClass_of_methodNamed B.named
  have hlocks := B.notSynchronized
  have hl := lv_entry ([.int x, .int z]) (n := 2) (Nat.le_of_ble_eq_true rfl)
  rw [lg_entry_eq]
  generalize (lg_sl ([.int x, .int z]) ++ List.replicate (2 - (lg_sl ([.int x, .int z])).length) Slot.unset).toArray = ls at hl ⊢
  have hl : lv_has ls 2 [(0, .int x), (1, .int z)] := hl
  refine lv_iload_n hx hb dX3_isIn_0 rfl (lv_at hl 0 rfl) ?_
  refine lv_if_lt (tgt := 13) hx hb dX3_isIn_1 (by decide) (fun c1 => ?_) (fun c1 => ?_)
  ·
    refine lv_iconst (v := nI 0) hx hb dX3_isIn_13 (by decide) ?_
    exact me_rets hx hb hr rfl hlocks (by simp only [k_isIn, if_pos c1]) dX3_isIn_14
  ·
    refine lv_iload_n hx hb dX3_isIn_4 rfl (lv_at hl 0 rfl) ?_
    refine lv_iload_n hx hb dX3_isIn_5 rfl (lv_at hl 1 rfl) ?_
    refine lv_icmp_ge (tgt := 13) hx hb dX3_isIn_6 (by decide) (fun c6 => ?_) (fun c6 => ?_)
    ·
      refine lv_iconst (v := nI 0) hx hb dX3_isIn_13 (by decide) ?_
      exact me_rets hx hb hr rfl hlocks (by simp only [k_isIn, if_neg c1, if_pos c6]) dX3_isIn_14
    ·
      refine lv_iconst (v := nI 1) hx hb dX3_isIn_9 (by decide) ?_
      refine lv_goto (tgt := 14) hx hb dX3_isIn_10 (by decide) ?_
      exact me_rets hx hb hr rfl hlocks (by simp only [k_isIn, if_neg c1, if_neg c6]) dX3_isIn_14

def k_set (a : Nat) (x0 : Int32) (x1 : Int32) (x2 : Int32) (x3 : Int32) (σ : me_M) : me_M := let s2 := me_st σ a 0 x0; let s7 := me_st s2 a 1 x1; let s12 := me_st s7 a 2 x2; let s18 := me_st s12 a 3 x3; s18
set_option maxRecDepth 100000 in
set_option maxHeartbeats 4000000 in
theorem c_X0_set (l : Launch) (D : va_G) (cy : Nat → ClassId) (ad : Nat → Nat) (xr : va_W) (a : Nat) (x0 : Int32) (x1 : Int32) (x2 : Int32) (x3 : Int32) (σ : me_M) (ha : 70 ≤ a ∧ a < 94) (sz : Nat) : me_Cv l yX0_set wsX0_set ({ frames := 0, cells := 0, slots := 0, locals := 0 }) D (me_T cy) (kk_W cy ad xr) [.ref (ad a), .int x0, .int x1, .int x2, .int x3] sz σ (k_set a x0 x1 x2 x3 σ) := by
  refine Met.ofW (cc := cX0_set) (maxL := 5) (ret := none) (by decide) rfl ?_
  intro p e st m args below meth c s₁ B hml hv
  obtain ⟨rfl, hsz, hP, hK, hD0⟩ := hv
  have hx := B.exec
  have hb := B.bytes
  have hr := B.returns
  have hts := atoms_spec (ws := wsX0_set) B.pre
  have hown : st.vm.findClass RX0 = some m.cls := findClass_of_methodNamed B.named
  have hlocks := B.notSynchronized
  have in0 : ∀ w ∈ u_ws RX0 TX0 4, w ∈ wsX0_set := by decide +kernel
  have k7 := hts (.fieldLink RX0 7 "TwinWrites$Change" "number" "I") (by decide +kernel)
  have k13 := hts (.fieldLink RX0 13 "TwinWrites$Change" "page" "I") (by decide +kernel)
  have k16 := hts (.fieldLink RX0 16 "TwinWrites$Change" "at" "I") (by decide +kernel)
  have k19 := hts (.fieldLink RX0 19 "TwinWrites$Change" "word" "I") (by decide +kernel)
  subst hsz
  have hD := hD0.self (sz := st.heap.size)
  have hA : ∀ q : Nat, st.heap.size ≤ q → va_A ((kk_W cy ad xr) σ) st.heap.size q := fun q h => Or.inr h
  have hS : va_S (va_A ((kk_W cy ad xr) σ) st.heap.size) st.heap st.heap [] := va_S.rf
  generalize va_A ((kk_W cy ad xr) σ) st.heap.size = A at hD hA hS ⊢
  have hl := lv_entry ([.ref (ad a), .int x0, .int x1, .int x2, .int x3]) (n := 5) (Nat.le_of_ble_eq_true rfl)
  rw [lg_entry_eq]
  generalize (lg_sl ([.ref (ad a), .int x0, .int x1, .int x2, .int x3]) ++ List.replicate (5 - (lg_sl ([.ref (ad a), .int x0, .int x1, .int x2, .int x3])).length) Slot.unset).toArray = ls at hl ⊢
  have hl : lv_has ls 5 [(0, .ref (ad a)), (1, .int x0), (2, .int x1), (3, .int x2), (4, .int x3)] := hl
  refine lv_aload_n hx hb dX0_set_0 rfl (lv_at hl 0 rfl) ?_
  refine lv_iload_n hx hb dX0_set_1 rfl (lv_at hl 1 rfl) ?_
  refine me_put (ty := .int) (ci := 0) (C := RX0) (T := TX0) (M := 4) hx hb hts in0 tyX0 tyX0_ok nmX0 hown hK hP hD hS a (by omega) (kk_ch cy ad (by omega) _) rfl 0 (by decide) k7 (fun _ h9 => h9) rfl (by decide +kernel) rfl rfl (Nat.le_of_ble_eq_true rfl) (kk_ch cy ad (by omega) _) dX0_set_2 (fun s2 H locs e2 hP hD hS => ?_)
  refine lv_aload_n hx hb dX0_set_5 rfl (lv_at hl 0 rfl) ?_
  refine lv_iload_n hx hb dX0_set_6 rfl (lv_at hl 2 rfl) ?_
  refine me_put (ty := .int) (ci := 0) (C := RX0) (T := TX0) (M := 4) hx hb hts in0 tyX0 tyX0_ok nmX0 hown hK hP hD hS a (by omega) (kk_ch cy ad (by omega) _) rfl 1 (by decide) k13 (fun _ h9 => h9) rfl (by decide +kernel) rfl rfl (Nat.le_of_ble_eq_true rfl) (kk_ch cy ad (by omega) _) dX0_set_7 (fun s7 H locs e7 hP hD hS => ?_)
  refine lv_aload_n hx hb dX0_set_10 rfl (lv_at hl 0 rfl) ?_
  refine lv_iload_n hx hb dX0_set_11 rfl (lv_at hl 3 rfl) ?_
  refine me_put (ty := .int) (ci := 0) (C := RX0) (T := TX0) (M := 4) hx hb hts in0 tyX0 tyX0_ok nmX0 hown hK hP hD hS a (by omega) (kk_ch cy ad (by omega) _) rfl 2 (by decide) k16 (fun _ h9 => h9) rfl (by decide +kernel) rfl rfl (Nat.le_of_ble_eq_true rfl) (kk_ch cy ad (by omega) _) dX0_set_12 (fun s12 H locs e12 hP hD hS => ?_)
  refine lv_aload_n hx hb dX0_set_15 rfl (lv_at hl 0 rfl) ?_
  refine lv_iload hx hb dX0_set_16 (lv_at hl 4 rfl) ?_
  refine me_put (ty := .int) (ci := 0) (C := RX0) (T := TX0) (M := 4) hx hb hts in0 tyX0 tyX0_ok nmX0 hown hK hP hD hS a (by omega) (kk_ch cy ad (by omega) _) rfl 3 (by decide) k19 (fun _ h9 => h9) rfl (by decide +kernel) rfl rfl (Nat.le_of_ble_eq_true rfl) (kk_ch cy ad (by omega) _) dX0_set_18 (fun s18 H locs e18 hP hD hS => ?_)
  exact me_retv hx hb hr hlocks hK hP hD hS (by simp only [k_set, e2, e7, e12, e18]) dX0_set_21

def k_copy (a : Nat) (b : Nat) (σ : me_M) : me_M := let s17 := k_set a (σ b 0) (σ b 1) (σ b 2) (σ b 3) σ; s17
set_option maxRecDepth 100000 in
set_option maxHeartbeats 4000000 in
theorem c_X0_copy (l : Launch) (D : va_G) (cy : Nat → ClassId) (ad : Nat → Nat) (xr : va_W) (a : Nat) (b : Nat) (σ : me_M) (ha : 70 ≤ a ∧ a < 94) (hc : 70 ≤ b ∧ b < 94) (sz : Nat) : me_Cv l yX0_copy wsX0_copy ({ frames := 1, cells := 0, slots := 0, locals := 24 }) D (me_T cy) (kk_W cy ad xr) [.ref (ad a), .ref (ad b)] sz σ (k_copy a b σ) := by
  refine Met.ofW (cc := cX0_copy) (maxL := 2) (ret := none) (by decide) rfl ?_
  intro p e st m args below meth c s₁ B hml hv
  obtain ⟨rfl, hsz, hP, hK, hD0⟩ := hv
  have hx := B.exec
  have hb := B.bytes
  have hr := B.returns
  have hts := atoms_spec (ws := wsX0_copy) B.pre
  have hown : st.vm.findClass RX0 = some m.cls := findClass_of_methodNamed B.named
  have hlocks := B.notSynchronized
  have in0 : ∀ w ∈ u_ws RX0 TX0 4, w ∈ wsX0_copy := by decide +kernel
  have k7 := hts (.fieldLink RX0 7 "TwinWrites$Change" "number" "I") (by decide +kernel)
  have k13 := hts (.fieldLink RX0 13 "TwinWrites$Change" "page" "I") (by decide +kernel)
  have k16 := hts (.fieldLink RX0 16 "TwinWrites$Change" "at" "I") (by decide +kernel)
  have k19 := hts (.fieldLink RX0 19 "TwinWrites$Change" "word" "I") (by decide +kernel)
  subst hsz
  have hD := hD0.self (sz := st.heap.size)
  have hA : ∀ q : Nat, st.heap.size ≤ q → va_A ((kk_W cy ad xr) σ) st.heap.size q := fun q h => Or.inr h
  have hS : va_S (va_A ((kk_W cy ad xr) σ) st.heap.size) st.heap st.heap [] := va_S.rf
  generalize va_A ((kk_W cy ad xr) σ) st.heap.size = A at hD hA hS ⊢
  have hl := lv_entry ([.ref (ad a), .ref (ad b)]) (n := 2) (Nat.le_of_ble_eq_true rfl)
  rw [lg_entry_eq]
  generalize (lg_sl ([.ref (ad a), .ref (ad b)]) ++ List.replicate (2 - (lg_sl ([.ref (ad a), .ref (ad b)])).length) Slot.unset).toArray = ls at hl ⊢
  have hl : lv_has ls 2 [(0, .ref (ad a)), (1, .ref (ad b))] := hl
  refine lv_aload_n hx hb dX0_copy_0 rfl (lv_at hl 0 rfl) ?_
  refine lv_aload_n hx hb dX0_copy_1 rfl (lv_at hl 1 rfl) ?_
  refine va_get (D := D) (ci := 0) (v := .int (σ b 0)) (C := RX0) (T := TX0) (N := 4) hx hb hts in0 hown hK hP b (me_get (by omega) (kk_ch cy ad (by omega) _)) rfl 0 (by decide) k7 (fun _ h9 => h9) rfl dX0_copy_2 ?_
  refine lv_aload_n hx hb dX0_copy_5 rfl (lv_at hl 1 rfl) ?_
  refine va_get (D := D) (ci := 0) (v := .int (σ b 1)) (C := RX0) (T := TX0) (N := 4) hx hb hts in0 hown hK hP b (me_get (by omega) (kk_ch cy ad (by omega) _)) rfl 1 (by decide) k13 (fun _ h9 => h9) rfl dX0_copy_6 ?_
  refine lv_aload_n hx hb dX0_copy_9 rfl (lv_at hl 1 rfl) ?_
  refine va_get (D := D) (ci := 0) (v := .int (σ b 2)) (C := RX0) (T := TX0) (N := 4) hx hb hts in0 hown hK hP b (me_get (by omega) (kk_ch cy ad (by omega) _)) rfl 2 (by decide) k16 (fun _ h9 => h9) rfl dX0_copy_10 ?_
  refine lv_aload_n hx hb dX0_copy_13 rfl (lv_at hl 1 rfl) ?_
  refine va_get (D := D) (ci := 0) (v := .int (σ b 3)) (C := RX0) (T := TX0) (N := 4) hx hb hts in0 hown hK hP b (me_get (by omega) (kk_ch cy ad (by omega) _)) rfl 3 (by decide) k19 (fun _ h9 => h9) rfl dX0_copy_14 ?_
  refine me_callv (f := k_set a (σ b 0) (σ b 1) (σ b 2) (σ b 3) σ) (w := (kk_W cy ad xr)) (σ := σ) (As := [.int (σ b 0), .int (σ b 1), .int (σ b 2), .int (σ b 3)]) (rest := []) ⟨hx, hb, hml, hown, hts⟩ (fun sz => c_X0_set l D cy ad xr a (σ b 0) (σ b 1) (σ b 2) (σ b 3) σ (by omega) sz) (cwV 4 hts gX0_copy_X0_set rfl rfl rfl (by decide +kernel) ⟨Nat.le_of_ble_eq_true rfl, Nat.le_of_ble_eq_true rfl⟩) (va_recv hK hP (ci := 0) (q0 := a) rfl (me_get (by omega) (kk_ch cy ad (by omega) _))) hK hP hD hS hA rfl hl.1 rfl (Nat.le_of_ble_eq_true rfl) dX0_copy_17 ⟨Nat.zero_le _, Nat.zero_le _⟩ (fun s17 H locs e17 hP hD hS => ?_)
  exact me_retv hx hb hr hlocks hK hP hD hS (by simp only [k_copy, e17]) dX0_copy_20

def k_cval (a : Nat) (x : Int32) (σ : me_M) : Int32 := if x = nI 0 then (σ a 0) else (if x = nI 1 then (σ a 1) else (if x = nI 2 then (σ a 2) else (σ a 3)))
set_option maxRecDepth 100000 in
set_option maxHeartbeats 4000000 in
theorem c_X0_value (l : Launch) (D : va_G) (cy : Nat → ClassId) (ad : Nat → Nat) (xr : va_W) (a : Nat) (x : Int32) (σ : me_M) (ha : 70 ≤ a ∧ a < 94) (sz : Nat) : me_Ci l yX0_value wsX0_value ({ frames := 0, cells := 0, slots := 0, locals := 0 }) D (me_T cy) (kk_W cy ad xr) [.ref (ad a), .int x] sz σ (k_cval a x σ, σ) := by
  refine Met.ofW (cc := cX0_value) (maxL := 2) (ret := (some .int)) (by decide) rfl ?_
  intro p e st m args below meth c s₁ B hml hv
  obtain ⟨rfl, hsz, hP, hK, hD0⟩ := hv
  have hx := B.exec
  have hb := B.bytes
  have hr := B.returns
  have hts := atoms_spec (ws := wsX0_value) B.pre
  have hown : st.vm.findClass RX0 = some m.cls := findClass_of_methodNamed B.named
  have hlocks := B.notSynchronized
  have in0 : ∀ w ∈ u_ws RX0 TX0 4, w ∈ wsX0_value := by decide +kernel
  have k7 := hts (.fieldLink RX0 7 "TwinWrites$Change" "number" "I") (by decide +kernel)
  have k13 := hts (.fieldLink RX0 13 "TwinWrites$Change" "page" "I") (by decide +kernel)
  have k16 := hts (.fieldLink RX0 16 "TwinWrites$Change" "at" "I") (by decide +kernel)
  have k19 := hts (.fieldLink RX0 19 "TwinWrites$Change" "word" "I") (by decide +kernel)
  subst hsz
  have hD := hD0.self (sz := st.heap.size)
  have hA : ∀ q : Nat, st.heap.size ≤ q → va_A ((kk_W cy ad xr) σ) st.heap.size q := fun q h => Or.inr h
  have hS : va_S (va_A ((kk_W cy ad xr) σ) st.heap.size) st.heap st.heap [] := va_S.rf
  generalize va_A ((kk_W cy ad xr) σ) st.heap.size = A at hD hA hS ⊢
  have hl := lv_entry ([.ref (ad a), .int x]) (n := 2) (Nat.le_of_ble_eq_true rfl)
  rw [lg_entry_eq]
  generalize (lg_sl ([.ref (ad a), .int x]) ++ List.replicate (2 - (lg_sl ([.ref (ad a), .int x])).length) Slot.unset).toArray = ls at hl ⊢
  have hl : lv_has ls 2 [(0, .ref (ad a)), (1, .int x)] := hl
  refine lv_iload_n hx hb dX0_value_0 rfl (lv_at hl 1 rfl) ?_
  by_cases c1_0 : x = nI 0
  ·
    refine me_top c1_0 ?_
    refine lv_tableIn (tgt := 28) hx hb dX0_value_1 (by decide) (by decide) (by rfl) (by decide) ?_
    refine lv_aload_n hx hb dX0_value_28 rfl (lv_at hl 0 rfl) ?_
    refine va_get (D := D) (ci := 0) (v := .int (σ a 0)) (C := RX0) (T := TX0) (N := 4) hx hb hts in0 hown hK hP a (me_get (by omega) (kk_ch cy ad (by omega) _)) rfl 0 (by decide) k7 (fun _ h9 => h9) rfl dX0_value_29 ?_
    exact me_retr hx hb hr rfl hlocks hK hP hD hS (by simp only [k_cval, if_pos c1_0]) dX0_value_32
  by_cases c1_1 : x = nI 1
  ·
    refine me_top c1_1 ?_
    refine lv_tableIn (tgt := 33) hx hb dX0_value_1 (by decide) (by decide) (by rfl) (by decide) ?_
    refine lv_aload_n hx hb dX0_value_33 rfl (lv_at hl 0 rfl) ?_
    refine va_get (D := D) (ci := 0) (v := .int (σ a 1)) (C := RX0) (T := TX0) (N := 4) hx hb hts in0 hown hK hP a (me_get (by omega) (kk_ch cy ad (by omega) _)) rfl 1 (by decide) k13 (fun _ h9 => h9) rfl dX0_value_34 ?_
    exact me_retr hx hb hr rfl hlocks hK hP hD hS (by simp only [k_cval, if_neg c1_0, if_pos c1_1]) dX0_value_37
  by_cases c1_2 : x = nI 2
  ·
    refine me_top c1_2 ?_
    refine lv_tableIn (tgt := 38) hx hb dX0_value_1 (by decide) (by decide) (by rfl) (by decide) ?_
    refine lv_aload_n hx hb dX0_value_38 rfl (lv_at hl 0 rfl) ?_
    refine va_get (D := D) (ci := 0) (v := .int (σ a 2)) (C := RX0) (T := TX0) (N := 4) hx hb hts in0 hown hK hP a (me_get (by omega) (kk_ch cy ad (by omega) _)) rfl 2 (by decide) k16 (fun _ h9 => h9) rfl dX0_value_39 ?_
    exact me_retr hx hb hr rfl hlocks hK hP hD hS (by simp only [k_cval, if_neg c1_0, if_neg c1_1, if_pos c1_2]) dX0_value_42
  have c1_o := me_out (x := x) (n := 3) (by decide) (by intro j hj; match j, hj with | 0, _ => exact c1_0 | 1, _ => exact c1_1 | 2, _ => exact c1_2 | (j + 3), hj => exact absurd hj (by omega))
  refine lv_tableOut (tgt := 43) hx hb dX0_value_1 (by omega) (by decide) ?_
  refine lv_aload_n hx hb dX0_value_43 rfl (lv_at hl 0 rfl) ?_
  refine va_get (D := D) (ci := 0) (v := .int (σ a 3)) (C := RX0) (T := TX0) (N := 4) hx hb hts in0 hown hK hP a (me_get (by omega) (kk_ch cy ad (by omega) _)) rfl 3 (by decide) k19 (fun _ h9 => h9) rfl dX0_value_44 ?_
  exact me_retr hx hb hr rfl hlocks hK hP hD hS (by simp only [k_cval, if_neg c1_0, if_neg c1_1, if_neg c1_2]) dX0_value_47
end
section
def k_empty_2 : Nat → Nat → Nat → me_M → me_M
  | 0, k, i, s => s
  | n + 1, k, i, s => if nI 16 ≤ (nI i) then (let s23 := me_st s (94 + 2 * k) 1 ((-1)); let s28 := me_st s23 (94 + 2 * k) 2 (nI 0); let s33 := me_st s28 (94 + 2 * k) 3 (nI 0); let s38 := me_st s33 (94 + 2 * k) 4 (nI 0); s38) else (let s14 := me_st s (94 + 2 * k + 1) i (nI 0); k_empty_2 n k (i + 1) s14)
def k_empty (k : Nat) (σ : me_M) : me_M := k_empty_2 17 k 0 σ
set_option maxRecDepth 100000 in
set_option maxHeartbeats 4000000 in
theorem c_X1_empty (l : Launch) (D : va_G) (cy : Nat → ClassId) (ad : Nat → Nat) (xr : va_W) (k : Nat) (σ : me_M) (hk : k < 4) (sz : Nat) : me_Cv l yX1_empty wsX1_empty ({ frames := 0, cells := 0, slots := 0, locals := 0 }) D (me_T cy) (kk_W cy ad xr) [.ref (ad (94 + 2 * k))] sz σ (k_empty k σ) := by
  refine Met.ofW (cc := cX1_empty) (maxL := 2) (ret := none) (by decide) rfl ?_
  intro p e st m args below meth c s₁ B hml hv
  obtain ⟨rfl, hsz, hP, hK, hD0⟩ := hv
  have hx := B.exec
  have hb := B.bytes
  have hr := B.returns
  have hts := atoms_spec (ws := wsX1_empty) B.pre
  have hown : st.vm.findClass RX1 = some m.cls := findClass_of_methodNamed B.named
  have hlocks := B.notSynchronized
  have in1 : ∀ w ∈ u_ws RX1 TX1 5, w ∈ wsX1_empty := by decide +kernel
  have k9 := hts (.fieldLink RX1 9 "TwinWrites$Frame" "words" "[I") (by decide +kernel)
  have k15 := hts (.fieldLink RX1 15 "TwinWrites$Frame" "page" "I") (by decide +kernel)
  have k19 := hts (.fieldLink RX1 19 "TwinWrites$Frame" "stamp" "I") (by decide +kernel)
  have k22 := hts (.fieldLink RX1 22 "TwinWrites$Frame" "dirty" "Z") (by decide +kernel)
  have k26 := hts (.fieldLink RX1 26 "TwinWrites$Frame" "asked" "I") (by decide +kernel)
  subst hsz
  have hD := hD0.self (sz := st.heap.size)
  have hA : ∀ q : Nat, st.heap.size ≤ q → va_A ((kk_W cy ad xr) σ) st.heap.size q := fun q h => Or.inr h
  have hS : va_S (va_A ((kk_W cy ad xr) σ) st.heap.size) st.heap st.heap [] := va_S.rf
  generalize va_A ((kk_W cy ad xr) σ) st.heap.size = A at hD hA hS ⊢
  have hl := lv_entry ([.ref (ad (94 + 2 * k))]) (n := 2) (Nat.le_of_ble_eq_true rfl)
  rw [lg_entry_eq]
  generalize (lg_sl ([.ref (ad (94 + 2 * k))]) ++ List.replicate (2 - (lg_sl ([.ref (ad (94 + 2 * k))])).length) Slot.unset).toArray = ls at hl ⊢
  have hl : lv_has ls 2 [(0, .ref (ad (94 + 2 * k)))] := hl
  refine lv_iconst (v := nI 0) hx hb dX1_empty_0 (by decide) ?_
  refine lv_istore_n (lv' := [(1, .int (nI 0)), (0, .ref (ad (94 + 2 * k)))]) hx hb dX1_empty_1 rfl hl (by decide) rfl (fun ls hl => ?_)
  have J2 : ∀ (n : Nat) (i : Nat) (s : me_M) (H : Heap) (locs : List Loc) (hP : va_P D vwCl ((kk_W cy ad xr) s) H) (hD : va_D A ((kk_W cy ad xr) s)) (hS : va_S A st.heap H locs) (ls : Array Slot) (hl : lv_has ls 2 [(1, .int (nI i)), (0, .ref (ad (94 + 2 * k)))]), ∀ (hi : i ≤ 16), ∀ (hn : 17 ≤ i + n), k_empty k σ = k_empty_2 n k i s → W p l e (headSpec wsX1_empty ({ frames := 0, cells := 0, slots := 0, locals := 0 })).room st m ([.ref (ad (94 + 2 * k))] : List Value).toArray below meth c H locs 0 0 (MQ below (va_Qv (fun σ' => σ' = k_empty k σ) (me_B D (me_T cy) A (kk_W cy ad xr)) A) ([.ref (ad (94 + 2 * k))] : List Value).toArray st 0 0 A) (F0 m 2 ls []) := by
    intro n
    induction n with
    | zero => intro i s H locs hP hD hS ls hl hi hn hf2; exfalso; omega
    | succ n ih =>
      intro i s H locs hP hD hS ls hl hi hn hf2
      refine lv_iload_n hx hb dX1_empty_2 rfl (lv_at hl 0 rfl) ?_
      refine lv_bipush (v := nI 16) hx hb dX1_empty_3 (by decide) ?_
      refine lv_icmp_ge (tgt := 21) hx hb dX1_empty_5 (by decide) (fun c5 => ?_) (fun c5 => ?_)
      ·
        try have h5 := (nI_leI (by omega) (by omega)).mp c5
        refine lv_aload_n hx hb dX1_empty_21 rfl (lv_at hl 1 rfl) ?_
        refine lv_iconst (v := (-1)) hx hb dX1_empty_22 (by decide) ?_
        refine me_put (ty := .int) (ci := 1) (C := RX1) (T := TX1) (M := 5) hx hb hts in1 tyX1 tyX1_ok nmX1 hown hK hP hD hS (94 + 2 * k) (by omega) (kk_fr cy ad (by omega) _) rfl 1 (by decide) k15 (fun _ h9 => h9) rfl (by decide +kernel) rfl rfl (Nat.le_of_ble_eq_true rfl) (kk_fr cy ad (by omega) _) dX1_empty_23 (fun s23 H locs e23 hP hD hS => ?_)
        refine lv_aload_n hx hb dX1_empty_26 rfl (lv_at hl 1 rfl) ?_
        refine lv_iconst (v := nI 0) hx hb dX1_empty_27 (by decide) ?_
        refine me_put (ty := .int) (ci := 1) (C := RX1) (T := TX1) (M := 5) hx hb hts in1 tyX1 tyX1_ok nmX1 hown hK hP hD hS (94 + 2 * k) (by omega) (kk_fr cy ad (by omega) _) rfl 2 (by decide) k19 (fun _ h9 => h9) rfl (by decide +kernel) rfl rfl (Nat.le_of_ble_eq_true rfl) (kk_fr cy ad (by omega) _) dX1_empty_28 (fun s28 H locs e28 hP hD hS => ?_)
        refine lv_aload_n hx hb dX1_empty_31 rfl (lv_at hl 1 rfl) ?_
        refine lv_iconst (v := nI 0) hx hb dX1_empty_32 (by decide) ?_
        refine me_put (ty := .boolean) (ci := 1) (C := RX1) (T := TX1) (M := 5) hx hb hts in1 tyX1 tyX1_ok nmX1 hown hK hP hD hS (94 + 2 * k) (by omega) (kk_fr cy ad (by omega) _) rfl 3 (by decide) k22 (fun _ h9 => h9) rfl (by decide +kernel) rfl rfl (Nat.le_of_ble_eq_true rfl) (kk_fr cy ad (by omega) _) dX1_empty_33 (fun s33 H locs e33 hP hD hS => ?_)
        refine lv_aload_n hx hb dX1_empty_36 rfl (lv_at hl 1 rfl) ?_
        refine lv_iconst (v := nI 0) hx hb dX1_empty_37 (by decide) ?_
        refine me_put (ty := .int) (ci := 1) (C := RX1) (T := TX1) (M := 5) hx hb hts in1 tyX1 tyX1_ok nmX1 hown hK hP hD hS (94 + 2 * k) (by omega) (kk_fr cy ad (by omega) _) rfl 4 (by decide) k26 (fun _ h9 => h9) rfl (by decide +kernel) rfl rfl (Nat.le_of_ble_eq_true rfl) (kk_fr cy ad (by omega) _) dX1_empty_38 (fun s38 H locs e38 hP hD hS => ?_)
        exact me_retv hx hb hr hlocks hK hP hD hS (by rw [hf2]; simp only [k_empty_2, if_pos c5, e23, e28, e33, e38]) dX1_empty_41
      ·
        try have h5 := (not_congr (nI_leI (by omega) (by omega))).mp c5
        refine lv_aload_n hx hb dX1_empty_8 rfl (lv_at hl 1 rfl) ?_
        refine va_get (D := D) (ci := 1) (v := .ref (ad (94 + 2 * k + 1))) (C := RX1) (T := TX1) (N := 5) hx hb hts in1 hown hK hP (94 + 2 * k) (me_get (by omega) (kk_fr cy ad (by omega) _)) rfl 0 (by decide) k9 (fun _ h9 => h9) rfl dX1_empty_9 ?_
        refine lv_iload_n hx hb dX1_empty_12 rfl (lv_at hl 0 rfl) ?_
        refine lv_iconst (v := nI 0) hx hb dX1_empty_13 (by decide) ?_
        refine me_iast hx hb hK hP hD hS (94 + 2 * k + 1) 0 (by omega) (fun f => kk_16 cy ad (by omega) f) rfl i rfl (by omega) (by decide) dX1_empty_14 (fun s14 H locs e14 hP hD hS => ?_)
        refine lv_iinc (v := nI (i + 1)) (lv' := [(1, .int (nI (i + 1))), (0, .ref (ad (94 + 2 * k)))]) hx hb dX1_empty_15 hl (k := 0) rfl (me_inc _) (by decide) rfl (fun ls hl => ?_)
        refine lv_goto (tgt := 2) hx hb dX1_empty_18 (by decide) ?_
        exact ih (i + 1) s14 _ _ hP hD hS ls (lv_sub hl [0, 1] rfl) (by omega) (by omega) (by rw [hf2]; simp only [k_empty_2, if_neg c5, e14])
  exact J2 17 0 σ _ _ hP hD hS ls (lv_sub hl [0, 1] rfl) (by omega) (by omega) (by simp only [k_empty])

def k_fill_2 : Nat → Nat → Int32 → Nat → Nat → me_M → me_M
  | 0, k, x, j, i, s => s
  | n + 1, k, x, j, i, s => if nI 16 ≤ (nI i) then (let s28 := me_st s (94 + 2 * k) 1 x; let s38 := me_st s28 (94 + 2 * k) 2 (s28 (6 + 4 * j + 2) 0); let s43 := me_st s38 (94 + 2 * k) 3 (nI 0); s43) else (let s19 := me_st s (94 + 2 * k + 1) i (s (6 + 4 * j + 1) i); k_fill_2 n k x j (i + 1) s19)
def k_fill (k : Nat) (x : Int32) (j : Nat) (σ : me_M) : me_M := k_fill_2 17 k x j 0 σ
set_option maxRecDepth 100000 in
set_option maxHeartbeats 4000000 in
theorem c_X1_fill (l : Launch) (D : va_G) (cy : Nat → ClassId) (ad : Nat → Nat) (xr : va_W) (k : Nat) (x : Int32) (j : Nat) (σ : me_M) (hk : k < 4) (hj : j < 16) (sz : Nat) : me_Cv l yX1_fill wsX1_fill ({ frames := 0, cells := 0, slots := 0, locals := 0 }) D (me_T cy) (kk_W cy ad xr) [.ref (ad (94 + 2 * k)), .int x, .ref (ad (6 + 4 * j))] sz σ (k_fill k x j σ) := by
  refine Met.ofW (cc := cX1_fill) (maxL := 4) (ret := none) (by decide) rfl ?_
  intro p e st m args below meth c s₁ B hml hv
  obtain ⟨rfl, hsz, hP, hK, hD0⟩ := hv
  have hx := B.exec
  have hb := B.bytes
  have hr := B.returns
  have hts := atoms_spec (ws := wsX1_fill) B.pre
  have hown : st.vm.findClass RX1 = some m.cls := findClass_of_methodNamed B.named
  have hlocks := B.notSynchronized
  have in1 : ∀ w ∈ u_ws RX1 TX1 5, w ∈ wsX1_fill := by decide +kernel
  have in2 : ∀ w ∈ u_ws RX2 TX2 3, w ∈ wsX1_fill := by decide +kernel
  have k9 := hts (.fieldLink RX1 9 "TwinWrites$Frame" "words" "[I") (by decide +kernel)
  have k15 := hts (.fieldLink RX1 15 "TwinWrites$Frame" "page" "I") (by decide +kernel)
  have k19 := hts (.fieldLink RX1 19 "TwinWrites$Frame" "stamp" "I") (by decide +kernel)
  have k22 := hts (.fieldLink RX1 22 "TwinWrites$Frame" "dirty" "Z") (by decide +kernel)
  have k29 := hts (.fieldLink RX1 29 "TwinWrites$Place" "words" "[I") (by decide +kernel)
  have k32 := hts (.fieldLink RX1 32 "TwinWrites$Place" "stamps" "[I") (by decide +kernel)
  subst hsz
  have hD := hD0.self (sz := st.heap.size)
  have hA : ∀ q : Nat, st.heap.size ≤ q → va_A ((kk_W cy ad xr) σ) st.heap.size q := fun q h => Or.inr h
  have hS : va_S (va_A ((kk_W cy ad xr) σ) st.heap.size) st.heap st.heap [] := va_S.rf
  generalize va_A ((kk_W cy ad xr) σ) st.heap.size = A at hD hA hS ⊢
  have hl := lv_entry ([.ref (ad (94 + 2 * k)), .int x, .ref (ad (6 + 4 * j))]) (n := 4) (Nat.le_of_ble_eq_true rfl)
  rw [lg_entry_eq]
  generalize (lg_sl ([.ref (ad (94 + 2 * k)), .int x, .ref (ad (6 + 4 * j))]) ++ List.replicate (4 - (lg_sl ([.ref (ad (94 + 2 * k)), .int x, .ref (ad (6 + 4 * j))])).length) Slot.unset).toArray = ls at hl ⊢
  have hl : lv_has ls 4 [(0, .ref (ad (94 + 2 * k))), (1, .int x), (2, .ref (ad (6 + 4 * j)))] := hl
  refine lv_iconst (v := nI 0) hx hb dX1_fill_0 (by decide) ?_
  refine lv_istore_n (lv' := [(3, .int (nI 0)), (0, .ref (ad (94 + 2 * k))), (1, .int x), (2, .ref (ad (6 + 4 * j)))]) hx hb dX1_fill_1 rfl hl (by decide) rfl (fun ls hl => ?_)
  have J2 : ∀ (n : Nat) (i : Nat) (s : me_M) (H : Heap) (locs : List Loc) (hP : va_P D vwCl ((kk_W cy ad xr) s) H) (hD : va_D A ((kk_W cy ad xr) s)) (hS : va_S A st.heap H locs) (ls : Array Slot) (hl : lv_has ls 4 [(3, .int (nI i)), (0, .ref (ad (94 + 2 * k))), (1, .int x), (2, .ref (ad (6 + 4 * j)))]), ∀ (hi : i ≤ 16), ∀ (hn : 17 ≤ i + n), k_fill k x j σ = k_fill_2 n k x j i s → W p l e (headSpec wsX1_fill ({ frames := 0, cells := 0, slots := 0, locals := 0 })).room st m ([.ref (ad (94 + 2 * k)), .int x, .ref (ad (6 + 4 * j))] : List Value).toArray below meth c H locs 0 0 (MQ below (va_Qv (fun σ' => σ' = k_fill k x j σ) (me_B D (me_T cy) A (kk_W cy ad xr)) A) ([.ref (ad (94 + 2 * k)), .int x, .ref (ad (6 + 4 * j))] : List Value).toArray st 0 0 A) (F0 m 2 ls []) := by
    intro n
    induction n with
    | zero => intro i s H locs hP hD hS ls hl hi hn hf2; exfalso; omega
    | succ n ih =>
      intro i s H locs hP hD hS ls hl hi hn hf2
      refine lv_iload_n hx hb dX1_fill_2 rfl (lv_at hl 0 rfl) ?_
      refine lv_bipush (v := nI 16) hx hb dX1_fill_3 (by decide) ?_
      refine lv_icmp_ge (tgt := 26) hx hb dX1_fill_5 (by decide) (fun c5 => ?_) (fun c5 => ?_)
      ·
        try have h5 := (nI_leI (by omega) (by omega)).mp c5
        refine lv_aload_n hx hb dX1_fill_26 rfl (lv_at hl 1 rfl) ?_
        refine lv_iload_n hx hb dX1_fill_27 rfl (lv_at hl 2 rfl) ?_
        refine me_put (ty := .int) (ci := 1) (C := RX1) (T := TX1) (M := 5) hx hb hts in1 tyX1 tyX1_ok nmX1 hown hK hP hD hS (94 + 2 * k) (by omega) (kk_fr cy ad (by omega) _) rfl 1 (by decide) k15 (fun _ h9 => h9) rfl (by decide +kernel) rfl rfl (Nat.le_of_ble_eq_true rfl) (kk_fr cy ad (by omega) _) dX1_fill_28 (fun s28 H locs e28 hP hD hS => ?_)
        refine lv_aload_n hx hb dX1_fill_31 rfl (lv_at hl 1 rfl) ?_
        refine lv_aload_n hx hb dX1_fill_32 rfl (lv_at hl 3 rfl) ?_
        refine va_get (D := D) (ci := 2) (v := .ref (ad (6 + 4 * j + 2))) (C := RX2) (T := TX2) (N := 3) hx hb hts in2 hown hK hP (6 + 4 * j) (me_get (by omega) (kk_pl cy ad (by omega) _)) rfl 1 (by decide) k32 (fun _ h9 => h9) rfl dX1_fill_33 ?_
        refine lv_iconst (v := nI 0) hx hb dX1_fill_36 (by decide) ?_
        refine me_iald hx hb hK hP (6 + 4 * j + 2) 0 (by omega) (fun f => kk_4 cy ad (by omega) f) rfl 0 rfl (by omega) (by decide) dX1_fill_37 ?_
        refine me_put (ty := .int) (ci := 1) (C := RX1) (T := TX1) (M := 5) hx hb hts in1 tyX1 tyX1_ok nmX1 hown hK hP hD hS (94 + 2 * k) (by omega) (kk_fr cy ad (by omega) _) rfl 2 (by decide) k19 (fun _ h9 => h9) rfl (by decide +kernel) rfl rfl (Nat.le_of_ble_eq_true rfl) (kk_fr cy ad (by omega) _) dX1_fill_38 (fun s38 H locs e38 hP hD hS => ?_)
        refine lv_aload_n hx hb dX1_fill_41 rfl (lv_at hl 1 rfl) ?_
        refine lv_iconst (v := nI 0) hx hb dX1_fill_42 (by decide) ?_
        refine me_put (ty := .boolean) (ci := 1) (C := RX1) (T := TX1) (M := 5) hx hb hts in1 tyX1 tyX1_ok nmX1 hown hK hP hD hS (94 + 2 * k) (by omega) (kk_fr cy ad (by omega) _) rfl 3 (by decide) k22 (fun _ h9 => h9) rfl (by decide +kernel) rfl rfl (Nat.le_of_ble_eq_true rfl) (kk_fr cy ad (by omega) _) dX1_fill_43 (fun s43 H locs e43 hP hD hS => ?_)
        exact me_retv hx hb hr hlocks hK hP hD hS (by rw [hf2]; simp only [k_fill_2, if_pos c5, e28, e38, e43]) dX1_fill_46
      ·
        try have h5 := (not_congr (nI_leI (by omega) (by omega))).mp c5
        refine lv_aload_n hx hb dX1_fill_8 rfl (lv_at hl 1 rfl) ?_
        refine va_get (D := D) (ci := 1) (v := .ref (ad (94 + 2 * k + 1))) (C := RX1) (T := TX1) (N := 5) hx hb hts in1 hown hK hP (94 + 2 * k) (me_get (by omega) (kk_fr cy ad (by omega) _)) rfl 0 (by decide) k9 (fun _ h9 => h9) rfl dX1_fill_9 ?_
        refine lv_iload_n hx hb dX1_fill_12 rfl (lv_at hl 0 rfl) ?_
        refine lv_aload_n hx hb dX1_fill_13 rfl (lv_at hl 3 rfl) ?_
        refine va_get (D := D) (ci := 2) (v := .ref (ad (6 + 4 * j + 1))) (C := RX2) (T := TX2) (N := 3) hx hb hts in2 hown hK hP (6 + 4 * j) (me_get (by omega) (kk_pl cy ad (by omega) _)) rfl 0 (by decide) k29 (fun _ h9 => h9) rfl dX1_fill_14 ?_
        refine lv_iload_n hx hb dX1_fill_17 rfl (lv_at hl 0 rfl) ?_
        refine me_iald hx hb hK hP (6 + 4 * j + 1) 0 (by omega) (fun f => kk_16 cy ad (by omega) f) rfl i rfl (by omega) (by decide) dX1_fill_18 ?_
        refine me_iast hx hb hK hP hD hS (94 + 2 * k + 1) 0 (by omega) (fun f => kk_16 cy ad (by omega) f) rfl i rfl (by omega) (by decide) dX1_fill_19 (fun s19 H locs e19 hP hD hS => ?_)
        refine lv_iinc (v := nI (i + 1)) (lv' := [(3, .int (nI (i + 1))), (0, .ref (ad (94 + 2 * k))), (1, .int x), (2, .ref (ad (6 + 4 * j)))]) hx hb dX1_fill_20 hl (k := 0) rfl (me_inc _) (by decide) rfl (fun ls hl => ?_)
        refine lv_goto (tgt := 2) hx hb dX1_fill_23 (by decide) ?_
        exact ih (i + 1) s19 _ _ hP hD hS ls (lv_sub hl [0, 1, 2, 3] rfl) (by omega) (by omega) (by rw [hf2]; simp only [k_fill_2, if_neg c5, e19])
  exact J2 17 0 σ _ _ hP hD hS ls (lv_sub hl [0, 1, 2, 3] rfl) (by omega) (by omega) (by simp only [k_fill])

def k_cw (k : Nat) (t : Nat) (x : Int32) (y : Int32) (σ : me_M) : me_M := let s6 := me_st σ (94 + 2 * k + 1) t x; let s9 := me_st s6 (94 + 2 * k) 2 y; let s14 := me_st s9 (94 + 2 * k) 3 (nI 1); s14
set_option maxRecDepth 100000 in
set_option maxHeartbeats 4000000 in
theorem c_X1_changeWord (l : Launch) (D : va_G) (cy : Nat → ClassId) (ad : Nat → Nat) (xr : va_W) (k : Nat) (t : Nat) (x : Int32) (y : Int32) (σ : me_M) (hk : k < 4) (ht : t < 16) (sz : Nat) : me_Cv l yX1_changeWord wsX1_changeWord ({ frames := 0, cells := 0, slots := 0, locals := 0 }) D (me_T cy) (kk_W cy ad xr) [.ref (ad (94 + 2 * k)), .int (nI t), .int x, .int y] sz σ (k_cw k t x y σ) := by
  refine Met.ofW (cc := cX1_changeWord) (maxL := 4) (ret := none) (by decide) rfl ?_
  intro p e st m args below meth c s₁ B hml hv
  obtain ⟨rfl, hsz, hP, hK, hD0⟩ := hv
  have hx := B.exec
  have hb := B.bytes
  have hr := B.returns
  have hts := atoms_spec (ws := wsX1_changeWord) B.pre
  have hown : st.vm.findClass RX1 = some m.cls := findClass_of_methodNamed B.named
  have hlocks := B.notSynchronized
  have in1 : ∀ w ∈ u_ws RX1 TX1 5, w ∈ wsX1_changeWord := by decide +kernel
  have k9 := hts (.fieldLink RX1 9 "TwinWrites$Frame" "words" "[I") (by decide +kernel)
  have k19 := hts (.fieldLink RX1 19 "TwinWrites$Frame" "stamp" "I") (by decide +kernel)
  have k22 := hts (.fieldLink RX1 22 "TwinWrites$Frame" "dirty" "Z") (by decide +kernel)
  subst hsz
  have hD := hD0.self (sz := st.heap.size)
  have hA : ∀ q : Nat, st.heap.size ≤ q → va_A ((kk_W cy ad xr) σ) st.heap.size q := fun q h => Or.inr h
  have hS : va_S (va_A ((kk_W cy ad xr) σ) st.heap.size) st.heap st.heap [] := va_S.rf
  generalize va_A ((kk_W cy ad xr) σ) st.heap.size = A at hD hA hS ⊢
  have hl := lv_entry ([.ref (ad (94 + 2 * k)), .int (nI t), .int x, .int y]) (n := 4) (Nat.le_of_ble_eq_true rfl)
  rw [lg_entry_eq]
  generalize (lg_sl ([.ref (ad (94 + 2 * k)), .int (nI t), .int x, .int y]) ++ List.replicate (4 - (lg_sl ([.ref (ad (94 + 2 * k)), .int (nI t), .int x, .int y])).length) Slot.unset).toArray = ls at hl ⊢
  have hl : lv_has ls 4 [(0, .ref (ad (94 + 2 * k))), (1, .int (nI t)), (2, .int x), (3, .int y)] := hl
  refine lv_aload_n hx hb dX1_changeWord_0 rfl (lv_at hl 0 rfl) ?_
  refine va_get (D := D) (ci := 1) (v := .ref (ad (94 + 2 * k + 1))) (C := RX1) (T := TX1) (N := 5) hx hb hts in1 hown hK hP (94 + 2 * k) (me_get (by omega) (kk_fr cy ad (by omega) _)) rfl 0 (by decide) k9 (fun _ h9 => h9) rfl dX1_changeWord_1 ?_
  refine lv_iload_n hx hb dX1_changeWord_4 rfl (lv_at hl 1 rfl) ?_
  refine lv_iload_n hx hb dX1_changeWord_5 rfl (lv_at hl 2 rfl) ?_
  refine me_iast hx hb hK hP hD hS (94 + 2 * k + 1) 0 (by omega) (fun f => kk_16 cy ad (by omega) f) rfl t rfl (by omega) (by decide) dX1_changeWord_6 (fun s6 H locs e6 hP hD hS => ?_)
  refine lv_aload_n hx hb dX1_changeWord_7 rfl (lv_at hl 0 rfl) ?_
  refine lv_iload_n hx hb dX1_changeWord_8 rfl (lv_at hl 3 rfl) ?_
  refine me_put (ty := .int) (ci := 1) (C := RX1) (T := TX1) (M := 5) hx hb hts in1 tyX1 tyX1_ok nmX1 hown hK hP hD hS (94 + 2 * k) (by omega) (kk_fr cy ad (by omega) _) rfl 2 (by decide) k19 (fun _ h9 => h9) rfl (by decide +kernel) rfl rfl (Nat.le_of_ble_eq_true rfl) (kk_fr cy ad (by omega) _) dX1_changeWord_9 (fun s9 H locs e9 hP hD hS => ?_)
  refine lv_aload_n hx hb dX1_changeWord_12 rfl (lv_at hl 0 rfl) ?_
  refine lv_iconst (v := nI 1) hx hb dX1_changeWord_13 (by decide) ?_
  refine me_put (ty := .boolean) (ci := 1) (C := RX1) (T := TX1) (M := 5) hx hb hts in1 tyX1 tyX1_ok nmX1 hown hK hP hD hS (94 + 2 * k) (by omega) (kk_fr cy ad (by omega) _) rfl 3 (by decide) k22 (fun _ h9 => h9) rfl (by decide +kernel) rfl rfl (Nat.le_of_ble_eq_true rfl) (kk_fr cy ad (by omega) _) dX1_changeWord_14 (fun s14 H locs e14 hP hD hS => ?_)
  exact me_retv hx hb hr hlocks hK hP hD hS (by simp only [k_cw, e6, e9, e14]) dX1_changeWord_17

def k_fval (k : Nat) (t : Nat) (σ : me_M) : Int32 := if nI t = nI 0 then (σ (94 + 2 * k) 1) else (if nI t = nI 1 then (σ (94 + 2 * k) 2) else (if nI t = nI 2 then (if (σ (94 + 2 * k) 3) = 0 then (nI 0) else (nI 1)) else (σ (94 + 2 * k + 1) (t - 3))))
set_option maxRecDepth 100000 in
set_option maxHeartbeats 4000000 in
theorem c_X1_value (l : Launch) (D : va_G) (cy : Nat → ClassId) (ad : Nat → Nat) (xr : va_W) (k : Nat) (t : Nat) (σ : me_M) (hk : k < 4) (ht : t < 19) (sz : Nat) : me_Ci l yX1_value wsX1_value ({ frames := 0, cells := 0, slots := 0, locals := 0 }) D (me_T cy) (kk_W cy ad xr) [.ref (ad (94 + 2 * k)), .int (nI t)] sz σ (k_fval k t σ, σ) := by
  refine Met.ofW (cc := cX1_value) (maxL := 2) (ret := (some .int)) (by decide) rfl ?_
  intro p e st m args below meth c s₁ B hml hv
  obtain ⟨rfl, hsz, hP, hK, hD0⟩ := hv
  have hx := B.exec
  have hb := B.bytes
  have hr := B.returns
  have hts := atoms_spec (ws := wsX1_value) B.pre
  have hown : st.vm.findClass RX1 = some m.cls := findClass_of_methodNamed B.named
  have hlocks := B.notSynchronized
  have in1 : ∀ w ∈ u_ws RX1 TX1 5, w ∈ wsX1_value := by decide +kernel
  have k9 := hts (.fieldLink RX1 9 "TwinWrites$Frame" "words" "[I") (by decide +kernel)
  have k15 := hts (.fieldLink RX1 15 "TwinWrites$Frame" "page" "I") (by decide +kernel)
  have k19 := hts (.fieldLink RX1 19 "TwinWrites$Frame" "stamp" "I") (by decide +kernel)
  have k22 := hts (.fieldLink RX1 22 "TwinWrites$Frame" "dirty" "Z") (by decide +kernel)
  subst hsz
  have hD := hD0.self (sz := st.heap.size)
  have hA : ∀ q : Nat, st.heap.size ≤ q → va_A ((kk_W cy ad xr) σ) st.heap.size q := fun q h => Or.inr h
  have hS : va_S (va_A ((kk_W cy ad xr) σ) st.heap.size) st.heap st.heap [] := va_S.rf
  generalize va_A ((kk_W cy ad xr) σ) st.heap.size = A at hD hA hS ⊢
  have hl := lv_entry ([.ref (ad (94 + 2 * k)), .int (nI t)]) (n := 2) (Nat.le_of_ble_eq_true rfl)
  rw [lg_entry_eq]
  generalize (lg_sl ([.ref (ad (94 + 2 * k)), .int (nI t)]) ++ List.replicate (2 - (lg_sl ([.ref (ad (94 + 2 * k)), .int (nI t)])).length) Slot.unset).toArray = ls at hl ⊢
  have hl : lv_has ls 2 [(0, .ref (ad (94 + 2 * k))), (1, .int (nI t))] := hl
  refine lv_iload_n hx hb dX1_value_0 rfl (lv_at hl 1 rfl) ?_
  by_cases c1_0 : nI t = nI 0
  ·
    refine me_top c1_0 ?_
    refine lv_tableIn (tgt := 28) hx hb dX1_value_1 (by decide) (by decide) (by rfl) (by decide) ?_
    refine lv_aload_n hx hb dX1_value_28 rfl (lv_at hl 0 rfl) ?_
    refine va_get (D := D) (ci := 1) (v := .int (σ (94 + 2 * k) 1)) (C := RX1) (T := TX1) (N := 5) hx hb hts in1 hown hK hP (94 + 2 * k) (me_get (by omega) (kk_fr cy ad (by omega) _)) rfl 1 (by decide) k15 (fun _ h9 => h9) rfl dX1_value_29 ?_
    exact me_retr hx hb hr rfl hlocks hK hP hD hS (by simp only [k_fval, if_pos c1_0]) dX1_value_32
  by_cases c1_1 : nI t = nI 1
  ·
    refine me_top c1_1 ?_
    refine lv_tableIn (tgt := 33) hx hb dX1_value_1 (by decide) (by decide) (by rfl) (by decide) ?_
    refine lv_aload_n hx hb dX1_value_33 rfl (lv_at hl 0 rfl) ?_
    refine va_get (D := D) (ci := 1) (v := .int (σ (94 + 2 * k) 2)) (C := RX1) (T := TX1) (N := 5) hx hb hts in1 hown hK hP (94 + 2 * k) (me_get (by omega) (kk_fr cy ad (by omega) _)) rfl 2 (by decide) k19 (fun _ h9 => h9) rfl dX1_value_34 ?_
    exact me_retr hx hb hr rfl hlocks hK hP hD hS (by simp only [k_fval, if_neg c1_0, if_pos c1_1]) dX1_value_37
  by_cases c1_2 : nI t = nI 2
  ·
    refine me_top c1_2 ?_
    refine lv_tableIn (tgt := 38) hx hb dX1_value_1 (by decide) (by decide) (by rfl) (by decide) ?_
    refine lv_aload_n hx hb dX1_value_38 rfl (lv_at hl 0 rfl) ?_
    refine va_get (D := D) (ci := 1) (v := .int (σ (94 + 2 * k) 3)) (C := RX1) (T := TX1) (N := 5) hx hb hts in1 hown hK hP (94 + 2 * k) (me_get (by omega) (kk_fr cy ad (by omega) _)) rfl 3 (by decide) k22 (fun _ h9 => h9) rfl dX1_value_39 ?_
    refine lv_if_eq (tgt := 49) hx hb dX1_value_42 (by decide) (fun c42 => ?_) (fun c42 => ?_)
    ·
      refine lv_iconst (v := nI 0) hx hb dX1_value_49 (by decide) ?_
      exact me_retr hx hb hr rfl hlocks hK hP hD hS (by simp only [k_fval, if_neg c1_0, if_neg c1_1, if_pos c1_2, if_pos c42]) dX1_value_50
    ·
      refine lv_iconst (v := nI 1) hx hb dX1_value_45 (by decide) ?_
      refine lv_goto (tgt := 50) hx hb dX1_value_46 (by decide) ?_
      exact me_retr hx hb hr rfl hlocks hK hP hD hS (by simp only [k_fval, if_neg c1_0, if_neg c1_1, if_pos c1_2, if_neg c42]) dX1_value_50
  have c1_o := me_out (x := nI t) (n := 3) (by decide) (by intro j hj; match j, hj with | 0, _ => exact c1_0 | 1, _ => exact c1_1 | 2, _ => exact c1_2 | (j + 3), hj => exact absurd hj (by omega))
  refine lv_tableOut (tgt := 51) hx hb dX1_value_1 (by omega) (by decide) ?_
  have g0 : t ≠ 0 := fun h => c1_0 (by rw [h])
  have g1 : t ≠ 1 := fun h => c1_1 (by rw [h])
  have g2 : t ≠ 2 := fun h => c1_2 (by rw [h])
  refine lv_aload_n hx hb dX1_value_51 rfl (lv_at hl 0 rfl) ?_
  refine va_get (D := D) (ci := 1) (v := .ref (ad (94 + 2 * k + 1))) (C := RX1) (T := TX1) (N := 5) hx hb hts in1 hown hK hP (94 + 2 * k) (me_get (by omega) (kk_fr cy ad (by omega) _)) rfl 0 (by decide) k9 (fun _ h9 => h9) rfl dX1_value_52 ?_
  refine lv_iload_n hx hb dX1_value_55 rfl (lv_at hl 1 rfl) ?_
  refine lv_iconst (v := nI 3) hx hb dX1_value_56 (by decide) ?_
  refine lv_isub hx hb dX1_value_57 ?_
  refine me_top (pk_sub (by omega)) ?_
  refine me_iald hx hb hK hP (94 + 2 * k + 1) 0 (by omega) (fun f => kk_16 cy ad (by omega) f) rfl (t - 3) rfl (by omega) (by decide) dX1_value_58 ?_
  exact me_retr hx hb hr rfl hlocks hK hP hD hS (by simp only [k_fval, if_neg c1_0, if_neg c1_1, if_neg c1_2]) dX1_value_59
end
section
def k_put_9 : Nat → Nat → Nat → Int32 → Int32 → Nat → Nat → me_M → me_M
  | 0, j, d, x, y, q, i, s => s
  | n + 1, j, d, x, y, q, i, s => if nI (d * 4 + 4) ≤ (nI i) then (let s42 := me_st s (6 + 4 * j + 2) d y; let s49 := me_st s42 (6 + 4 * j + 3) d x; s49) else (let s29 := me_st s (6 + 4 * j + 1) i (s q i); k_put_9 n j d x y q (i + 1) s29)
def k_put (j : Nat) (d : Nat) (x : Int32) (y : Int32) (q : Nat) (σ : me_M) : me_M := k_put_9 5 j d x y q (d * 4) σ
set_option maxRecDepth 100000 in
set_option maxHeartbeats 4000000 in
theorem c_X2_putSector (l : Launch) (D : va_G) (cy : Nat → ClassId) (ad : Nat → Nat) (xr : va_W) (j : Nat) (d : Nat) (x : Int32) (y : Int32) (q : Nat) (σ : me_M) (hj : j < 16) (hd : d < 4) (hq : (6 ≤ q ∧ q < 70 ∧ q % 4 = 3) ∨ (94 ≤ q ∧ q < 102 ∧ q % 2 = 1)) (sz : Nat) : me_Cv l yX2_putSector wsX2_putSector ({ frames := 0, cells := 0, slots := 0, locals := 0 }) D (me_T cy) (kk_W cy ad xr) [.ref (ad (6 + 4 * j)), .int (nI d), .int x, .int y, .ref (ad q)] sz σ (k_put j d x y q σ) := by
  refine Met.ofW (cc := cX2_putSector) (maxL := 7) (ret := none) (by decide) rfl ?_
  intro p e st m args below meth c s₁ B hml hv
  obtain ⟨rfl, hsz, hP, hK, hD0⟩ := hv
  have hx := B.exec
  have hb := B.bytes
  have hr := B.returns
  have hts := atoms_spec (ws := wsX2_putSector) B.pre
  have hown : st.vm.findClass RX2 = some m.cls := findClass_of_methodNamed B.named
  have hlocks := B.notSynchronized
  have in2 : ∀ w ∈ u_ws RX2 TX2 3, w ∈ wsX2_putSector := by decide +kernel
  have k9 := hts (.fieldLink RX2 9 "TwinWrites$Place" "words" "[I") (by decide +kernel)
  have k15 := hts (.fieldLink RX2 15 "TwinWrites$Place" "stamps" "[I") (by decide +kernel)
  have k18 := hts (.fieldLink RX2 18 "TwinWrites$Place" "pages" "[I") (by decide +kernel)
  subst hsz
  have hD := hD0.self (sz := st.heap.size)
  have hA : ∀ q : Nat, st.heap.size ≤ q → va_A ((kk_W cy ad xr) σ) st.heap.size q := fun q h => Or.inr h
  have hS : va_S (va_A ((kk_W cy ad xr) σ) st.heap.size) st.heap st.heap [] := va_S.rf
  generalize va_A ((kk_W cy ad xr) σ) st.heap.size = A at hD hA hS ⊢
  have hl := lv_entry ([.ref (ad (6 + 4 * j)), .int (nI d), .int x, .int y, .ref (ad q)]) (n := 7) (Nat.le_of_ble_eq_true rfl)
  rw [lg_entry_eq]
  generalize (lg_sl ([.ref (ad (6 + 4 * j)), .int (nI d), .int x, .int y, .ref (ad q)]) ++ List.replicate (7 - (lg_sl ([.ref (ad (6 + 4 * j)), .int (nI d), .int x, .int y, .ref (ad q)])).length) Slot.unset).toArray = ls at hl ⊢
  have hl : lv_has ls 7 [(0, .ref (ad (6 + 4 * j))), (1, .int (nI d)), (2, .int x), (3, .int y), (4, .ref (ad q))] := hl
  refine lv_iload_n hx hb dX2_putSector_0 rfl (lv_at hl 1 rfl) ?_
  refine lv_iconst (v := nI 4) hx hb dX2_putSector_1 (by decide) ?_
  refine lv_imul hx hb dX2_putSector_2 ?_
  refine me_top (pk_mul _ _) ?_
  refine lv_istore (lv' := [(5, .int (nI (d * 4))), (0, .ref (ad (6 + 4 * j))), (1, .int (nI d)), (2, .int x), (3, .int y), (4, .ref (ad q))]) hx hb dX2_putSector_3 hl (by decide) rfl (fun ls hl => ?_)
  refine lv_iload hx hb dX2_putSector_5 (lv_at hl 0 rfl) ?_
  refine lv_istore (lv' := [(6, .int (nI (d * 4))), (5, .int (nI (d * 4))), (0, .ref (ad (6 + 4 * j))), (1, .int (nI d)), (2, .int x), (3, .int y), (4, .ref (ad q))]) hx hb dX2_putSector_7 hl (by decide) rfl (fun ls hl => ?_)
  have J9 : ∀ (n : Nat) (i : Nat) (s : me_M) (H : Heap) (locs : List Loc) (hP : va_P D vwCl ((kk_W cy ad xr) s) H) (hD : va_D A ((kk_W cy ad xr) s)) (hS : va_S A st.heap H locs) (ls : Array Slot) (hl : lv_has ls 7 [(6, .int (nI i)), (5, .int (nI (d * 4))), (0, .ref (ad (6 + 4 * j))), (1, .int (nI d)), (2, .int x), (3, .int y), (4, .ref (ad q))]), ∀ (hi : d * 4 ≤ i ∧ i ≤ d * 4 + 4), ∀ (hn : d * 4 + 5 ≤ i + n), k_put j d x y q σ = k_put_9 n j d x y q i s → W p l e (headSpec wsX2_putSector ({ frames := 0, cells := 0, slots := 0, locals := 0 })).room st m ([.ref (ad (6 + 4 * j)), .int (nI d), .int x, .int y, .ref (ad q)] : List Value).toArray below meth c H locs 0 0 (MQ below (va_Qv (fun σ' => σ' = k_put j d x y q σ) (me_B D (me_T cy) A (kk_W cy ad xr)) A) ([.ref (ad (6 + 4 * j)), .int (nI d), .int x, .int y, .ref (ad q)] : List Value).toArray st 0 0 A) (F0 m 9 ls []) := by
    intro n
    induction n with
    | zero => intro i s H locs hP hD hS ls hl hi hn hf9; exfalso; omega
    | succ n ih =>
      intro i s H locs hP hD hS ls hl hi hn hf9
      refine lv_iload hx hb dX2_putSector_9 (lv_at hl 0 rfl) ?_
      refine lv_iload hx hb dX2_putSector_11 (lv_at hl 1 rfl) ?_
      refine lv_iconst (v := nI 4) hx hb dX2_putSector_13 (by decide) ?_
      refine lv_iadd hx hb dX2_putSector_14 ?_
      refine me_top (nI_add _ _) ?_
      refine lv_icmp_ge (tgt := 36) hx hb dX2_putSector_15 (by decide) (fun c15 => ?_) (fun c15 => ?_)
      ·
        try have h15 := (nI_leI (by omega) (by omega)).mp c15
        refine lv_aload_n hx hb dX2_putSector_36 rfl (lv_at hl 2 rfl) ?_
        refine va_get (D := D) (ci := 2) (v := .ref (ad (6 + 4 * j + 2))) (C := RX2) (T := TX2) (N := 3) hx hb hts in2 hown hK hP (6 + 4 * j) (me_get (by omega) (kk_pl cy ad (by omega) _)) rfl 1 (by decide) k15 (fun _ h9 => h9) rfl dX2_putSector_37 ?_
        refine lv_iload_n hx hb dX2_putSector_40 rfl (lv_at hl 3 rfl) ?_
        refine lv_iload_n hx hb dX2_putSector_41 rfl (lv_at hl 5 rfl) ?_
        refine me_iast hx hb hK hP hD hS (6 + 4 * j + 2) 0 (by omega) (fun f => kk_4 cy ad (by omega) f) rfl d rfl (by omega) (by decide) dX2_putSector_42 (fun s42 H locs e42 hP hD hS => ?_)
        refine lv_aload_n hx hb dX2_putSector_43 rfl (lv_at hl 2 rfl) ?_
        refine va_get (D := D) (ci := 2) (v := .ref (ad (6 + 4 * j + 3))) (C := RX2) (T := TX2) (N := 3) hx hb hts in2 hown hK hP (6 + 4 * j) (me_get (by omega) (kk_pl cy ad (by omega) _)) rfl 2 (by decide) k18 (fun _ h9 => h9) rfl dX2_putSector_44 ?_
        refine lv_iload_n hx hb dX2_putSector_47 rfl (lv_at hl 3 rfl) ?_
        refine lv_iload_n hx hb dX2_putSector_48 rfl (lv_at hl 4 rfl) ?_
        refine me_iast hx hb hK hP hD hS (6 + 4 * j + 3) 0 (by omega) (fun f => kk_4 cy ad (by omega) f) rfl d rfl (by omega) (by decide) dX2_putSector_49 (fun s49 H locs e49 hP hD hS => ?_)
        exact me_retv hx hb hr hlocks hK hP hD hS (by rw [hf9]; simp only [k_put_9, if_pos c15, e42, e49]) dX2_putSector_50
      ·
        try have h15 := (not_congr (nI_leI (by omega) (by omega))).mp c15
        refine lv_aload_n hx hb dX2_putSector_18 rfl (lv_at hl 2 rfl) ?_
        refine va_get (D := D) (ci := 2) (v := .ref (ad (6 + 4 * j + 1))) (C := RX2) (T := TX2) (N := 3) hx hb hts in2 hown hK hP (6 + 4 * j) (me_get (by omega) (kk_pl cy ad (by omega) _)) rfl 0 (by decide) k9 (fun _ h9 => h9) rfl dX2_putSector_19 ?_
        refine lv_iload hx hb dX2_putSector_22 (lv_at hl 0 rfl) ?_
        refine lv_aload hx hb dX2_putSector_24 (lv_at hl 6 rfl) ?_
        refine lv_iload hx hb dX2_putSector_26 (lv_at hl 0 rfl) ?_
        refine me_iald hx hb hK hP q 0 (by omega) (fun f => kk_16 cy ad (by omega) f) rfl i rfl (by omega) (by decide) dX2_putSector_28 ?_
        refine me_iast hx hb hK hP hD hS (6 + 4 * j + 1) 0 (by omega) (fun f => kk_16 cy ad (by omega) f) rfl i rfl (by omega) (by decide) dX2_putSector_29 (fun s29 H locs e29 hP hD hS => ?_)
        refine lv_iinc (v := nI (i + 1)) (lv' := [(6, .int (nI (i + 1))), (5, .int (nI (d * 4))), (0, .ref (ad (6 + 4 * j))), (1, .int (nI d)), (2, .int x), (3, .int y), (4, .ref (ad q))]) hx hb dX2_putSector_30 hl (k := 0) rfl (me_inc _) (by decide) rfl (fun ls hl => ?_)
        refine lv_goto (tgt := 9) hx hb dX2_putSector_33 (by decide) ?_
        exact ih (i + 1) s29 _ _ hP hD hS ls (lv_sub hl [0, 1, 2, 3, 4, 5, 6] rfl) (by omega) (by omega) (by rw [hf9]; simp only [k_put_9, if_neg c15, e29])
  exact J9 5 (d * 4) σ _ _ hP hD hS ls (lv_sub hl [0, 1, 2, 3, 4, 5, 6] rfl) (by omega) (by omega) (by simp only [k_put])

def k_whole_2 : Nat → Nat → Nat → me_M → Int32
  | 0, j, i, s => 0
  | n + 1, j, i, s => if nI 4 ≤ (nI i) then (nI 1) else (if (s (6 + 4 * j + 2) i) = s (6 + 4 * j + 2) 0 then (if (s (6 + 4 * j + 3) i) = s (6 + 4 * j + 3) 0 then (k_whole_2 n j (i + 1) s) else (nI 0)) else (nI 0))
def k_whole (j : Nat) (σ : me_M) : Int32 := k_whole_2 4 j 1 σ
set_option maxRecDepth 100000 in
set_option maxHeartbeats 4000000 in
theorem c_X2_isWhole (l : Launch) (D : va_G) (cy : Nat → ClassId) (ad : Nat → Nat) (xr : va_W) (j : Nat) (σ : me_M) (hj : j < 16) (sz : Nat) : me_Ci l yX2_isWhole wsX2_isWhole ({ frames := 0, cells := 0, slots := 0, locals := 0 }) D (me_T cy) (kk_W cy ad xr) [.ref (ad (6 + 4 * j))] sz σ (k_whole j σ, σ) := by
  refine Met.ofW (cc := cX2_isWhole) (maxL := 2) (ret := (some .boolean)) (by decide) rfl ?_
  intro p e st m args below meth c s₁ B hml hv
  obtain ⟨rfl, hsz, hP, hK, hD0⟩ := hv
  have hx := B.exec
  have hb := B.bytes
  have hr := B.returns
  have hts := atoms_spec (ws := wsX2_isWhole) B.pre
  have hown : st.vm.findClass RX2 = some m.cls := findClass_of_methodNamed B.named
  have hlocks := B.notSynchronized
  have in2 : ∀ w ∈ u_ws RX2 TX2 3, w ∈ wsX2_isWhole := by decide +kernel
  have k15 := hts (.fieldLink RX2 15 "TwinWrites$Place" "stamps" "[I") (by decide +kernel)
  have k18 := hts (.fieldLink RX2 18 "TwinWrites$Place" "pages" "[I") (by decide +kernel)
  subst hsz
  have hD := hD0.self (sz := st.heap.size)
  have hA : ∀ q : Nat, st.heap.size ≤ q → va_A ((kk_W cy ad xr) σ) st.heap.size q := fun q h => Or.inr h
  have hS : va_S (va_A ((kk_W cy ad xr) σ) st.heap.size) st.heap st.heap [] := va_S.rf
  generalize va_A ((kk_W cy ad xr) σ) st.heap.size = A at hD hA hS ⊢
  have hl := lv_entry ([.ref (ad (6 + 4 * j))]) (n := 2) (Nat.le_of_ble_eq_true rfl)
  rw [lg_entry_eq]
  generalize (lg_sl ([.ref (ad (6 + 4 * j))]) ++ List.replicate (2 - (lg_sl ([.ref (ad (6 + 4 * j))])).length) Slot.unset).toArray = ls at hl ⊢
  have hl : lv_has ls 2 [(0, .ref (ad (6 + 4 * j)))] := hl
  refine lv_iconst (v := nI 1) hx hb dX2_isWhole_0 (by decide) ?_
  refine lv_istore_n (lv' := [(1, .int (nI 1)), (0, .ref (ad (6 + 4 * j)))]) hx hb dX2_isWhole_1 rfl hl (by decide) rfl (fun ls hl => ?_)
  have J2 : ∀ (n : Nat) (i : Nat) (H : Heap) (locs : List Loc) (hP : va_P D vwCl ((kk_W cy ad xr) σ) H) (hD : va_D A ((kk_W cy ad xr) σ)) (hS : va_S A st.heap H locs) (ls : Array Slot) (hl : lv_has ls 2 [(1, .int (nI i)), (0, .ref (ad (6 + 4 * j)))]), ∀ (hi : 1 ≤ i ∧ i ≤ 4), ∀ (hn : 5 ≤ i + n), k_whole j σ = k_whole_2 n j i σ → W p l e (headSpec wsX2_isWhole ({ frames := 0, cells := 0, slots := 0, locals := 0 })).room st m ([.ref (ad (6 + 4 * j))] : List Value).toArray below meth c H locs 0 0 (MQ below (va_Qi (fun r σ' => (r, σ') = (k_whole j σ, σ)) (me_B D (me_T cy) A (kk_W cy ad xr)) A) ([.ref (ad (6 + 4 * j))] : List Value).toArray st 0 0 A) (F0 m 2 ls []) := by
    intro n
    induction n with
    | zero => intro i H locs hP hD hS ls hl hi hn hf2; exfalso; omega
    | succ n ih =>
      intro i H locs hP hD hS ls hl hi hn hf2
      refine lv_iload_n hx hb dX2_isWhole_2 rfl (lv_at hl 0 rfl) ?_
      refine lv_iconst (v := nI 4) hx hb dX2_isWhole_3 (by decide) ?_
      refine lv_icmp_ge (tgt := 45) hx hb dX2_isWhole_4 (by decide) (fun c4 => ?_) (fun c4 => ?_)
      ·
        try have h4 := (nI_leI (by omega) (by omega)).mp c4
        refine lv_iconst (v := nI 1) hx hb dX2_isWhole_45 (by decide) ?_
        exact me_retr hx hb hr rfl hlocks hK hP hD hS (by rw [hf2]; simp only [k_whole_2, if_pos c4]) dX2_isWhole_46
      ·
        try have h4 := (not_congr (nI_leI (by omega) (by omega))).mp c4
        refine lv_aload_n hx hb dX2_isWhole_7 rfl (lv_at hl 1 rfl) ?_
        refine va_get (D := D) (ci := 2) (v := .ref (ad (6 + 4 * j + 2))) (C := RX2) (T := TX2) (N := 3) hx hb hts in2 hown hK hP (6 + 4 * j) (me_get (by omega) (kk_pl cy ad (by omega) _)) rfl 1 (by decide) k15 (fun _ h9 => h9) rfl dX2_isWhole_8 ?_
        refine lv_iload_n hx hb dX2_isWhole_11 rfl (lv_at hl 0 rfl) ?_
        refine me_iald hx hb hK hP (6 + 4 * j + 2) 0 (by omega) (fun f => kk_4 cy ad (by omega) f) rfl i rfl (by omega) (by decide) dX2_isWhole_12 ?_
        refine lv_aload_n hx hb dX2_isWhole_13 rfl (lv_at hl 1 rfl) ?_
        refine va_get (D := D) (ci := 2) (v := .ref (ad (6 + 4 * j + 2))) (C := RX2) (T := TX2) (N := 3) hx hb hts in2 hown hK hP (6 + 4 * j) (me_get (by omega) (kk_pl cy ad (by omega) _)) rfl 1 (by decide) k15 (fun _ h9 => h9) rfl dX2_isWhole_14 ?_
        refine lv_iconst (v := nI 0) hx hb dX2_isWhole_17 (by decide) ?_
        refine me_iald hx hb hK hP (6 + 4 * j + 2) 0 (by omega) (fun f => kk_4 cy ad (by omega) f) rfl 0 rfl (by omega) (by decide) dX2_isWhole_18 ?_
        refine lv_icmp_ne (tgt := 37) hx hb dX2_isWhole_19 (by decide) (fun c19 => ?_) (fun c19 => ?_)
        ·
          refine lv_iconst (v := nI 0) hx hb dX2_isWhole_37 (by decide) ?_
          exact me_retr hx hb hr rfl hlocks hK hP hD hS (by rw [hf2]; simp only [k_whole_2, if_neg c4, if_neg c19]) dX2_isWhole_38
        ·
          refine lv_aload_n hx hb dX2_isWhole_22 rfl (lv_at hl 1 rfl) ?_
          refine va_get (D := D) (ci := 2) (v := .ref (ad (6 + 4 * j + 3))) (C := RX2) (T := TX2) (N := 3) hx hb hts in2 hown hK hP (6 + 4 * j) (me_get (by omega) (kk_pl cy ad (by omega) _)) rfl 2 (by decide) k18 (fun _ h9 => h9) rfl dX2_isWhole_23 ?_
          refine lv_iload_n hx hb dX2_isWhole_26 rfl (lv_at hl 0 rfl) ?_
          refine me_iald hx hb hK hP (6 + 4 * j + 3) 0 (by omega) (fun f => kk_4 cy ad (by omega) f) rfl i rfl (by omega) (by decide) dX2_isWhole_27 ?_
          refine lv_aload_n hx hb dX2_isWhole_28 rfl (lv_at hl 1 rfl) ?_
          refine va_get (D := D) (ci := 2) (v := .ref (ad (6 + 4 * j + 3))) (C := RX2) (T := TX2) (N := 3) hx hb hts in2 hown hK hP (6 + 4 * j) (me_get (by omega) (kk_pl cy ad (by omega) _)) rfl 2 (by decide) k18 (fun _ h9 => h9) rfl dX2_isWhole_29 ?_
          refine lv_iconst (v := nI 0) hx hb dX2_isWhole_32 (by decide) ?_
          refine me_iald hx hb hK hP (6 + 4 * j + 3) 0 (by omega) (fun f => kk_4 cy ad (by omega) f) rfl 0 rfl (by omega) (by decide) dX2_isWhole_33 ?_
          refine lv_icmp_eq (tgt := 39) hx hb dX2_isWhole_34 (by decide) (fun c34 => ?_) (fun c34 => ?_)
          ·
            refine lv_iinc (v := nI (i + 1)) (lv' := [(1, .int (nI (i + 1))), (0, .ref (ad (6 + 4 * j)))]) hx hb dX2_isWhole_39 hl (k := 0) rfl (me_inc _) (by decide) rfl (fun ls hl => ?_)
            refine lv_goto (tgt := 2) hx hb dX2_isWhole_42 (by decide) ?_
            exact ih (i + 1) _ _ hP hD hS ls (lv_sub hl [0, 1] rfl) (by omega) (by omega) (by rw [hf2]; simp only [k_whole_2, if_neg c4, if_pos c19, if_pos c34])
          ·
            refine lv_iconst (v := nI 0) hx hb dX2_isWhole_37 (by decide) ?_
            exact me_retr hx hb hr rfl hlocks hK hP hD hS (by rw [hf2]; simp only [k_whole_2, if_neg c4, if_pos c19, if_neg c34]) dX2_isWhole_38
  exact J2 4 1 _ _ hP hD hS ls (lv_sub hl [0, 1] rfl) (by omega) (by omega) (by simp only [k_whole])

def k_pval (j : Nat) (t : Nat) (σ : me_M) : Int32 := if nI 16 ≤ (nI t) then (if nI 20 ≤ (nI t) then (σ (6 + 4 * j + 3) (t - 20)) else (σ (6 + 4 * j + 2) (t - 16))) else (σ (6 + 4 * j + 1) t)
set_option maxRecDepth 100000 in
set_option maxHeartbeats 4000000 in
theorem c_X2_value (l : Launch) (D : va_G) (cy : Nat → ClassId) (ad : Nat → Nat) (xr : va_W) (j : Nat) (t : Nat) (σ : me_M) (hj : j < 16) (ht : t < 24) (sz : Nat) : me_Ci l yX2_value wsX2_value ({ frames := 0, cells := 0, slots := 0, locals := 0 }) D (me_T cy) (kk_W cy ad xr) [.ref (ad (6 + 4 * j)), .int (nI t)] sz σ (k_pval j t σ, σ) := by
  refine Met.ofW (cc := cX2_value) (maxL := 2) (ret := (some .int)) (by decide) rfl ?_
  intro p e st m args below meth c s₁ B hml hv
  obtain ⟨rfl, hsz, hP, hK, hD0⟩ := hv
  have hx := B.exec
  have hb := B.bytes
  have hr := B.returns
  have hts := atoms_spec (ws := wsX2_value) B.pre
  have hown : st.vm.findClass RX2 = some m.cls := findClass_of_methodNamed B.named
  have hlocks := B.notSynchronized
  have in2 : ∀ w ∈ u_ws RX2 TX2 3, w ∈ wsX2_value := by decide +kernel
  have k9 := hts (.fieldLink RX2 9 "TwinWrites$Place" "words" "[I") (by decide +kernel)
  have k15 := hts (.fieldLink RX2 15 "TwinWrites$Place" "stamps" "[I") (by decide +kernel)
  have k18 := hts (.fieldLink RX2 18 "TwinWrites$Place" "pages" "[I") (by decide +kernel)
  subst hsz
  have hD := hD0.self (sz := st.heap.size)
  have hA : ∀ q : Nat, st.heap.size ≤ q → va_A ((kk_W cy ad xr) σ) st.heap.size q := fun q h => Or.inr h
  have hS : va_S (va_A ((kk_W cy ad xr) σ) st.heap.size) st.heap st.heap [] := va_S.rf
  generalize va_A ((kk_W cy ad xr) σ) st.heap.size = A at hD hA hS ⊢
  have hl := lv_entry ([.ref (ad (6 + 4 * j)), .int (nI t)]) (n := 2) (Nat.le_of_ble_eq_true rfl)
  rw [lg_entry_eq]
  generalize (lg_sl ([.ref (ad (6 + 4 * j)), .int (nI t)]) ++ List.replicate (2 - (lg_sl ([.ref (ad (6 + 4 * j)), .int (nI t)])).length) Slot.unset).toArray = ls at hl ⊢
  have hl : lv_has ls 2 [(0, .ref (ad (6 + 4 * j))), (1, .int (nI t))] := hl
  refine lv_iload_n hx hb dX2_value_0 rfl (lv_at hl 1 rfl) ?_
  refine lv_bipush (v := nI 16) hx hb dX2_value_1 (by decide) ?_
  refine lv_icmp_ge (tgt := 13) hx hb dX2_value_3 (by decide) (fun c3 => ?_) (fun c3 => ?_)
  ·
    try have h3 := (nI_leI (by omega) (by omega)).mp c3
    refine lv_iload_n hx hb dX2_value_13 rfl (lv_at hl 1 rfl) ?_
    refine lv_bipush (v := nI 20) hx hb dX2_value_14 (by decide) ?_
    refine lv_icmp_ge (tgt := 31) hx hb dX2_value_16 (by decide) (fun c16 => ?_) (fun c16 => ?_)
    ·
      try have h16 := (nI_leI (by omega) (by omega)).mp c16
      refine lv_aload_n hx hb dX2_value_31 rfl (lv_at hl 0 rfl) ?_
      refine va_get (D := D) (ci := 2) (v := .ref (ad (6 + 4 * j + 3))) (C := RX2) (T := TX2) (N := 3) hx hb hts in2 hown hK hP (6 + 4 * j) (me_get (by omega) (kk_pl cy ad (by omega) _)) rfl 2 (by decide) k18 (fun _ h9 => h9) rfl dX2_value_32 ?_
      refine lv_iload_n hx hb dX2_value_35 rfl (lv_at hl 1 rfl) ?_
      refine lv_bipush (v := nI 20) hx hb dX2_value_36 (by decide) ?_
      refine lv_isub hx hb dX2_value_38 ?_
      refine me_top (pk_sub (by omega)) ?_
      refine me_iald hx hb hK hP (6 + 4 * j + 3) 0 (by omega) (fun f => kk_4 cy ad (by omega) f) rfl (t - 20) rfl (by omega) (by decide) dX2_value_39 ?_
      exact me_retr hx hb hr rfl hlocks hK hP hD hS (by simp only [k_pval, if_pos c3, if_pos c16]) dX2_value_40
    ·
      try have h16 := (not_congr (nI_leI (by omega) (by omega))).mp c16
      refine lv_aload_n hx hb dX2_value_19 rfl (lv_at hl 0 rfl) ?_
      refine va_get (D := D) (ci := 2) (v := .ref (ad (6 + 4 * j + 2))) (C := RX2) (T := TX2) (N := 3) hx hb hts in2 hown hK hP (6 + 4 * j) (me_get (by omega) (kk_pl cy ad (by omega) _)) rfl 1 (by decide) k15 (fun _ h9 => h9) rfl dX2_value_20 ?_
      refine lv_iload_n hx hb dX2_value_23 rfl (lv_at hl 1 rfl) ?_
      refine lv_bipush (v := nI 16) hx hb dX2_value_24 (by decide) ?_
      refine lv_isub hx hb dX2_value_26 ?_
      refine me_top (pk_sub (by omega)) ?_
      refine me_iald hx hb hK hP (6 + 4 * j + 2) 0 (by omega) (fun f => kk_4 cy ad (by omega) f) rfl (t - 16) rfl (by omega) (by decide) dX2_value_27 ?_
      refine lv_goto (tgt := 40) hx hb dX2_value_28 (by decide) ?_
      exact me_retr hx hb hr rfl hlocks hK hP hD hS (by simp only [k_pval, if_pos c3, if_neg c16]) dX2_value_40
  ·
    try have h3 := (not_congr (nI_leI (by omega) (by omega))).mp c3
    refine lv_aload_n hx hb dX2_value_6 rfl (lv_at hl 0 rfl) ?_
    refine va_get (D := D) (ci := 2) (v := .ref (ad (6 + 4 * j + 1))) (C := RX2) (T := TX2) (N := 3) hx hb hts in2 hown hK hP (6 + 4 * j) (me_get (by omega) (kk_pl cy ad (by omega) _)) rfl 0 (by decide) k9 (fun _ h9 => h9) rfl dX2_value_7 ?_
    refine lv_iload_n hx hb dX2_value_10 rfl (lv_at hl 1 rfl) ?_
    refine me_iald hx hb hK hP (6 + 4 * j + 1) 0 (by omega) (fun f => kk_16 cy ad (by omega) f) rfl t rfl (by omega) (by decide) dX2_value_11 ?_
    exact me_retr hx hb hr rfl hlocks hK hP hD hS (by simp only [k_pval, if_neg c3]) dX2_value_12
end
section
def k_got  (σ : me_M) : Int32 := σ 0 14
set_option maxRecDepth 100000 in
set_option maxHeartbeats 4000000 in
theorem c_X3_got (l : Launch) (D : va_G) (cy : Nat → ClassId) (ad : Nat → Nat) (xr : va_W)  (σ : me_M)  (sz : Nat) : me_Ci l yX3_got wsX3_got ({ frames := 0, cells := 0, slots := 0, locals := 0 }) D (me_T cy) (kk_W cy ad xr) [.ref (ad 0)] sz σ (k_got  σ, σ) := by
  refine Met.ofW (cc := cX3_got) (maxL := 1) (ret := (some .int)) (by decide) rfl ?_
  intro p e st m args below meth c s₁ B hml hv
  obtain ⟨rfl, hsz, hP, hK, hD0⟩ := hv
  have hx := B.exec
  have hb := B.bytes
  have hr := B.returns
  have hts := atoms_spec (ws := wsX3_got) B.pre
  have hown : st.vm.findClass RX3 = some m.cls := findClass_of_methodNamed B.named
  have hlocks := B.notSynchronized
  have in3 : ∀ w ∈ u_ws RX3 TX3 15, w ∈ wsX3_got := by decide +kernel
  have k62 := hts (.fieldLink RX3 62 "TwinWrites" "wordGot" "I") (by decide +kernel)
  subst hsz
  have hD := hD0.self (sz := st.heap.size)
  have hA : ∀ q : Nat, st.heap.size ≤ q → va_A ((kk_W cy ad xr) σ) st.heap.size q := fun q h => Or.inr h
  have hS : va_S (va_A ((kk_W cy ad xr) σ) st.heap.size) st.heap st.heap [] := va_S.rf
  generalize va_A ((kk_W cy ad xr) σ) st.heap.size = A at hD hA hS ⊢
  have hl := lv_entry ([.ref (ad 0)]) (n := 1) (Nat.le_of_ble_eq_true rfl)
  rw [lg_entry_eq]
  generalize (lg_sl ([.ref (ad 0)]) ++ List.replicate (1 - (lg_sl ([.ref (ad 0)])).length) Slot.unset).toArray = ls at hl ⊢
  have hl : lv_has ls 1 [(0, .ref (ad 0))] := hl
  refine lv_aload_n hx hb dX3_got_0 rfl (lv_at hl 0 rfl) ?_
  refine va_get (D := D) (ci := 3) (v := .int (σ 0 14)) (C := RX3) (T := TX3) (N := 15) hx hb hts in3 hown hK hP 0 (me_get (by omega) (kk_0 cy ad _)) rfl 14 (by decide) k62 (fun _ h9 => h9) rfl dX3_got_1 ?_
  exact me_retr hx hb hr rfl hlocks hK hP hD hS (by simp only [k_got]) dX3_got_4

def k_room  (σ : me_M) : Int32 := ((σ 0 3) + (nI 12)) - (σ 0 12)
set_option maxRecDepth 100000 in
set_option maxHeartbeats 4000000 in
theorem c_X3_room (l : Launch) (D : va_G) (cy : Nat → ClassId) (ad : Nat → Nat) (xr : va_W)  (σ : me_M)  (sz : Nat) : me_Ci l yX3_room wsX3_room ({ frames := 0, cells := 0, slots := 0, locals := 0 }) D (me_T cy) (kk_W cy ad xr) [.ref (ad 0)] sz σ (k_room  σ, σ) := by
  refine Met.ofW (cc := cX3_room) (maxL := 1) (ret := (some .int)) (by decide) rfl ?_
  intro p e st m args below meth c s₁ B hml hv
  obtain ⟨rfl, hsz, hP, hK, hD0⟩ := hv
  have hx := B.exec
  have hb := B.bytes
  have hr := B.returns
  have hts := atoms_spec (ws := wsX3_room) B.pre
  have hown : st.vm.findClass RX3 = some m.cls := findClass_of_methodNamed B.named
  have hlocks := B.notSynchronized
  have in3 : ∀ w ∈ u_ws RX3 TX3 15, w ∈ wsX3_room := by decide +kernel
  have k24 := hts (.fieldLink RX3 24 "TwinWrites" "mark" "I") (by decide +kernel)
  have k56 := hts (.fieldLink RX3 56 "TwinWrites" "nextNumber" "I") (by decide +kernel)
  subst hsz
  have hD := hD0.self (sz := st.heap.size)
  have hA : ∀ q : Nat, st.heap.size ≤ q → va_A ((kk_W cy ad xr) σ) st.heap.size q := fun q h => Or.inr h
  have hS : va_S (va_A ((kk_W cy ad xr) σ) st.heap.size) st.heap st.heap [] := va_S.rf
  generalize va_A ((kk_W cy ad xr) σ) st.heap.size = A at hD hA hS ⊢
  have hl := lv_entry ([.ref (ad 0)]) (n := 1) (Nat.le_of_ble_eq_true rfl)
  rw [lg_entry_eq]
  generalize (lg_sl ([.ref (ad 0)]) ++ List.replicate (1 - (lg_sl ([.ref (ad 0)])).length) Slot.unset).toArray = ls at hl ⊢
  have hl : lv_has ls 1 [(0, .ref (ad 0))] := hl
  refine lv_aload_n hx hb dX3_room_0 rfl (lv_at hl 0 rfl) ?_
  refine va_get (D := D) (ci := 3) (v := .int (σ 0 3)) (C := RX3) (T := TX3) (N := 15) hx hb hts in3 hown hK hP 0 (me_get (by omega) (kk_0 cy ad _)) rfl 3 (by decide) k24 (fun _ h9 => h9) rfl dX3_room_1 ?_
  refine lv_bipush (v := nI 12) hx hb dX3_room_4 (by decide) ?_
  refine lv_iadd hx hb dX3_room_6 ?_
  refine lv_aload_n hx hb dX3_room_7 rfl (lv_at hl 0 rfl) ?_
  refine va_get (D := D) (ci := 3) (v := .int (σ 0 12)) (C := RX3) (T := TX3) (N := 15) hx hb hts in3 hown hK hP 0 (me_get (by omega) (kk_0 cy ad _)) rfl 12 (by decide) k56 (fun _ h9 => h9) rfl dX3_room_8 ?_
  refine lv_isub hx hb dX3_room_11 ?_
  exact me_retr hx hb hr rfl hlocks hK hP hD hS (by simp only [k_room]) dX3_room_12

def k_ph  (σ : me_M) : Int32 × me_M := if (σ 0 4) = 0 then ((nI 0, σ)) else (if (σ 0 4) ≤ 0 then (let s33 := me_st σ 0 6 ((σ 0 6) + (nI 1)); (nI 1, s33)) else (let s23 := me_st σ 0 4 ((σ 0 4) - (nI 1)); let s33 := me_st s23 0 6 ((s23 0 6) + (nI 1)); (nI 1, s33)))
set_option maxRecDepth 100000 in
set_option maxHeartbeats 4000000 in
theorem c_X3_powerHolds (l : Launch) (D : va_G) (cy : Nat → ClassId) (ad : Nat → Nat) (xr : va_W)  (σ : me_M)  (sz : Nat) : me_Ci l yX3_powerHolds wsX3_powerHolds ({ frames := 0, cells := 0, slots := 0, locals := 0 }) D (me_T cy) (kk_W cy ad xr) [.ref (ad 0)] sz σ (k_ph  σ) := by
  refine Met.ofW (cc := cX3_powerHolds) (maxL := 1) (ret := (some .boolean)) (by decide) rfl ?_
  intro p e st m args below meth c s₁ B hml hv
  obtain ⟨rfl, hsz, hP, hK, hD0⟩ := hv
  have hx := B.exec
  have hb := B.bytes
  have hr := B.returns
  have hts := atoms_spec (ws := wsX3_powerHolds) B.pre
  have hown : st.vm.findClass RX3 = some m.cls := findClass_of_methodNamed B.named
  have hlocks := B.notSynchronized
  have in3 : ∀ w ∈ u_ws RX3 TX3 15, w ∈ wsX3_powerHolds := by decide +kernel
  have k28 := hts (.fieldLink RX3 28 "TwinWrites" "sectorsLeft" "I") (by decide +kernel)
  have k35 := hts (.fieldLink RX3 35 "TwinWrites" "sectorsWritten" "I") (by decide +kernel)
  subst hsz
  have hD := hD0.self (sz := st.heap.size)
  have hA : ∀ q : Nat, st.heap.size ≤ q → va_A ((kk_W cy ad xr) σ) st.heap.size q := fun q h => Or.inr h
  have hS : va_S (va_A ((kk_W cy ad xr) σ) st.heap.size) st.heap st.heap [] := va_S.rf
  generalize va_A ((kk_W cy ad xr) σ) st.heap.size = A at hD hA hS ⊢
  have hl := lv_entry ([.ref (ad 0)]) (n := 1) (Nat.le_of_ble_eq_true rfl)
  rw [lg_entry_eq]
  generalize (lg_sl ([.ref (ad 0)]) ++ List.replicate (1 - (lg_sl ([.ref (ad 0)])).length) Slot.unset).toArray = ls at hl ⊢
  have hl : lv_has ls 1 [(0, .ref (ad 0))] := hl
  refine lv_aload_n hx hb dX3_powerHolds_0 rfl (lv_at hl 0 rfl) ?_
  refine va_get (D := D) (ci := 3) (v := .int (σ 0 4)) (C := RX3) (T := TX3) (N := 15) hx hb hts in3 hown hK hP 0 (me_get (by omega) (kk_0 cy ad _)) rfl 4 (by decide) k28 (fun _ h9 => h9) rfl dX3_powerHolds_1 ?_
  refine lv_if_ne (tgt := 9) hx hb dX3_powerHolds_4 (by decide) (fun c4 => ?_) (fun c4 => ?_)
  ·
    refine lv_aload_n hx hb dX3_powerHolds_9 rfl (lv_at hl 0 rfl) ?_
    refine va_get (D := D) (ci := 3) (v := .int (σ 0 4)) (C := RX3) (T := TX3) (N := 15) hx hb hts in3 hown hK hP 0 (me_get (by omega) (kk_0 cy ad _)) rfl 4 (by decide) k28 (fun _ h9 => h9) rfl dX3_powerHolds_10 ?_
    refine lv_if_le (tgt := 26) hx hb dX3_powerHolds_13 (by decide) (fun c13 => ?_) (fun c13 => ?_)
    ·
      refine lv_aload_n hx hb dX3_powerHolds_26 rfl (lv_at hl 0 rfl) ?_
      refine lv_dup hx hb dX3_powerHolds_27 rfl ?_
      refine va_get (D := D) (ci := 3) (v := .int (σ 0 6)) (C := RX3) (T := TX3) (N := 15) hx hb hts in3 hown hK hP 0 (me_get (by omega) (kk_0 cy ad _)) rfl 6 (by decide) k35 (fun _ h9 => h9) rfl dX3_powerHolds_28 ?_
      refine lv_iconst (v := nI 1) hx hb dX3_powerHolds_31 (by decide) ?_
      refine lv_iadd hx hb dX3_powerHolds_32 ?_
      refine me_put (ty := .int) (ci := 3) (C := RX3) (T := TX3) (M := 15) hx hb hts in3 tyX3 tyX3_ok nmX3 hown hK hP hD hS 0 (by omega) (kk_0 cy ad _) rfl 6 (by decide) k35 (fun _ h9 => h9) rfl (by decide +kernel) rfl rfl (Nat.le_of_ble_eq_true rfl) (kk_0 cy ad _) dX3_powerHolds_33 (fun s33 H locs e33 hP hD hS => ?_)
      refine lv_iconst (v := nI 1) hx hb dX3_powerHolds_36 (by decide) ?_
      exact me_reti hx hb hr rfl hlocks hK hP hD hS (by simp only [k_ph, if_neg c4, if_pos c13, e33]) dX3_powerHolds_37
    ·
      refine lv_aload_n hx hb dX3_powerHolds_16 rfl (lv_at hl 0 rfl) ?_
      refine lv_dup hx hb dX3_powerHolds_17 rfl ?_
      refine va_get (D := D) (ci := 3) (v := .int (σ 0 4)) (C := RX3) (T := TX3) (N := 15) hx hb hts in3 hown hK hP 0 (me_get (by omega) (kk_0 cy ad _)) rfl 4 (by decide) k28 (fun _ h9 => h9) rfl dX3_powerHolds_18 ?_
      refine lv_iconst (v := nI 1) hx hb dX3_powerHolds_21 (by decide) ?_
      refine lv_isub hx hb dX3_powerHolds_22 ?_
      refine me_put (ty := .int) (ci := 3) (C := RX3) (T := TX3) (M := 15) hx hb hts in3 tyX3 tyX3_ok nmX3 hown hK hP hD hS 0 (by omega) (kk_0 cy ad _) rfl 4 (by decide) k28 (fun _ h9 => h9) rfl (by decide +kernel) rfl rfl (Nat.le_of_ble_eq_true rfl) (kk_0 cy ad _) dX3_powerHolds_23 (fun s23 H locs e23 hP hD hS => ?_)
      refine lv_aload_n hx hb dX3_powerHolds_26 rfl (lv_at hl 0 rfl) ?_
      refine lv_dup hx hb dX3_powerHolds_27 rfl ?_
      refine va_get (D := D) (ci := 3) (v := .int (s23 0 6)) (C := RX3) (T := TX3) (N := 15) hx hb hts in3 hown hK hP 0 (me_get (by omega) (kk_0 cy ad _)) rfl 6 (by decide) k35 (fun _ h9 => h9) rfl dX3_powerHolds_28 ?_
      refine lv_iconst (v := nI 1) hx hb dX3_powerHolds_31 (by decide) ?_
      refine lv_iadd hx hb dX3_powerHolds_32 ?_
      refine me_put (ty := .int) (ci := 3) (C := RX3) (T := TX3) (M := 15) hx hb hts in3 tyX3 tyX3_ok nmX3 hown hK hP hD hS 0 (by omega) (kk_0 cy ad _) rfl 6 (by decide) k35 (fun _ h9 => h9) rfl (by decide +kernel) rfl rfl (Nat.le_of_ble_eq_true rfl) (kk_0 cy ad _) dX3_powerHolds_33 (fun s33 H locs e33 hP hD hS => ?_)
      refine lv_iconst (v := nI 1) hx hb dX3_powerHolds_36 (by decide) ?_
      exact me_reti hx hb hr rfl hlocks hK hP hD hS (by simp only [k_ph, if_neg c4, if_neg c13, e23, e33]) dX3_powerHolds_37
  ·
    refine lv_iconst (v := nI 0) hx hb dX3_powerHolds_7 (by decide) ?_
    exact me_reti hx hb hr rfl hlocks hK hP hD hS (by simp only [k_ph, if_pos c4]) dX3_powerHolds_8
end
section
/-! PURE A: numbers modulo 12; what the small functions leave alone -/
theorem pu_nn (y : Int32) : 0 ≤ y ↔ y.toBitVec.msb = false := by
  rw [Int32.le_iff_toInt_le, BitVec.msb_eq_toInt]
  show (0 : Int) ≤ y.toBitVec.toInt ↔ _
  simp
theorem pu_xs (x : Int32) : (0 ≤ x ^^^ nI 12) ↔ 0 ≤ x := by
  rw [pu_nn, pu_nn]
  have h : (nI 12).toBitVec.msb = false := by decide
  have h2 : (x ^^^ nI 12).toBitVec = x.toBitVec ^^^ (nI 12).toBitVec := rfl
  rw [h2, BitVec.msb_xor, h]
  simp
theorem pu_fm {i : Nat} (h : i < 2 ^ 31) : k_fm (nI i) (nI 12) = nI (i % 12) := by
  have h1 : nI i - nI i / nI 12 * nI 12 = nI (i % 12) := pk_rem h (by decide) (by decide)
  unfold k_fm
  rw [if_pos ((pu_xs _).mpr (nI_pos' h)), h1]
theorem pu_fm_in (x : Int32) : vp_in (k_fm x (nI 12)) 12 := by
  have e := rem_toInt x (nI 12)
  have hm : (nI 12).toInt = 12 := nI_toInt (by decide)
  rw [hm] at e
  have t := tmod_bounds (a := x.toInt) (M := 12) (by decide)
  rw [vp_in_iff]
  unfold k_fm
  by_cases hx : 0 ≤ x
  · rw [if_pos ((pu_xs _).mpr hx), e]
    have h0 : 0 ≤ x.toInt := by
      have := Int32.le_iff_toInt_le.mp hx
      exact this
    have := Int.tmod_nonneg 12 h0
    omega
  · rw [if_neg (fun h => hx ((pu_xs _).mp h))]
    have h0 : ¬ 0 ≤ x.toInt := fun h => hx (Int32.le_iff_toInt_le.mpr h)
    by_cases hz : x - x / nI 12 * nI 12 = 0
    · rw [if_pos hz, hz]
      decide
    · rw [if_neg hz, Jvm.Kit.i32_add (by rw [e, hm]; omega) (by rw [e, hm]; omega), e, hm]
      have h3 : x.toInt.tmod 12 ≠ 0 := fun h => hz (Int32.toInt_inj.mp (by rw [e, h]; rfl))
      have h4 : x.toInt.tmod 12 ≤ 0 := by
        have := Int.tmod_nonneg 12 (a := -x.toInt) (by omega)
        rw [Int.neg_tmod] at this
        omega
      omega
/-- what the methods need of the memory so that no index leaves its row -/
def k_I (σ : me_M) : Prop := (∀ k, k < 4 → ¬ σ (94 + 2 * k) 3 = 0 → vp_in (σ (94 + 2 * k) 1) 12) ∧ (∀ a, 70 ≤ a → a < 94 → vp_in (σ a 1) 12 ∧ vp_in (σ a 2) 16) ∧ vp_in (σ 0 11) 100000 ∧ vp_in (σ 0 12) 100000 ∧ (σ 0 11).toNatClampNeg ≤ (σ 0 12).toNatClampNeg ∧ vp_in (σ 0 3) 100000
theorem pu_ph {σ σ' : me_M} {r : Int32} (h : k_ph σ = (r, σ')) : (∀ q, q ≠ 0 → σ' q = σ q) ∧ (∀ k, k ≠ 4 → k ≠ 6 → σ' 0 k = σ 0 k) := by
  simp only [k_ph] at h
  split at h
  · cases h
    exact ⟨fun _ _ => rfl, fun _ _ _ => rfl⟩
  · split at h
    · cases h
      exact ⟨fun q hq => me_st_c _ _ _ hq, fun k h4 h6 => me_st_s _ _ _ h6⟩
    · cases h
      exact ⟨fun q hq => by rw [me_st_c _ _ _ hq, me_st_c _ _ _ hq], fun k h4 h6 => by rw [me_st_s _ _ _ h6, me_st_s _ _ _ h4]⟩
theorem pu_set {a : Nat} {x0 x1 x2 x3 : Int32} {σ : me_M} {q : Nat} (h : q ≠ a) : k_set a x0 x1 x2 x3 σ q = σ q := by
  simp only [k_set]
  rw [me_st_c _ _ _ h, me_st_c _ _ _ h, me_st_c _ _ _ h, me_st_c _ _ _ h]
theorem pu_set0 (a : Nat) (x0 x1 x2 x3 : Int32) (σ : me_M) : k_set a x0 x1 x2 x3 σ a 0 = x0 ∧ k_set a x0 x1 x2 x3 σ a 1 = x1 ∧ k_set a x0 x1 x2 x3 σ a 2 = x2 ∧ k_set a x0 x1 x2 x3 σ a 3 = x3 := by
  simp [k_set, me_st_eq]
theorem pu_put9 : ∀ (n j d : Nat) (x y : Int32) (q i : Nat) (s : me_M) (u : Nat), (u < 6 + 4 * j + 1 ∨ 6 + 4 * j + 3 < u) → k_put_9 n j d x y q i s u = s u := by
  intro n
  induction n with
  | zero => intros; rfl
  | succ n ih =>
    intro j d x y q i s u hu
    simp only [k_put_9]
    split
    · rw [me_st_c _ _ _ (by omega), me_st_c _ _ _ (by omega)]
    · rw [ih _ _ _ _ _ _ _ _ hu, me_st_c _ _ _ (by omega)]
end
section
def k_down_2 : Nat → Nat → me_M → me_M
  | 0, i, s => s
  | n + 1, i, s => if nI 4 ≤ (nI i) then (let s24 := me_st s 0 11 (nI 0); let s29 := me_st s24 0 4 ((-1)); let s34 := me_st s29 0 5 (nI 1); s34) else (let s13 := k_empty i s; k_down_2 n  (i + 1) s13)
def k_down  (σ : me_M) : me_M := k_down_2 5  0 σ
set_option maxRecDepth 100000 in
set_option maxHeartbeats 4000000 in
theorem c_X3_goDown (l : Launch) (D : va_G) (cy : Nat → ClassId) (ad : Nat → Nat) (xr : va_W)  (σ : me_M)  (sz : Nat) : me_Cv l yX3_goDown wsX3_goDown ({ frames := 1, cells := 0, slots := 0, locals := 21 }) D (me_T cy) (kk_W cy ad xr) [.ref (ad 0)] sz σ (k_down  σ) := by
  refine Met.ofW (cc := cX3_goDown) (maxL := 2) (ret := none) (by decide) rfl ?_
  intro p e st m args below meth c s₁ B hml hv
  obtain ⟨rfl, hsz, hP, hK, hD0⟩ := hv
  have hx := B.exec
  have hb := B.bytes
  have hr := B.returns
  have hts := atoms_spec (ws := wsX3_goDown) B.pre
  have hown : st.vm.findClass RX3 = some m.cls := findClass_of_methodNamed B.named
  have hlocks := B.notSynchronized
  have in3 : ∀ w ∈ u_ws RX3 TX3 15, w ∈ wsX3_goDown := by decide +kernel
  have k28 := hts (.fieldLink RX3 28 "TwinWrites" "sectorsLeft" "I") (by decide +kernel)
  have k31 := hts (.fieldLink RX3 31 "TwinWrites" "down" "Z") (by decide +kernel)
  have k46 := hts (.fieldLink RX3 46 "TwinWrites" "frames" "[LTwinWrites$Frame;") (by decide +kernel)
  have k53 := hts (.fieldLink RX3 53 "TwinWrites" "waitingCount" "I") (by decide +kernel)
  subst hsz
  have hD := hD0.self (sz := st.heap.size)
  have hA : ∀ q : Nat, st.heap.size ≤ q → va_A ((kk_W cy ad xr) σ) st.heap.size q := fun q h => Or.inr h
  have hS : va_S (va_A ((kk_W cy ad xr) σ) st.heap.size) st.heap st.heap [] := va_S.rf
  generalize va_A ((kk_W cy ad xr) σ) st.heap.size = A at hD hA hS ⊢
  have hl := lv_entry ([.ref (ad 0)]) (n := 2) (Nat.le_of_ble_eq_true rfl)
  rw [lg_entry_eq]
  generalize (lg_sl ([.ref (ad 0)]) ++ List.replicate (2 - (lg_sl ([.ref (ad 0)])).length) Slot.unset).toArray = ls at hl ⊢
  have hl : lv_has ls 2 [(0, .ref (ad 0))] := hl
  refine lv_iconst (v := nI 0) hx hb dX3_goDown_0 (by decide) ?_
  refine lv_istore_n (lv' := [(1, .int (nI 0)), (0, .ref (ad 0))]) hx hb dX3_goDown_1 rfl hl (by decide) rfl (fun ls hl => ?_)
  have J2 : ∀ (n : Nat) (i : Nat) (s : me_M) (H : Heap) (locs : List Loc) (hP : va_P D vwCl ((kk_W cy ad xr) s) H) (hD : va_D A ((kk_W cy ad xr) s)) (hS : va_S A st.heap H locs) (ls : Array Slot) (hl : lv_has ls 2 [(1, .int (nI i)), (0, .ref (ad 0))]), ∀ (hi : i ≤ 4), ∀ (hn : 5 ≤ i + n), k_down  σ = k_down_2 n  i s → W p l e (headSpec wsX3_goDown ({ frames := 1, cells := 0, slots := 0, locals := 21 })).room st m ([.ref (ad 0)] : List Value).toArray below meth c H locs 0 0 (MQ below (va_Qv (fun σ' => σ' = k_down  σ) (me_B D (me_T cy) A (kk_W cy ad xr)) A) ([.ref (ad 0)] : List Value).toArray st 0 0 A) (F0 m 2 ls []) := by
    intro n
    induction n with
    | zero => intro i s H locs hP hD hS ls hl hi hn hf2; exfalso; omega
    | succ n ih =>
      intro i s H locs hP hD hS ls hl hi hn hf2
      refine lv_iload_n hx hb dX3_goDown_2 rfl (lv_at hl 0 rfl) ?_
      refine lv_iconst (v := nI 4) hx hb dX3_goDown_3 (by decide) ?_
      refine lv_icmp_ge (tgt := 22) hx hb dX3_goDown_4 (by decide) (fun c4 => ?_) (fun c4 => ?_)
      ·
        try have h4 := (nI_leI (by omega) (by omega)).mp c4
        refine lv_aload_n hx hb dX3_goDown_22 rfl (lv_at hl 1 rfl) ?_
        refine lv_iconst (v := nI 0) hx hb dX3_goDown_23 (by decide) ?_
        refine me_put (ty := .int) (ci := 3) (C := RX3) (T := TX3) (M := 15) hx hb hts in3 tyX3 tyX3_ok nmX3 hown hK hP hD hS 0 (by omega) (kk_0 cy ad _) rfl 11 (by decide) k53 (fun _ h9 => h9) rfl (by decide +kernel) rfl rfl (Nat.le_of_ble_eq_true rfl) (kk_0 cy ad _) dX3_goDown_24 (fun s24 H locs e24 hP hD hS => ?_)
        refine lv_aload_n hx hb dX3_goDown_27 rfl (lv_at hl 1 rfl) ?_
        refine lv_iconst (v := (-1)) hx hb dX3_goDown_28 (by decide) ?_
        refine me_put (ty := .int) (ci := 3) (C := RX3) (T := TX3) (M := 15) hx hb hts in3 tyX3 tyX3_ok nmX3 hown hK hP hD hS 0 (by omega) (kk_0 cy ad _) rfl 4 (by decide) k28 (fun _ h9 => h9) rfl (by decide +kernel) rfl rfl (Nat.le_of_ble_eq_true rfl) (kk_0 cy ad _) dX3_goDown_29 (fun s29 H locs e29 hP hD hS => ?_)
        refine lv_aload_n hx hb dX3_goDown_32 rfl (lv_at hl 1 rfl) ?_
        refine lv_iconst (v := nI 1) hx hb dX3_goDown_33 (by decide) ?_
        refine me_put (ty := .boolean) (ci := 3) (C := RX3) (T := TX3) (M := 15) hx hb hts in3 tyX3 tyX3_ok nmX3 hown hK hP hD hS 0 (by omega) (kk_0 cy ad _) rfl 5 (by decide) k31 (fun _ h9 => h9) rfl (by decide +kernel) rfl rfl (Nat.le_of_ble_eq_true rfl) (kk_0 cy ad _) dX3_goDown_34 (fun s34 H locs e34 hP hD hS => ?_)
        exact me_retv hx hb hr hlocks hK hP hD hS (by rw [hf2]; simp only [k_down_2, if_pos c4, e24, e29, e34]) dX3_goDown_37
      ·
        try have h4 := (not_congr (nI_leI (by omega) (by omega))).mp c4
        refine lv_aload_n hx hb dX3_goDown_7 rfl (lv_at hl 1 rfl) ?_
        refine va_get (D := D) (ci := 3) (v := .ref (ad 4)) (C := RX3) (T := TX3) (N := 15) hx hb hts in3 hown hK hP 0 (me_get (by omega) (kk_0 cy ad _)) rfl 9 (by decide) k46 (fun _ h9 => h9) rfl dX3_goDown_8 ?_
        refine lv_iload_n hx hb dX3_goDown_11 rfl (lv_at hl 0 rfl) ?_
        refine me_aald (g := fun j => ad (94 + 2 * j)) hx hb hK hP 4 5 (by omega) (fun f => kk_a4 cy ad f) rfl i rfl (by omega) (by decide) dX3_goDown_12 ?_
        refine me_callv (f := k_empty i s) (w := (kk_W cy ad xr)) (σ := s) (As := []) (rest := []) ⟨hx, hb, hml, hown, hts⟩ (fun sz => c_X1_empty l D cy ad xr i s (by omega) sz) (cwV 0 hts gX3_goDown_X1_empty rfl rfl rfl (by decide +kernel) ⟨Nat.le_of_ble_eq_true rfl, Nat.le_of_ble_eq_true rfl⟩) (va_recv hK hP (ci := 1) (q0 := (94 + 2 * i)) rfl (me_get (by omega) (kk_fr cy ad (by omega) _))) hK hP hD hS hA rfl hl.1 rfl (Nat.le_of_ble_eq_true rfl) dX3_goDown_13 ⟨Nat.zero_le _, Nat.zero_le _⟩ (fun s13 H locs e13 hP hD hS => ?_)
        refine lv_iinc (v := nI (i + 1)) (lv' := [(1, .int (nI (i + 1))), (0, .ref (ad 0))]) hx hb dX3_goDown_16 hl (k := 0) rfl (me_inc _) (by decide) rfl (fun ls hl => ?_)
        refine lv_goto (tgt := 2) hx hb dX3_goDown_19 (by decide) ?_
        exact ih (i + 1) s13 _ _ hP hD hS ls (lv_sub hl [0, 1] rfl) (by omega) (by omega) (by rw [hf2]; simp only [k_down_2, if_neg c4, e13])
  exact J2 5 0 σ _ _ hP hD hS ls (lv_sub hl [0, 1] rfl) (by omega) (by omega) (by simp only [k_down])

def k_lose  (σ : me_M) : Int32 × me_M := let s1 := k_down σ; ((-3), s1)
set_option maxRecDepth 100000 in
set_option maxHeartbeats 4000000 in
theorem c_X3_lose (l : Launch) (D : va_G) (cy : Nat → ClassId) (ad : Nat → Nat) (xr : va_W)  (σ : me_M)  (sz : Nat) : me_Ci l yX3_lose wsX3_lose ({ frames := 2, cells := 0, slots := 0, locals := 42 }) D (me_T cy) (kk_W cy ad xr) [.ref (ad 0)] sz σ (k_lose  σ) := by
  refine Met.ofW (cc := cX3_lose) (maxL := 1) (ret := (some .int)) (by decide) rfl ?_
  intro p e st m args below meth c s₁ B hml hv
  obtain ⟨rfl, hsz, hP, hK, hD0⟩ := hv
  have hx := B.exec
  have hb := B.bytes
  have hr := B.returns
  have hts := atoms_spec (ws := wsX3_lose) B.pre
  have hown : st.vm.findClass RX3 = some m.cls := findClass_of_methodNamed B.named
  have hlocks := B.notSynchronized
  subst hsz
  have hD := hD0.self (sz := st.heap.size)
  have hA : ∀ q : Nat, st.heap.size ≤ q → va_A ((kk_W cy ad xr) σ) st.heap.size q := fun q h => Or.inr h
  have hS : va_S (va_A ((kk_W cy ad xr) σ) st.heap.size) st.heap st.heap [] := va_S.rf
  generalize va_A ((kk_W cy ad xr) σ) st.heap.size = A at hD hA hS ⊢
  have hl := lv_entry ([.ref (ad 0)]) (n := 1) (Nat.le_of_ble_eq_true rfl)
  rw [lg_entry_eq]
  generalize (lg_sl ([.ref (ad 0)]) ++ List.replicate (1 - (lg_sl ([.ref (ad 0)])).length) Slot.unset).toArray = ls at hl ⊢
  have hl : lv_has ls 1 [(0, .ref (ad 0))] := hl
  refine lv_aload_n hx hb dX3_lose_0 rfl (lv_at hl 0 rfl) ?_
  refine me_callv (f := k_down σ) (w := (kk_W cy ad xr)) (σ := σ) (As := []) (rest := []) ⟨hx, hb, hml, hown, hts⟩ (fun sz => c_X3_goDown l D cy ad xr  σ  sz) (cwV 0 hts gX3_lose_X3_goDown rfl rfl rfl (by decide +kernel) ⟨Nat.le_of_ble_eq_true rfl, Nat.le_of_ble_eq_true rfl⟩) (va_recv hK hP (ci := 3) (q0 := 0) rfl (me_get (by omega) (kk_0 cy ad _))) hK hP hD hS hA rfl hl.1 rfl (Nat.le_of_ble_eq_true rfl) dX3_lose_1 ⟨Nat.zero_le _, Nat.zero_le _⟩ (fun s1 H locs e1 hP hD hS => ?_)
  refine lv_bipush (v := (-3)) hx hb dX3_lose_4 (by decide) ?_
  exact me_reti hx hb hr rfl hlocks hK hP hD hS (by simp only [k_lose, e1]) dX3_lose_6

def k_wp_3 : Nat → Nat → Int32 → Int32 → Nat → Nat → me_M → Int32 × me_M
  | 0, j, x, y, q, i, s => (0, s)
  | n + 1, j, x, y, q, i, s => if nI 4 ≤ (nI i) then ((nI 1, s)) else (let q10 := k_ph s; let r10 := q10.1; let s10 := q10.2; if r10 = 0 then ((nI 0, s10)) else (let s25 := k_put j i x y q s10; k_wp_3 n j x y q (i + 1) s25))
def k_wp (j : Nat) (x : Int32) (y : Int32) (q : Nat) (σ : me_M) : Int32 × me_M := k_wp_3 5 j x y q 0 σ
set_option maxRecDepth 100000 in
set_option maxHeartbeats 4000000 in
theorem c_X3_writePage (l : Launch) (D : va_G) (cy : Nat → ClassId) (ad : Nat → Nat) (xr : va_W) (j : Nat) (x : Int32) (y : Int32) (q : Nat) (σ : me_M) (hj : j < 16) (hq : (6 ≤ q ∧ q < 70 ∧ q % 4 = 3) ∨ (94 ≤ q ∧ q < 102 ∧ q % 2 = 1)) (sz : Nat) : me_Ci l yX3_writePage wsX3_writePage ({ frames := 1, cells := 0, slots := 0, locals := 26 }) D (me_T cy) (kk_W cy ad xr) [.ref (ad 0), .ref (ad (6 + 4 * j)), .int x, .int y, .ref (ad q)] sz σ (k_wp j x y q σ) := by
  refine Met.ofW (cc := cX3_writePage) (maxL := 6) (ret := (some .boolean)) (by decide) rfl ?_
  intro p e st m args below meth c s₁ B hml hv
  obtain ⟨rfl, hsz, hP, hK, hD0⟩ := hv
  have hx := B.exec
  have hb := B.bytes
  have hr := B.returns
  have hts := atoms_spec (ws := wsX3_writePage) B.pre
  have hown : st.vm.findClass RX3 = some m.cls := findClass_of_methodNamed B.named
  have hlocks := B.notSynchronized
  subst hsz
  have hD := hD0.self (sz := st.heap.size)
  have hA : ∀ q : Nat, st.heap.size ≤ q → va_A ((kk_W cy ad xr) σ) st.heap.size q := fun q h => Or.inr h
  have hS : va_S (va_A ((kk_W cy ad xr) σ) st.heap.size) st.heap st.heap [] := va_S.rf
  generalize va_A ((kk_W cy ad xr) σ) st.heap.size = A at hD hA hS ⊢
  have hl := lv_entry ([.ref (ad 0), .ref (ad (6 + 4 * j)), .int x, .int y, .ref (ad q)]) (n := 6) (Nat.le_of_ble_eq_true rfl)
  rw [lg_entry_eq]
  generalize (lg_sl ([.ref (ad 0), .ref (ad (6 + 4 * j)), .int x, .int y, .ref (ad q)]) ++ List.replicate (6 - (lg_sl ([.ref (ad 0), .ref (ad (6 + 4 * j)), .int x, .int y, .ref (ad q)])).length) Slot.unset).toArray = ls at hl ⊢
  have hl : lv_has ls 6 [(0, .ref (ad 0)), (1, .ref (ad (6 + 4 * j))), (2, .int x), (3, .int y), (4, .ref (ad q))] := hl
  refine lv_iconst (v := nI 0) hx hb dX3_writePage_0 (by decide) ?_
  refine lv_istore (lv' := [(5, .int (nI 0)), (0, .ref (ad 0)), (1, .ref (ad (6 + 4 * j))), (2, .int x), (3, .int y), (4, .ref (ad q))]) hx hb dX3_writePage_1 hl (by decide) rfl (fun ls hl => ?_)
  have J3 : ∀ (n : Nat) (i : Nat) (s : me_M) (H : Heap) (locs : List Loc) (hP : va_P D vwCl ((kk_W cy ad xr) s) H) (hD : va_D A ((kk_W cy ad xr) s)) (hS : va_S A st.heap H locs) (ls : Array Slot) (hl : lv_has ls 6 [(5, .int (nI i)), (0, .ref (ad 0)), (1, .ref (ad (6 + 4 * j))), (2, .int x), (3, .int y), (4, .ref (ad q))]), ∀ (hi : i ≤ 4), ∀ (hn : 5 ≤ i + n), k_wp j x y q σ = k_wp_3 n j x y q i s → W p l e (headSpec wsX3_writePage ({ frames := 1, cells := 0, slots := 0, locals := 26 })).room st m ([.ref (ad 0), .ref (ad (6 + 4 * j)), .int x, .int y, .ref (ad q)] : List Value).toArray below meth c H locs 0 0 (MQ below (va_Qi (fun r σ' => (r, σ') = k_wp j x y q σ) (me_B D (me_T cy) A (kk_W cy ad xr)) A) ([.ref (ad 0), .ref (ad (6 + 4 * j)), .int x, .int y, .ref (ad q)] : List Value).toArray st 0 0 A) (F0 m 3 ls []) := by
    intro n
    induction n with
    | zero => intro i s H locs hP hD hS ls hl hi hn hf3; exfalso; omega
    | succ n ih =>
      intro i s H locs hP hD hS ls hl hi hn hf3
      refine lv_iload hx hb dX3_writePage_3 (lv_at hl 0 rfl) ?_
      refine lv_iconst (v := nI 4) hx hb dX3_writePage_5 (by decide) ?_
      refine lv_icmp_ge (tgt := 34) hx hb dX3_writePage_6 (by decide) (fun c6 => ?_) (fun c6 => ?_)
      ·
        try have h6 := (nI_leI (by omega) (by omega)).mp c6
        refine lv_iconst (v := nI 1) hx hb dX3_writePage_34 (by decide) ?_
        exact me_reti hx hb hr rfl hlocks hK hP hD hS (by rw [hf3]; simp only [k_wp_3, if_pos c6]) dX3_writePage_35
      ·
        try have h6 := (not_congr (nI_leI (by omega) (by omega))).mp c6
        refine lv_aload_n hx hb dX3_writePage_9 rfl (lv_at hl 1 rfl) ?_
        refine me_calli (f := k_ph s) (w := (kk_W cy ad xr)) (σ := s) (As := []) (rest := []) ⟨hx, hb, hml, hown, hts⟩ (fun sz => c_X3_powerHolds l D cy ad xr  s  sz) (cwV 0 hts gX3_writePage_X3_powerHolds rfl rfl rfl (by decide +kernel) ⟨Nat.le_of_ble_eq_true rfl, Nat.le_of_ble_eq_true rfl⟩) (va_recv hK hP (ci := 3) (q0 := 0) rfl (me_get (by omega) (kk_0 cy ad _))) hK hP hD hS hA rfl hl.1 rfl (Nat.le_of_ble_eq_true rfl) dX3_writePage_10 ⟨Nat.zero_le _, Nat.zero_le _⟩ (fun r10 s10 H locs e10 hP hD hS => ?_)
        refine lv_if_ne (tgt := 18) hx hb dX3_writePage_13 (by decide) (fun c13 => ?_) (fun c13 => ?_)
        ·
          refine lv_aload_n hx hb dX3_writePage_18 rfl (lv_at hl 2 rfl) ?_
          refine lv_iload hx hb dX3_writePage_19 (lv_at hl 0 rfl) ?_
          refine lv_iload_n hx hb dX3_writePage_21 rfl (lv_at hl 3 rfl) ?_
          refine lv_iload_n hx hb dX3_writePage_22 rfl (lv_at hl 4 rfl) ?_
          refine lv_aload hx hb dX3_writePage_23 (lv_at hl 5 rfl) ?_
          refine me_callv (f := k_put j i x y q s10) (w := (kk_W cy ad xr)) (σ := s10) (As := [.int (nI i), .int x, .int y, .ref (ad q)]) (rest := []) ⟨hx, hb, hml, hown, hts⟩ (fun sz => c_X2_putSector l D cy ad xr j i x y q s10 (by omega) (by omega) (by omega) sz) (cwV 4 hts gX3_writePage_X2_putSector rfl rfl rfl (by decide +kernel) ⟨Nat.le_of_ble_eq_true rfl, Nat.le_of_ble_eq_true rfl⟩) (va_recv hK hP (ci := 2) (q0 := (6 + 4 * j)) rfl (me_get (by omega) (kk_pl cy ad (by omega) _))) hK hP hD hS hA rfl hl.1 rfl (Nat.le_of_ble_eq_true rfl) dX3_writePage_25 ⟨Nat.zero_le _, Nat.zero_le _⟩ (fun s25 H locs e25 hP hD hS => ?_)
          refine lv_iinc (v := nI (i + 1)) (lv' := [(5, .int (nI (i + 1))), (0, .ref (ad 0)), (1, .ref (ad (6 + 4 * j))), (2, .int x), (3, .int y), (4, .ref (ad q))]) hx hb dX3_writePage_28 hl (k := 0) rfl (me_inc _) (by decide) rfl (fun ls hl => ?_)
          refine lv_goto (tgt := 3) hx hb dX3_writePage_31 (by decide) ?_
          exact ih (i + 1) s25 _ _ hP hD hS ls (lv_sub hl [0, 1, 2, 3, 4, 5] rfl) (by omega) (by omega) (by rw [hf3]; simp only [k_wp_3, if_neg c6, e10, if_neg c13, e25])
        ·
          refine lv_iconst (v := nI 0) hx hb dX3_writePage_16 (by decide) ?_
          exact me_reti hx hb hr rfl hlocks hK hP hD hS (by rw [hf3]; simp only [k_wp_3, if_neg c6, e10, if_pos c13]) dX3_writePage_17
  exact J3 5 0 σ _ _ hP hD hS ls (lv_sub hl [0, 1, 2, 3, 4, 5] rfl) (by omega) (by omega) (by simp only [k_wp])

def k_lw_14 : Nat → Nat → Nat → Nat → me_M → Int32 × me_M
  | 0, w, u, i, s => (0, s)
  | n + 1, w, u, i, s => if nI u ≤ (nI i) then (let s62 := me_st s 0 11 (nI 0); (nI w, s62)) else (let q20 := k_ph s; let r20 := q20.1; let s20 := q20.2; if r20 = 0 then (((-3), s20)) else (let s51 := k_copy (70 + 2 * (i % 12)) (70 + 2 * (i % 12) + 1) s20; k_lw_14 n  w u (i + 1) s51))
def k_lw  (σ : me_M) : Int32 × me_M := k_lw_14 ((σ 0 11).toNatClampNeg + 1)  ((σ 0 11).toNatClampNeg) ((σ 0 12).toNatClampNeg) (((σ 0 12).toNatClampNeg) - ((σ 0 11).toNatClampNeg)) σ
set_option maxRecDepth 100000 in
set_option maxHeartbeats 4000000 in
theorem c_X3_logWaiting (l : Launch) (D : va_G) (cy : Nat → ClassId) (ad : Nat → Nat) (xr : va_W)  (σ : me_M) (hI : k_I σ) (sz : Nat) : me_Ci l yX3_logWaiting wsX3_logWaiting ({ frames := 2, cells := 0, slots := 0, locals := 45 }) D (me_T cy) (kk_W cy ad xr) [.ref (ad 0)] sz σ (k_lw  σ) := by
  refine Met.ofW (cc := cX3_logWaiting) (maxL := 5) (ret := (some .int)) (by decide) rfl ?_
  intro p e st m args below meth c s₁ B hml hv
  obtain ⟨rfl, hsz, hP, hK, hD0⟩ := hv
  have hx := B.exec
  have hb := B.bytes
  have hr := B.returns
  have hts := atoms_spec (ws := wsX3_logWaiting) B.pre
  have hown : st.vm.findClass RX3 = some m.cls := findClass_of_methodNamed B.named
  have hlocks := B.notSynchronized
  have in3 : ∀ w ∈ u_ws RX3 TX3 15, w ∈ wsX3_logWaiting := by decide +kernel
  have k20 := hts (.fieldLink RX3 20 "TwinWrites" "log" "[LTwinWrites$Change;") (by decide +kernel)
  have k50 := hts (.fieldLink RX3 50 "TwinWrites" "waiting" "[LTwinWrites$Change;") (by decide +kernel)
  have k53 := hts (.fieldLink RX3 53 "TwinWrites" "waitingCount" "I") (by decide +kernel)
  have k56 := hts (.fieldLink RX3 56 "TwinWrites" "nextNumber" "I") (by decide +kernel)
  subst hsz
  have hD := hD0.self (sz := st.heap.size)
  have hA : ∀ q : Nat, st.heap.size ≤ q → va_A ((kk_W cy ad xr) σ) st.heap.size q := fun q h => Or.inr h
  have hS : va_S (va_A ((kk_W cy ad xr) σ) st.heap.size) st.heap st.heap [] := va_S.rf
  generalize va_A ((kk_W cy ad xr) σ) st.heap.size = A at hD hA hS ⊢
  have hl := lv_entry ([.ref (ad 0)]) (n := 5) (Nat.le_of_ble_eq_true rfl)
  rw [lg_entry_eq]
  generalize (lg_sl ([.ref (ad 0)]) ++ List.replicate (5 - (lg_sl ([.ref (ad 0)])).length) Slot.unset).toArray = ls at hl ⊢
  have hl : lv_has ls 5 [(0, .ref (ad 0))] := hl
  refine lv_aload_n hx hb dX3_logWaiting_0 rfl (lv_at hl 0 rfl) ?_
  refine va_get (D := D) (ci := 3) (v := .int (σ 0 11)) (C := RX3) (T := TX3) (N := 15) hx hb hts in3 hown hK hP 0 (me_get (by omega) (kk_0 cy ad _)) rfl 11 (by decide) k53 (fun _ h9 => h9) rfl dX3_logWaiting_1 ?_
  have b1 := me_inb hI.2.2.1
  refine me_top (me_ine hI.2.2.1) ?_
  refine lv_istore_n (lv' := [(1, .int (nI ((σ 0 11).toNatClampNeg))), (0, .ref (ad 0))]) hx hb dX3_logWaiting_4 rfl hl (by decide) rfl (fun ls hl => ?_)
  refine lv_aload_n hx hb dX3_logWaiting_5 rfl (lv_at hl 1 rfl) ?_
  refine va_get (D := D) (ci := 3) (v := .int (σ 0 12)) (C := RX3) (T := TX3) (N := 15) hx hb hts in3 hown hK hP 0 (me_get (by omega) (kk_0 cy ad _)) rfl 12 (by decide) k56 (fun _ h9 => h9) rfl dX3_logWaiting_6 ?_
  have b6 := me_inb hI.2.2.2.1
  have b7 := hI.2.2.2.2.1
  refine me_top (me_ine hI.2.2.2.1) ?_
  refine lv_istore_n (lv' := [(2, .int (nI ((σ 0 12).toNatClampNeg))), (1, .int (nI ((σ 0 11).toNatClampNeg))), (0, .ref (ad 0))]) hx hb dX3_logWaiting_9 rfl hl (by decide) rfl (fun ls hl => ?_)
  refine lv_iload_n hx hb dX3_logWaiting_10 rfl (lv_at hl 0 rfl) ?_
  refine lv_iload_n hx hb dX3_logWaiting_11 rfl (lv_at hl 1 rfl) ?_
  refine lv_isub hx hb dX3_logWaiting_12 ?_
  refine me_top (pk_sub (by omega)) ?_
  refine lv_istore_n (lv' := [(3, .int (nI (((σ 0 12).toNatClampNeg) - ((σ 0 11).toNatClampNeg)))), (2, .int (nI ((σ 0 12).toNatClampNeg))), (1, .int (nI ((σ 0 11).toNatClampNeg))), (0, .ref (ad 0))]) hx hb dX3_logWaiting_13 rfl hl (by decide) rfl (fun ls hl => ?_)
  have J14 : ∀ (n : Nat) (w : Nat) (u : Nat) (i : Nat) (s : me_M) (H : Heap) (locs : List Loc) (hP : va_P D vwCl ((kk_W cy ad xr) s) H) (hD : va_D A ((kk_W cy ad xr) s)) (hS : va_S A st.heap H locs) (ls : Array Slot) (hl : lv_has ls 5 [(3, .int (nI i)), (2, .int (nI u)), (1, .int (nI w)), (0, .ref (ad 0))]), ∀ (hw : w < 100000), ∀ (hu : u < 100000), ∀ (hi : i ≤ u), ∀ (hn : u + 1 ≤ i + n), k_lw  σ = k_lw_14 n  w u i s → W p l e (headSpec wsX3_logWaiting ({ frames := 2, cells := 0, slots := 0, locals := 45 })).room st m ([.ref (ad 0)] : List Value).toArray below meth c H locs 0 0 (MQ below (va_Qi (fun r σ' => (r, σ') = k_lw  σ) (me_B D (me_T cy) A (kk_W cy ad xr)) A) ([.ref (ad 0)] : List Value).toArray st 0 0 A) (F0 m 14 ls []) := by
    intro n
    induction n with
    | zero => intro w u i s H locs hP hD hS ls hl hw hu hi hn hf14; exfalso; omega
    | succ n ih =>
      intro w u i s H locs hP hD hS ls hl hw hu hi hn hf14
      refine lv_iload_n hx hb dX3_logWaiting_14 rfl (lv_at hl 0 rfl) ?_
      refine lv_iload_n hx hb dX3_logWaiting_15 rfl (lv_at hl 1 rfl) ?_
      refine lv_icmp_ge (tgt := 60) hx hb dX3_logWaiting_16 (by decide) (fun c16 => ?_) (fun c16 => ?_)
      ·
        try have h16 := (nI_leI (by omega) (by omega)).mp c16
        refine lv_aload_n hx hb dX3_logWaiting_60 rfl (lv_at hl 3 rfl) ?_
        refine lv_iconst (v := nI 0) hx hb dX3_logWaiting_61 (by decide) ?_
        refine me_put (ty := .int) (ci := 3) (C := RX3) (T := TX3) (M := 15) hx hb hts in3 tyX3 tyX3_ok nmX3 hown hK hP hD hS 0 (by omega) (kk_0 cy ad _) rfl 11 (by decide) k53 (fun _ h9 => h9) rfl (by decide +kernel) rfl rfl (Nat.le_of_ble_eq_true rfl) (kk_0 cy ad _) dX3_logWaiting_62 (fun s62 H locs e62 hP hD hS => ?_)
        refine lv_iload_n hx hb dX3_logWaiting_65 rfl (lv_at hl 2 rfl) ?_
        exact me_reti hx hb hr rfl hlocks hK hP hD hS (by rw [hf14]; simp only [k_lw_14, if_pos c16, e62]) dX3_logWaiting_66
      ·
        try have h16 := (not_congr (nI_leI (by omega) (by omega))).mp c16
        refine lv_aload_n hx hb dX3_logWaiting_19 rfl (lv_at hl 3 rfl) ?_
        refine me_calli (f := k_ph s) (w := (kk_W cy ad xr)) (σ := s) (As := []) (rest := []) ⟨hx, hb, hml, hown, hts⟩ (fun sz => c_X3_powerHolds l D cy ad xr  s  sz) (cwV 0 hts gX3_logWaiting_X3_powerHolds rfl rfl rfl (by decide +kernel) ⟨Nat.le_of_ble_eq_true rfl, Nat.le_of_ble_eq_true rfl⟩) (va_recv hK hP (ci := 3) (q0 := 0) rfl (me_get (by omega) (kk_0 cy ad _))) hK hP hD hS hA rfl hl.1 rfl (Nat.le_of_ble_eq_true rfl) dX3_logWaiting_20 ⟨Nat.zero_le _, Nat.zero_le _⟩ (fun r20 s20 H locs e20 hP hD hS => ?_)
        refine lv_if_ne (tgt := 29) hx hb dX3_logWaiting_23 (by decide) (fun c23 => ?_) (fun c23 => ?_)
        ·
          refine lv_iload_n hx hb dX3_logWaiting_29 rfl (lv_at hl 0 rfl) ?_
          refine lv_bipush (v := nI 12) hx hb dX3_logWaiting_30 (by decide) ?_
          refine me_calls (As := [.int (nI i), .int (nI 12)]) (rest := []) ⟨hx, hb, hml, hown, hts⟩ (c_J9_floorMod_7cf53 l (nI i) (nI 12) (by decide)) (va_cwS 2 hts gX3_logWaiting_J9_floorMod_7cf53 rfl rfl rfl (by decide +kernel) ⟨Nat.le_of_ble_eq_true rfl, Nat.le_of_ble_eq_true rfl⟩) rfl hl.1 rfl (Nat.le_of_ble_eq_true rfl) dX3_logWaiting_32 ⟨Nat.zero_le _, Nat.zero_le _⟩ ?_
          refine me_top (pu_fm (by omega)) ?_
          refine lv_istore (lv' := [(4, .int (nI (i % 12))), (3, .int (nI i)), (2, .int (nI u)), (1, .int (nI w)), (0, .ref (ad 0))]) hx hb dX3_logWaiting_35 hl (by decide) rfl (fun ls hl => ?_)
          refine lv_aload_n hx hb dX3_logWaiting_37 rfl (lv_at hl 4 rfl) ?_
          refine va_get (D := D) (ci := 3) (v := .ref (ad 3)) (C := RX3) (T := TX3) (N := 15) hx hb hts in3 hown hK hP 0 (me_get (by omega) (kk_0 cy ad _)) rfl 2 (by decide) k20 (fun _ h9 => h9) rfl dX3_logWaiting_38 ?_
          refine lv_iload hx hb dX3_logWaiting_41 (lv_at hl 0 rfl) ?_
          refine me_aald (g := fun j => ad (70 + 2 * j)) hx hb hK hP 3 4 (by omega) (fun f => kk_a3 cy ad f) rfl (i % 12) rfl (by omega) (by decide) dX3_logWaiting_43 ?_
          refine lv_aload_n hx hb dX3_logWaiting_44 rfl (lv_at hl 4 rfl) ?_
          refine va_get (D := D) (ci := 3) (v := .ref (ad 5)) (C := RX3) (T := TX3) (N := 15) hx hb hts in3 hown hK hP 0 (me_get (by omega) (kk_0 cy ad _)) rfl 10 (by decide) k50 (fun _ h9 => h9) rfl dX3_logWaiting_45 ?_
          refine lv_iload hx hb dX3_logWaiting_48 (lv_at hl 0 rfl) ?_
          refine me_aald (g := fun j => ad (70 + 2 * j + 1)) hx hb hK hP 5 4 (by omega) (fun f => kk_a5 cy ad f) rfl (i % 12) rfl (by omega) (by decide) dX3_logWaiting_50 ?_
          refine me_callv (f := k_copy (70 + 2 * (i % 12)) (70 + 2 * (i % 12) + 1) s20) (w := (kk_W cy ad xr)) (σ := s20) (As := [.ref (ad (70 + 2 * (i % 12) + 1))]) (rest := []) ⟨hx, hb, hml, hown, hts⟩ (fun sz => c_X0_copy l D cy ad xr (70 + 2 * (i % 12)) (70 + 2 * (i % 12) + 1) s20 (by omega) (by omega) sz) (cwV 1 hts gX3_logWaiting_X0_copy rfl rfl rfl (by decide +kernel) ⟨Nat.le_of_ble_eq_true rfl, Nat.le_of_ble_eq_true rfl⟩) (va_recv hK hP (ci := 0) (q0 := (70 + 2 * (i % 12))) rfl (me_get (by omega) (kk_ch cy ad (by omega) _))) hK hP hD hS hA rfl hl.1 rfl (Nat.le_of_ble_eq_true rfl) dX3_logWaiting_51 ⟨Nat.zero_le _, Nat.zero_le _⟩ (fun s51 H locs e51 hP hD hS => ?_)
          refine lv_iinc (v := nI (i + 1)) (lv' := [(3, .int (nI (i + 1))), (4, .int (nI (i % 12))), (2, .int (nI u)), (1, .int (nI w)), (0, .ref (ad 0))]) hx hb dX3_logWaiting_54 hl (k := 1) rfl (me_inc _) (by decide) rfl (fun ls hl => ?_)
          refine lv_goto (tgt := 14) hx hb dX3_logWaiting_57 (by decide) ?_
          exact ih w u (i + 1) s51 _ _ hP hD hS ls (lv_sub hl [0, 2, 3, 4] rfl) (by omega) (by omega) (by omega) (by omega) (by rw [hf14]; simp only [k_lw_14, if_neg c16, e20, if_neg c23, e51])
        ·
          refine lv_bipush (v := (-3)) hx hb dX3_logWaiting_26 (by decide) ?_
          exact me_reti hx hb hr rfl hlocks hK hP hD hS (by rw [hf14]; simp only [k_lw_14, if_neg c16, e20, if_pos c23]) dX3_logWaiting_28
  exact J14 ((σ 0 11).toNatClampNeg + 1) ((σ 0 11).toNatClampNeg) ((σ 0 12).toNatClampNeg) (((σ 0 12).toNatClampNeg) - ((σ 0 11).toNatClampNeg)) σ _ _ hP hD hS ls (lv_sub hl [0, 1, 2, 3] rfl) (by omega) (by omega) (by omega) (by omega) (by simp only [k_lw])
end
section
def k_fo_2 : Nat → Int32 → Nat → me_M → Int32
  | 0, x, i, s => 0
  | n + 1, x, i, s => if nI 4 ≤ (nI i) then ((-1)) else (if (s (94 + 2 * i) 1) = x then (nI i) else (k_fo_2 n x (i + 1) s))
def k_fo (x : Int32) (σ : me_M) : Int32 := k_fo_2 5 x 0 σ
set_option maxRecDepth 100000 in
set_option maxHeartbeats 4000000 in
theorem c_X3_frameOf (l : Launch) (D : va_G) (cy : Nat → ClassId) (ad : Nat → Nat) (xr : va_W) (x : Int32) (σ : me_M)  (sz : Nat) : me_Ci l yX3_frameOf wsX3_frameOf ({ frames := 0, cells := 0, slots := 0, locals := 0 }) D (me_T cy) (kk_W cy ad xr) [.ref (ad 0), .int x] sz σ (k_fo x σ, σ) := by
  refine Met.ofW (cc := cX3_frameOf) (maxL := 3) (ret := (some .int)) (by decide) rfl ?_
  intro p e st m args below meth c s₁ B hml hv
  obtain ⟨rfl, hsz, hP, hK, hD0⟩ := hv
  have hx := B.exec
  have hb := B.bytes
  have hr := B.returns
  have hts := atoms_spec (ws := wsX3_frameOf) B.pre
  have hown : st.vm.findClass RX3 = some m.cls := findClass_of_methodNamed B.named
  have hlocks := B.notSynchronized
  have in1 : ∀ w ∈ u_ws RX1 TX1 5, w ∈ wsX3_frameOf := by decide +kernel
  have in3 : ∀ w ∈ u_ws RX3 TX3 15, w ∈ wsX3_frameOf := by decide +kernel
  have k46 := hts (.fieldLink RX3 46 "TwinWrites" "frames" "[LTwinWrites$Frame;") (by decide +kernel)
  have k177 := hts (.fieldLink RX3 177 "TwinWrites$Frame" "page" "I") (by decide +kernel)
  subst hsz
  have hD := hD0.self (sz := st.heap.size)
  have hA : ∀ q : Nat, st.heap.size ≤ q → va_A ((kk_W cy ad xr) σ) st.heap.size q := fun q h => Or.inr h
  have hS : va_S (va_A ((kk_W cy ad xr) σ) st.heap.size) st.heap st.heap [] := va_S.rf
  generalize va_A ((kk_W cy ad xr) σ) st.heap.size = A at hD hA hS ⊢
  have hl := lv_entry ([.ref (ad 0), .int x]) (n := 3) (Nat.le_of_ble_eq_true rfl)
  rw [lg_entry_eq]
  generalize (lg_sl ([.ref (ad 0), .int x]) ++ List.replicate (3 - (lg_sl ([.ref (ad 0), .int x])).length) Slot.unset).toArray = ls at hl ⊢
  have hl : lv_has ls 3 [(0, .ref (ad 0)), (1, .int x)] := hl
  refine lv_iconst (v := nI 0) hx hb dX3_frameOf_0 (by decide) ?_
  refine lv_istore_n (lv' := [(2, .int (nI 0)), (0, .ref (ad 0)), (1, .int x)]) hx hb dX3_frameOf_1 rfl hl (by decide) rfl (fun ls hl => ?_)
  have J2 : ∀ (n : Nat) (i : Nat) (H : Heap) (locs : List Loc) (hP : va_P D vwCl ((kk_W cy ad xr) σ) H) (hD : va_D A ((kk_W cy ad xr) σ)) (hS : va_S A st.heap H locs) (ls : Array Slot) (hl : lv_has ls 3 [(2, .int (nI i)), (0, .ref (ad 0)), (1, .int x)]), ∀ (hi : i ≤ 4), ∀ (hn : 5 ≤ i + n), k_fo x σ = k_fo_2 n x i σ → W p l e (headSpec wsX3_frameOf ({ frames := 0, cells := 0, slots := 0, locals := 0 })).room st m ([.ref (ad 0), .int x] : List Value).toArray below meth c H locs 0 0 (MQ below (va_Qi (fun r σ' => (r, σ') = (k_fo x σ, σ)) (me_B D (me_T cy) A (kk_W cy ad xr)) A) ([.ref (ad 0), .int x] : List Value).toArray st 0 0 A) (F0 m 2 ls []) := by
    intro n
    induction n with
    | zero => intro i H locs hP hD hS ls hl hi hn hf2; exfalso; omega
    | succ n ih =>
      intro i H locs hP hD hS ls hl hi hn hf2
      refine lv_iload_n hx hb dX3_frameOf_2 rfl (lv_at hl 0 rfl) ?_
      refine lv_iconst (v := nI 4) hx hb dX3_frameOf_3 (by decide) ?_
      refine lv_icmp_ge (tgt := 28) hx hb dX3_frameOf_4 (by decide) (fun c4 => ?_) (fun c4 => ?_)
      ·
        try have h4 := (nI_leI (by omega) (by omega)).mp c4
        refine lv_iconst (v := (-1)) hx hb dX3_frameOf_28 (by decide) ?_
        exact me_retr hx hb hr rfl hlocks hK hP hD hS (by rw [hf2]; simp only [k_fo_2, if_pos c4]) dX3_frameOf_29
      ·
        try have h4 := (not_congr (nI_leI (by omega) (by omega))).mp c4
        refine lv_aload_n hx hb dX3_frameOf_7 rfl (lv_at hl 1 rfl) ?_
        refine va_get (D := D) (ci := 3) (v := .ref (ad 4)) (C := RX3) (T := TX3) (N := 15) hx hb hts in3 hown hK hP 0 (me_get (by omega) (kk_0 cy ad _)) rfl 9 (by decide) k46 (fun _ h9 => h9) rfl dX3_frameOf_8 ?_
        refine lv_iload_n hx hb dX3_frameOf_11 rfl (lv_at hl 0 rfl) ?_
        refine me_aald (g := fun j => ad (94 + 2 * j)) hx hb hK hP 4 5 (by omega) (fun f => kk_a4 cy ad f) rfl i rfl (by omega) (by decide) dX3_frameOf_12 ?_
        refine va_get (D := D) (ci := 1) (v := .int (σ (94 + 2 * i) 1)) (C := RX1) (T := TX1) (N := 5) hx hb hts in1 hown hK hP (94 + 2 * i) (me_get (by omega) (kk_fr cy ad (by omega) _)) rfl 1 (by decide) k177 (fun _ h9 => h9) rfl dX3_frameOf_13 ?_
        refine lv_iload_n hx hb dX3_frameOf_16 rfl (lv_at hl 2 rfl) ?_
        refine lv_icmp_ne (tgt := 22) hx hb dX3_frameOf_17 (by decide) (fun c17 => ?_) (fun c17 => ?_)
        ·
          refine lv_iinc (v := nI (i + 1)) (lv' := [(2, .int (nI (i + 1))), (0, .ref (ad 0)), (1, .int x)]) hx hb dX3_frameOf_22 hl (k := 0) rfl (me_inc _) (by decide) rfl (fun ls hl => ?_)
          refine lv_goto (tgt := 2) hx hb dX3_frameOf_25 (by decide) ?_
          exact ih (i + 1) _ _ hP hD hS ls (lv_sub hl [0, 1, 2] rfl) (by omega) (by omega) (by rw [hf2]; simp only [k_fo_2, if_neg c4, if_neg c17])
        ·
          refine lv_iload_n hx hb dX3_frameOf_20 rfl (lv_at hl 0 rfl) ?_
          exact me_retr hx hb hr rfl hlocks hK hP hD hS (by rw [hf2]; simp only [k_fo_2, if_neg c4, if_pos c17]) dX3_frameOf_21
  exact J2 5 0 _ _ hP hD hS ls (lv_sub hl [0, 1, 2] rfl) (by omega) (by omega) (by simp only [k_fo])

def k_ff_4 : Nat → Nat → Nat → me_M → Int32
  | 0, v, i, s => 0
  | n + 1, v, i, s => if nI 4 ≤ (nI i) then (nI v) else (if s (94 + 2 * v) 4 ≤ (s (94 + 2 * i) 4) then (k_ff_4 n  v (i + 1) s) else (k_ff_4 n  i (i + 1) s))
def k_ff  (σ : me_M) : Int32 := k_ff_4 4  0 1 σ
set_option maxRecDepth 100000 in
set_option maxHeartbeats 4000000 in
theorem c_X3_frameToFill (l : Launch) (D : va_G) (cy : Nat → ClassId) (ad : Nat → Nat) (xr : va_W)  (σ : me_M)  (sz : Nat) : me_Ci l yX3_frameToFill wsX3_frameToFill ({ frames := 0, cells := 0, slots := 0, locals := 0 }) D (me_T cy) (kk_W cy ad xr) [.ref (ad 0)] sz σ (k_ff  σ, σ) := by
  refine Met.ofW (cc := cX3_frameToFill) (maxL := 3) (ret := (some .int)) (by decide) rfl ?_
  intro p e st m args below meth c s₁ B hml hv
  obtain ⟨rfl, hsz, hP, hK, hD0⟩ := hv
  have hx := B.exec
  have hb := B.bytes
  have hr := B.returns
  have hts := atoms_spec (ws := wsX3_frameToFill) B.pre
  have hown : st.vm.findClass RX3 = some m.cls := findClass_of_methodNamed B.named
  have hlocks := B.notSynchronized
  have in1 : ∀ w ∈ u_ws RX1 TX1 5, w ∈ wsX3_frameToFill := by decide +kernel
  have in3 : ∀ w ∈ u_ws RX3 TX3 15, w ∈ wsX3_frameToFill := by decide +kernel
  have k46 := hts (.fieldLink RX3 46 "TwinWrites" "frames" "[LTwinWrites$Frame;") (by decide +kernel)
  have k203 := hts (.fieldLink RX3 203 "TwinWrites$Frame" "asked" "I") (by decide +kernel)
  subst hsz
  have hD := hD0.self (sz := st.heap.size)
  have hA : ∀ q : Nat, st.heap.size ≤ q → va_A ((kk_W cy ad xr) σ) st.heap.size q := fun q h => Or.inr h
  have hS : va_S (va_A ((kk_W cy ad xr) σ) st.heap.size) st.heap st.heap [] := va_S.rf
  generalize va_A ((kk_W cy ad xr) σ) st.heap.size = A at hD hA hS ⊢
  have hl := lv_entry ([.ref (ad 0)]) (n := 3) (Nat.le_of_ble_eq_true rfl)
  rw [lg_entry_eq]
  generalize (lg_sl ([.ref (ad 0)]) ++ List.replicate (3 - (lg_sl ([.ref (ad 0)])).length) Slot.unset).toArray = ls at hl ⊢
  have hl : lv_has ls 3 [(0, .ref (ad 0))] := hl
  refine lv_iconst (v := nI 0) hx hb dX3_frameToFill_0 (by decide) ?_
  refine lv_istore_n (lv' := [(1, .int (nI 0)), (0, .ref (ad 0))]) hx hb dX3_frameToFill_1 rfl hl (by decide) rfl (fun ls hl => ?_)
  refine lv_iconst (v := nI 1) hx hb dX3_frameToFill_2 (by decide) ?_
  refine lv_istore_n (lv' := [(2, .int (nI 1)), (1, .int (nI 0)), (0, .ref (ad 0))]) hx hb dX3_frameToFill_3 rfl hl (by decide) rfl (fun ls hl => ?_)
  have J4 : ∀ (n : Nat) (v : Nat) (i : Nat) (H : Heap) (locs : List Loc) (hP : va_P D vwCl ((kk_W cy ad xr) σ) H) (hD : va_D A ((kk_W cy ad xr) σ)) (hS : va_S A st.heap H locs) (ls : Array Slot) (hl : lv_has ls 3 [(2, .int (nI i)), (1, .int (nI v)), (0, .ref (ad 0))]), ∀ (hv : v < 4), ∀ (hi : 1 ≤ i ∧ i ≤ 4), ∀ (hn : 5 ≤ i + n), k_ff  σ = k_ff_4 n  v i σ → W p l e (headSpec wsX3_frameToFill ({ frames := 0, cells := 0, slots := 0, locals := 0 })).room st m ([.ref (ad 0)] : List Value).toArray below meth c H locs 0 0 (MQ below (va_Qi (fun r σ' => (r, σ') = (k_ff  σ, σ)) (me_B D (me_T cy) A (kk_W cy ad xr)) A) ([.ref (ad 0)] : List Value).toArray st 0 0 A) (F0 m 4 ls []) := by
    intro n
    induction n with
    | zero => intro v i H locs hP hD hS ls hl hv hi hn hf4; exfalso; omega
    | succ n ih =>
      intro v i H locs hP hD hS ls hl hv hi hn hf4
      refine lv_iload_n hx hb dX3_frameToFill_4 rfl (lv_at hl 0 rfl) ?_
      refine lv_iconst (v := nI 4) hx hb dX3_frameToFill_5 (by decide) ?_
      refine lv_icmp_ge (tgt := 38) hx hb dX3_frameToFill_6 (by decide) (fun c6 => ?_) (fun c6 => ?_)
      ·
        try have h6 := (nI_leI (by omega) (by omega)).mp c6
        refine lv_iload_n hx hb dX3_frameToFill_38 rfl (lv_at hl 1 rfl) ?_
        exact me_retr hx hb hr rfl hlocks hK hP hD hS (by rw [hf4]; simp only [k_ff_4, if_pos c6]) dX3_frameToFill_39
      ·
        try have h6 := (not_congr (nI_leI (by omega) (by omega))).mp c6
        refine lv_aload_n hx hb dX3_frameToFill_9 rfl (lv_at hl 2 rfl) ?_
        refine va_get (D := D) (ci := 3) (v := .ref (ad 4)) (C := RX3) (T := TX3) (N := 15) hx hb hts in3 hown hK hP 0 (me_get (by omega) (kk_0 cy ad _)) rfl 9 (by decide) k46 (fun _ h9 => h9) rfl dX3_frameToFill_10 ?_
        refine lv_iload_n hx hb dX3_frameToFill_13 rfl (lv_at hl 0 rfl) ?_
        refine me_aald (g := fun j => ad (94 + 2 * j)) hx hb hK hP 4 5 (by omega) (fun f => kk_a4 cy ad f) rfl i rfl (by omega) (by decide) dX3_frameToFill_14 ?_
        refine va_get (D := D) (ci := 1) (v := .int (σ (94 + 2 * i) 4)) (C := RX1) (T := TX1) (N := 5) hx hb hts in1 hown hK hP (94 + 2 * i) (me_get (by omega) (kk_fr cy ad (by omega) _)) rfl 4 (by decide) k203 (fun _ h9 => h9) rfl dX3_frameToFill_15 ?_
        refine lv_aload_n hx hb dX3_frameToFill_18 rfl (lv_at hl 2 rfl) ?_
        refine va_get (D := D) (ci := 3) (v := .ref (ad 4)) (C := RX3) (T := TX3) (N := 15) hx hb hts in3 hown hK hP 0 (me_get (by omega) (kk_0 cy ad _)) rfl 9 (by decide) k46 (fun _ h9 => h9) rfl dX3_frameToFill_19 ?_
        refine lv_iload_n hx hb dX3_frameToFill_22 rfl (lv_at hl 1 rfl) ?_
        refine me_aald (g := fun j => ad (94 + 2 * j)) hx hb hK hP 4 5 (by omega) (fun f => kk_a4 cy ad f) rfl v rfl (by omega) (by decide) dX3_frameToFill_23 ?_
        refine va_get (D := D) (ci := 1) (v := .int (σ (94 + 2 * v) 4)) (C := RX1) (T := TX1) (N := 5) hx hb hts in1 hown hK hP (94 + 2 * v) (me_get (by omega) (kk_fr cy ad (by omega) _)) rfl 4 (by decide) k203 (fun _ h9 => h9) rfl dX3_frameToFill_24 ?_
        refine lv_icmp_ge (tgt := 32) hx hb dX3_frameToFill_27 (by decide) (fun c27 => ?_) (fun c27 => ?_)
        ·
          refine lv_iinc (v := nI (i + 1)) (lv' := [(2, .int (nI (i + 1))), (1, .int (nI v)), (0, .ref (ad 0))]) hx hb dX3_frameToFill_32 hl (k := 0) rfl (me_inc _) (by decide) rfl (fun ls hl => ?_)
          refine lv_goto (tgt := 4) hx hb dX3_frameToFill_35 (by decide) ?_
          exact ih v (i + 1) _ _ hP hD hS ls (lv_sub hl [0, 1, 2] rfl) (by omega) (by omega) (by omega) (by rw [hf4]; simp only [k_ff_4, if_neg c6, if_pos c27])
        ·
          refine lv_iload_n hx hb dX3_frameToFill_30 rfl (lv_at hl 0 rfl) ?_
          refine lv_istore_n (lv' := [(1, .int (nI i)), (2, .int (nI i)), (0, .ref (ad 0))]) hx hb dX3_frameToFill_31 rfl hl (by decide) rfl (fun ls hl => ?_)
          refine lv_iinc (v := nI (i + 1)) (lv' := [(2, .int (nI (i + 1))), (1, .int (nI i)), (0, .ref (ad 0))]) hx hb dX3_frameToFill_32 hl (k := 1) rfl (me_inc _) (by decide) rfl (fun ls hl => ?_)
          refine lv_goto (tgt := 4) hx hb dX3_frameToFill_35 (by decide) ?_
          exact ih i (i + 1) _ _ hP hD hS ls (lv_sub hl [0, 1, 2] rfl) (by omega) (by omega) (by omega) (by rw [hf4]; simp only [k_ff_4, if_neg c6, if_neg c27])
  exact J4 4 0 1 _ _ hP hD hS ls (lv_sub hl [0, 1, 2] rfl) (by omega) (by omega) (by omega) (by simp only [k_ff])

def k_sm_4 : Nat → Int32 → Int32 → Nat → me_M → Int32
  | 0, x, v, i, s => 0
  | n + 1, x, v, i, s => if nI 4 ≤ (nI i) then (v) else (let r19 := k_whole ((12 + i)) s; if r19 = 0 then (k_sm_4 n x v (i + 1) s) else (if (s (6 + 4 * (12 + i) + 3) 0) = x then (if v = (-1) then (k_sm_4 n x (nI i) (i + 1) s) else (if (s (6 + 4 * (12 + i) + 2) 0) ≤ s (6 + 4 * (12 + v.toNatClampNeg) + 2) 0 then (k_sm_4 n x v (i + 1) s) else (k_sm_4 n x (nI i) (i + 1) s))) else (k_sm_4 n x v (i + 1) s)))
def k_sm (x : Int32) (σ : me_M) : Int32 := k_sm_4 5 x ((-1)) 0 σ
set_option maxRecDepth 100000 in
set_option maxHeartbeats 4000000 in
theorem c_X3_slotToMendFrom (l : Launch) (D : va_G) (cy : Nat → ClassId) (ad : Nat → Nat) (xr : va_W) (x : Int32) (σ : me_M)  (sz : Nat) : me_Ci l yX3_slotToMendFrom wsX3_slotToMendFrom ({ frames := 1, cells := 0, slots := 0, locals := 21 }) D (me_T cy) (kk_W cy ad xr) [.ref (ad 0), .int x] sz σ (k_sm x σ, σ) := by
  refine Met.ofW (cc := cX3_slotToMendFrom) (maxL := 5) (ret := (some .int)) (by decide) rfl ?_
  intro p e st m args below meth c s₁ B hml hv
  obtain ⟨rfl, hsz, hP, hK, hD0⟩ := hv
  have hx := B.exec
  have hb := B.bytes
  have hr := B.returns
  have hts := atoms_spec (ws := wsX3_slotToMendFrom) B.pre
  have hown : st.vm.findClass RX3 = some m.cls := findClass_of_methodNamed B.named
  have hlocks := B.notSynchronized
  have in2 : ∀ w ∈ u_ws RX2 TX2 3, w ∈ wsX3_slotToMendFrom := by decide +kernel
  have in3 : ∀ w ∈ u_ws RX3 TX3 15, w ∈ wsX3_slotToMendFrom := by decide +kernel
  have k15 := hts (.fieldLink RX3 15 "TwinWrites" "slots" "[LTwinWrites$Place;") (by decide +kernel)
  have k220 := hts (.fieldLink RX3 220 "TwinWrites$Place" "stamps" "[I") (by decide +kernel)
  have k224 := hts (.fieldLink RX3 224 "TwinWrites$Place" "pages" "[I") (by decide +kernel)
  subst hsz
  have hD := hD0.self (sz := st.heap.size)
  have hA : ∀ q : Nat, st.heap.size ≤ q → va_A ((kk_W cy ad xr) σ) st.heap.size q := fun q h => Or.inr h
  have hS : va_S (va_A ((kk_W cy ad xr) σ) st.heap.size) st.heap st.heap [] := va_S.rf
  generalize va_A ((kk_W cy ad xr) σ) st.heap.size = A at hD hA hS ⊢
  have hl := lv_entry ([.ref (ad 0), .int x]) (n := 5) (Nat.le_of_ble_eq_true rfl)
  rw [lg_entry_eq]
  generalize (lg_sl ([.ref (ad 0), .int x]) ++ List.replicate (5 - (lg_sl ([.ref (ad 0), .int x])).length) Slot.unset).toArray = ls at hl ⊢
  have hl : lv_has ls 5 [(0, .ref (ad 0)), (1, .int x)] := hl
  refine lv_iconst (v := (-1)) hx hb dX3_slotToMendFrom_0 (by decide) ?_
  refine lv_istore_n (lv' := [(2, .int ((-1))), (0, .ref (ad 0)), (1, .int x)]) hx hb dX3_slotToMendFrom_1 rfl hl (by decide) rfl (fun ls hl => ?_)
  refine lv_iconst (v := nI 0) hx hb dX3_slotToMendFrom_2 (by decide) ?_
  refine lv_istore_n (lv' := [(3, .int (nI 0)), (2, .int ((-1))), (0, .ref (ad 0)), (1, .int x)]) hx hb dX3_slotToMendFrom_3 rfl hl (by decide) rfl (fun ls hl => ?_)
  have J4 : ∀ (n : Nat) (v : Int32) (i : Nat) (H : Heap) (locs : List Loc) (hP : va_P D vwCl ((kk_W cy ad xr) σ) H) (hD : va_D A ((kk_W cy ad xr) σ)) (hS : va_S A st.heap H locs) (ls : Array Slot) (hl : lv_has ls 5 [(3, .int (nI i)), (2, .int v), (0, .ref (ad 0)), (1, .int x)]), ∀ (hv : v = (-1) ∨ vp_in v 4), ∀ (hi : i ≤ 4), ∀ (hn : 5 ≤ i + n), k_sm x σ = k_sm_4 n x v i σ → W p l e (headSpec wsX3_slotToMendFrom ({ frames := 1, cells := 0, slots := 0, locals := 21 })).room st m ([.ref (ad 0), .int x] : List Value).toArray below meth c H locs 0 0 (MQ below (va_Qi (fun r σ' => (r, σ') = (k_sm x σ, σ)) (me_B D (me_T cy) A (kk_W cy ad xr)) A) ([.ref (ad 0), .int x] : List Value).toArray st 0 0 A) (F0 m 4 ls []) := by
    intro n
    induction n with
    | zero => intro v i H locs hP hD hS ls hl hv hi hn hf4; exfalso; omega
    | succ n ih =>
      intro v i H locs hP hD hS ls hl hv hi hn hf4
      refine lv_iload_n hx hb dX3_slotToMendFrom_4 rfl (lv_at hl 0 rfl) ?_
      refine lv_iconst (v := nI 4) hx hb dX3_slotToMendFrom_5 (by decide) ?_
      refine lv_icmp_ge (tgt := 70) hx hb dX3_slotToMendFrom_6 (by decide) (fun c6 => ?_) (fun c6 => ?_)
      ·
        try have h6 := (nI_leI (by omega) (by omega)).mp c6
        refine lv_iload_n hx hb dX3_slotToMendFrom_70 rfl (lv_at hl 1 rfl) ?_
        exact me_retr hx hb hr rfl hlocks hK hP hD hS (by rw [hf4]; simp only [k_sm_4, if_pos c6]) dX3_slotToMendFrom_71
      ·
        try have h6 := (not_congr (nI_leI (by omega) (by omega))).mp c6
        refine lv_aload_n hx hb dX3_slotToMendFrom_9 rfl (lv_at hl 2 rfl) ?_
        refine va_get (D := D) (ci := 3) (v := .ref (ad 2)) (C := RX3) (T := TX3) (N := 15) hx hb hts in3 hown hK hP 0 (me_get (by omega) (kk_0 cy ad _)) rfl 1 (by decide) k15 (fun _ h9 => h9) rfl dX3_slotToMendFrom_10 ?_
        refine lv_iload_n hx hb dX3_slotToMendFrom_13 rfl (lv_at hl 0 rfl) ?_
        refine me_aald (g := fun j => ad (6 + 4 * (12 + j))) hx hb hK hP 2 3 (by omega) (fun f => kk_a2 cy ad f) rfl i rfl (by omega) (by decide) dX3_slotToMendFrom_14 ?_
        refine lv_astore (lv' := [(4, .ref (ad (6 + 4 * (12 + i)))), (3, .int (nI i)), (2, .int v), (0, .ref (ad 0)), (1, .int x)]) hx hb dX3_slotToMendFrom_15 hl (by decide) rfl (fun ls hl => ?_)
        refine lv_aload hx hb dX3_slotToMendFrom_17 (lv_at hl 0 rfl) ?_
        refine me_callr (f := k_whole ((12 + i)) σ) (w := (kk_W cy ad xr)) (σ := σ) (As := []) (rest := []) ⟨hx, hb, hml, hown, hts⟩ (fun sz => c_X2_isWhole l D cy ad xr ((12 + i)) σ (by omega) sz) (cwV 0 hts gX3_slotToMendFrom_X2_isWhole rfl rfl rfl (by decide +kernel) ⟨Nat.le_of_ble_eq_true rfl, Nat.le_of_ble_eq_true rfl⟩) (va_recv hK hP (ci := 2) (q0 := (6 + 4 * (12 + i))) rfl (me_get (by omega) (kk_pl cy ad (by omega) _))) hK hP hD hS hA rfl hl.1 rfl (Nat.le_of_ble_eq_true rfl) dX3_slotToMendFrom_19 ⟨Nat.zero_le _, Nat.zero_le _⟩ (fun r19 H locs e19 hP hD hS => ?_)
        refine lv_if_eq (tgt := 64) hx hb dX3_slotToMendFrom_22 (by decide) (fun c22 => ?_) (fun c22 => ?_)
        ·
          refine lv_iinc (v := nI (i + 1)) (lv' := [(3, .int (nI (i + 1))), (4, .ref (ad (6 + 4 * (12 + i)))), (2, .int v), (0, .ref (ad 0)), (1, .int x)]) hx hb dX3_slotToMendFrom_64 hl (k := 1) rfl (me_inc _) (by decide) rfl (fun ls hl => ?_)
          refine lv_goto (tgt := 4) hx hb dX3_slotToMendFrom_67 (by decide) ?_
          exact ih v (i + 1) _ _ hP hD hS ls (lv_sub hl [0, 2, 3, 4] rfl) (by first | exact hv | exact Or.inr (vp_in_nI (by omega) (by decide))) (by omega) (by omega) (by rw [hf4]; simp only [k_sm_4, if_neg c6, e19, if_pos c22])
        ·
          refine lv_aload hx hb dX3_slotToMendFrom_25 (lv_at hl 0 rfl) ?_
          refine va_get (D := D) (ci := 2) (v := .ref (ad (6 + 4 * (12 + i) + 3))) (C := RX2) (T := TX2) (N := 3) hx hb hts in2 hown hK hP (6 + 4 * (12 + i)) (me_get (by omega) (kk_pl cy ad (by omega) _)) rfl 2 (by decide) k224 (fun _ h9 => h9) rfl dX3_slotToMendFrom_27 ?_
          refine lv_iconst (v := nI 0) hx hb dX3_slotToMendFrom_30 (by decide) ?_
          refine me_iald hx hb hK hP (6 + 4 * (12 + i) + 3) 0 (by omega) (fun f => kk_4 cy ad (by omega) f) rfl 0 rfl (by omega) (by decide) dX3_slotToMendFrom_31 ?_
          refine lv_iload_n hx hb dX3_slotToMendFrom_32 rfl (lv_at hl 4 rfl) ?_
          refine lv_icmp_ne (tgt := 64) hx hb dX3_slotToMendFrom_33 (by decide) (fun c33 => ?_) (fun c33 => ?_)
          ·
            refine lv_iinc (v := nI (i + 1)) (lv' := [(3, .int (nI (i + 1))), (4, .ref (ad (6 + 4 * (12 + i)))), (2, .int v), (0, .ref (ad 0)), (1, .int x)]) hx hb dX3_slotToMendFrom_64 hl (k := 1) rfl (me_inc _) (by decide) rfl (fun ls hl => ?_)
            refine lv_goto (tgt := 4) hx hb dX3_slotToMendFrom_67 (by decide) ?_
            exact ih v (i + 1) _ _ hP hD hS ls (lv_sub hl [0, 2, 3, 4] rfl) (by first | exact hv | exact Or.inr (vp_in_nI (by omega) (by decide))) (by omega) (by omega) (by rw [hf4]; simp only [k_sm_4, if_neg c6, e19, if_neg c22, if_neg c33])
          ·
            refine lv_iload_n hx hb dX3_slotToMendFrom_36 rfl (lv_at hl 2 rfl) ?_
            refine lv_iconst (v := (-1)) hx hb dX3_slotToMendFrom_37 (by decide) ?_
            refine lv_icmp_eq (tgt := 62) hx hb dX3_slotToMendFrom_38 (by decide) (fun c38 => ?_) (fun c38 => ?_)
            ·
              refine lv_iload_n hx hb dX3_slotToMendFrom_62 rfl (lv_at hl 1 rfl) ?_
              refine lv_istore_n (lv' := [(2, .int (nI i)), (4, .ref (ad (6 + 4 * (12 + i)))), (3, .int (nI i)), (0, .ref (ad 0)), (1, .int x)]) hx hb dX3_slotToMendFrom_63 rfl hl (by decide) rfl (fun ls hl => ?_)
              refine lv_iinc (v := nI (i + 1)) (lv' := [(3, .int (nI (i + 1))), (2, .int (nI i)), (4, .ref (ad (6 + 4 * (12 + i)))), (0, .ref (ad 0)), (1, .int x)]) hx hb dX3_slotToMendFrom_64 hl (k := 2) rfl (me_inc _) (by decide) rfl (fun ls hl => ?_)
              refine lv_goto (tgt := 4) hx hb dX3_slotToMendFrom_67 (by decide) ?_
              exact ih (nI i) (i + 1) _ _ hP hD hS ls (lv_sub hl [0, 1, 3, 4] rfl) (by first | exact hv | exact Or.inr (vp_in_nI (by omega) (by decide))) (by omega) (by omega) (by rw [hf4]; simp only [k_sm_4, if_neg c6, e19, if_neg c22, if_pos c33, if_pos c38])
            ·
              refine lv_aload hx hb dX3_slotToMendFrom_41 (lv_at hl 0 rfl) ?_
              refine va_get (D := D) (ci := 2) (v := .ref (ad (6 + 4 * (12 + i) + 2))) (C := RX2) (T := TX2) (N := 3) hx hb hts in2 hown hK hP (6 + 4 * (12 + i)) (me_get (by omega) (kk_pl cy ad (by omega) _)) rfl 1 (by decide) k220 (fun _ h9 => h9) rfl dX3_slotToMendFrom_43 ?_
              refine lv_iconst (v := nI 0) hx hb dX3_slotToMendFrom_46 (by decide) ?_
              refine me_iald hx hb hK hP (6 + 4 * (12 + i) + 2) 0 (by omega) (fun f => kk_4 cy ad (by omega) f) rfl 0 rfl (by omega) (by decide) dX3_slotToMendFrom_47 ?_
              refine lv_aload_n hx hb dX3_slotToMendFrom_48 rfl (lv_at hl 3 rfl) ?_
              refine va_get (D := D) (ci := 3) (v := .ref (ad 2)) (C := RX3) (T := TX3) (N := 15) hx hb hts in3 hown hK hP 0 (me_get (by omega) (kk_0 cy ad _)) rfl 1 (by decide) k15 (fun _ h9 => h9) rfl dX3_slotToMendFrom_49 ?_
              refine lv_iload_n hx hb dX3_slotToMendFrom_52 rfl (lv_at hl 2 rfl) ?_
              have v53 : vp_in v 4 := hv.resolve_left c38
              have b53 := me_inb v53
              refine me_aald (g := fun j => ad (6 + 4 * (12 + j))) hx hb hK hP 2 3 (by omega) (fun f => kk_a2 cy ad f) rfl v.toNatClampNeg (me_ine v53) (by omega) (by decide) dX3_slotToMendFrom_53 ?_
              refine va_get (D := D) (ci := 2) (v := .ref (ad (6 + 4 * (12 + v.toNatClampNeg) + 2))) (C := RX2) (T := TX2) (N := 3) hx hb hts in2 hown hK hP (6 + 4 * (12 + v.toNatClampNeg)) (me_get (by omega) (kk_pl cy ad (by omega) _)) rfl 1 (by decide) k220 (fun _ h9 => h9) rfl dX3_slotToMendFrom_54 ?_
              refine lv_iconst (v := nI 0) hx hb dX3_slotToMendFrom_57 (by decide) ?_
              refine me_iald hx hb hK hP (6 + 4 * (12 + v.toNatClampNeg) + 2) 0 (by omega) (fun f => kk_4 cy ad (by omega) f) rfl 0 rfl (by omega) (by decide) dX3_slotToMendFrom_58 ?_
              refine lv_icmp_le (tgt := 64) hx hb dX3_slotToMendFrom_59 (by decide) (fun c59 => ?_) (fun c59 => ?_)
              ·
                refine lv_iinc (v := nI (i + 1)) (lv' := [(3, .int (nI (i + 1))), (4, .ref (ad (6 + 4 * (12 + i)))), (2, .int v), (0, .ref (ad 0)), (1, .int x)]) hx hb dX3_slotToMendFrom_64 hl (k := 1) rfl (me_inc _) (by decide) rfl (fun ls hl => ?_)
                refine lv_goto (tgt := 4) hx hb dX3_slotToMendFrom_67 (by decide) ?_
                exact ih v (i + 1) _ _ hP hD hS ls (lv_sub hl [0, 2, 3, 4] rfl) (by first | exact hv | exact Or.inr (vp_in_nI (by omega) (by decide))) (by omega) (by omega) (by rw [hf4]; simp only [k_sm_4, if_neg c6, e19, if_neg c22, if_pos c33, if_neg c38, if_pos c59])
              ·
                refine lv_iload_n hx hb dX3_slotToMendFrom_62 rfl (lv_at hl 1 rfl) ?_
                refine lv_istore_n (lv' := [(2, .int (nI i)), (4, .ref (ad (6 + 4 * (12 + i)))), (3, .int (nI i)), (0, .ref (ad 0)), (1, .int x)]) hx hb dX3_slotToMendFrom_63 rfl hl (by decide) rfl (fun ls hl => ?_)
                refine lv_iinc (v := nI (i + 1)) (lv' := [(3, .int (nI (i + 1))), (2, .int (nI i)), (4, .ref (ad (6 + 4 * (12 + i)))), (0, .ref (ad 0)), (1, .int x)]) hx hb dX3_slotToMendFrom_64 hl (k := 2) rfl (me_inc _) (by decide) rfl (fun ls hl => ?_)
                refine lv_goto (tgt := 4) hx hb dX3_slotToMendFrom_67 (by decide) ?_
                exact ih (nI i) (i + 1) _ _ hP hD hS ls (lv_sub hl [0, 1, 3, 4] rfl) (by first | exact hv | exact Or.inr (vp_in_nI (by omega) (by decide))) (by omega) (by omega) (by rw [hf4]; simp only [k_sm_4, if_neg c6, e19, if_neg c22, if_pos c33, if_neg c38, if_neg c59])
  exact J4 5 ((-1)) 0 _ _ hP hD hS ls (lv_sub hl [0, 1, 2, 3] rfl) (Or.inl rfl) (by omega) (by omega) (by simp only [k_sm])

def k_chw_7 : Nat → Nat → Nat → Nat → Int32 → Int32 → Int32 → Nat → me_M → me_M
  | 0, k, a, w, x, y, v, i, s => s
  | n + 1, k, a, w, x, y, v, i, s => if nI (a + w) ≤ (nI i) then (s) else (let s41 := k_set (70 + 2 * ((k_fm (s 0 12) (nI 12)).toNatClampNeg) + 1) (s 0 12) (s (94 + 2 * k) 1) (nI i) v s; let s53 := k_cw k i v (s41 0 12) s41; let s63 := me_st s53 0 11 ((s53 0 11) + (nI 1)); let s73 := me_st s63 0 12 ((s63 0 12) + (nI 1)); k_chw_7 n k a w x y (v + y) (i + 1) s73)
def k_chw (k : Nat) (a : Nat) (w : Nat) (x : Int32) (y : Int32) (σ : me_M) : me_M := k_chw_7 (w + 1) k a w x y x a σ
set_option maxRecDepth 100000 in
set_option maxHeartbeats 4000000 in
theorem c_X3_changeWords (l : Launch) (D : va_G) (cy : Nat → ClassId) (ad : Nat → Nat) (xr : va_W) (k : Nat) (a : Nat) (w : Nat) (x : Int32) (y : Int32) (σ : me_M) (hk : k < 4) (hw : a + w ≤ 16) (sz : Nat) : me_Cv l yX3_changeWords wsX3_changeWords ({ frames := 1, cells := 0, slots := 0, locals := 24 }) D (me_T cy) (kk_W cy ad xr) [.ref (ad 0), .ref (ad (94 + 2 * k)), .int (nI a), .int (nI w), .int x, .int y] sz σ (k_chw k a w x y σ) := by
  refine Met.ofW (cc := cX3_changeWords) (maxL := 8) (ret := none) (by decide) rfl ?_
  intro p e st m args below meth c s₁ B hml hv
  obtain ⟨rfl, hsz, hP, hK, hD0⟩ := hv
  have hx := B.exec
  have hb := B.bytes
  have hr := B.returns
  have hts := atoms_spec (ws := wsX3_changeWords) B.pre
  have hown : st.vm.findClass RX3 = some m.cls := findClass_of_methodNamed B.named
  have hlocks := B.notSynchronized
  have in1 : ∀ w ∈ u_ws RX1 TX1 5, w ∈ wsX3_changeWords := by decide +kernel
  have in3 : ∀ w ∈ u_ws RX3 TX3 15, w ∈ wsX3_changeWords := by decide +kernel
  have k50 := hts (.fieldLink RX3 50 "TwinWrites" "waiting" "[LTwinWrites$Change;") (by decide +kernel)
  have k53 := hts (.fieldLink RX3 53 "TwinWrites" "waitingCount" "I") (by decide +kernel)
  have k56 := hts (.fieldLink RX3 56 "TwinWrites" "nextNumber" "I") (by decide +kernel)
  have k177 := hts (.fieldLink RX3 177 "TwinWrites$Frame" "page" "I") (by decide +kernel)
  subst hsz
  have hD := hD0.self (sz := st.heap.size)
  have hA : ∀ q : Nat, st.heap.size ≤ q → va_A ((kk_W cy ad xr) σ) st.heap.size q := fun q h => Or.inr h
  have hS : va_S (va_A ((kk_W cy ad xr) σ) st.heap.size) st.heap st.heap [] := va_S.rf
  generalize va_A ((kk_W cy ad xr) σ) st.heap.size = A at hD hA hS ⊢
  have hl := lv_entry ([.ref (ad 0), .ref (ad (94 + 2 * k)), .int (nI a), .int (nI w), .int x, .int y]) (n := 8) (Nat.le_of_ble_eq_true rfl)
  rw [lg_entry_eq]
  generalize (lg_sl ([.ref (ad 0), .ref (ad (94 + 2 * k)), .int (nI a), .int (nI w), .int x, .int y]) ++ List.replicate (8 - (lg_sl ([.ref (ad 0), .ref (ad (94 + 2 * k)), .int (nI a), .int (nI w), .int x, .int y])).length) Slot.unset).toArray = ls at hl ⊢
  have hl : lv_has ls 8 [(0, .ref (ad 0)), (1, .ref (ad (94 + 2 * k))), (2, .int (nI a)), (3, .int (nI w)), (4, .int x), (5, .int y)] := hl
  refine lv_iload hx hb dX3_changeWords_0 (lv_at hl 4 rfl) ?_
  refine lv_istore (lv' := [(6, .int x), (0, .ref (ad 0)), (1, .ref (ad (94 + 2 * k))), (2, .int (nI a)), (3, .int (nI w)), (4, .int x), (5, .int y)]) hx hb dX3_changeWords_2 hl (by decide) rfl (fun ls hl => ?_)
  refine lv_iload_n hx hb dX3_changeWords_4 rfl (lv_at hl 3 rfl) ?_
  refine lv_istore (lv' := [(7, .int (nI a)), (6, .int x), (0, .ref (ad 0)), (1, .ref (ad (94 + 2 * k))), (2, .int (nI a)), (3, .int (nI w)), (4, .int x), (5, .int y)]) hx hb dX3_changeWords_5 hl (by decide) rfl (fun ls hl => ?_)
  have J7 : ∀ (n : Nat) (v : Int32) (i : Nat) (s : me_M) (H : Heap) (locs : List Loc) (hP : va_P D vwCl ((kk_W cy ad xr) s) H) (hD : va_D A ((kk_W cy ad xr) s)) (hS : va_S A st.heap H locs) (ls : Array Slot) (hl : lv_has ls 8 [(7, .int (nI i)), (6, .int v), (0, .ref (ad 0)), (1, .ref (ad (94 + 2 * k))), (2, .int (nI a)), (3, .int (nI w)), (4, .int x), (5, .int y)]), ∀ (hi : a ≤ i ∧ i ≤ a + w), ∀ (hn : a + w + 1 ≤ i + n), k_chw k a w x y σ = k_chw_7 n k a w x y v i s → W p l e (headSpec wsX3_changeWords ({ frames := 1, cells := 0, slots := 0, locals := 24 })).room st m ([.ref (ad 0), .ref (ad (94 + 2 * k)), .int (nI a), .int (nI w), .int x, .int y] : List Value).toArray below meth c H locs 0 0 (MQ below (va_Qv (fun σ' => σ' = k_chw k a w x y σ) (me_B D (me_T cy) A (kk_W cy ad xr)) A) ([.ref (ad 0), .ref (ad (94 + 2 * k)), .int (nI a), .int (nI w), .int x, .int y] : List Value).toArray st 0 0 A) (F0 m 7 ls []) := by
    intro n
    induction n with
    | zero => intro v i s H locs hP hD hS ls hl hi hn hf7; exfalso; omega
    | succ n ih =>
      intro v i s H locs hP hD hS ls hl hi hn hf7
      refine lv_iload hx hb dX3_changeWords_7 (lv_at hl 0 rfl) ?_
      refine lv_iload_n hx hb dX3_changeWords_9 rfl (lv_at hl 4 rfl) ?_
      refine lv_iload_n hx hb dX3_changeWords_10 rfl (lv_at hl 5 rfl) ?_
      refine lv_iadd hx hb dX3_changeWords_11 ?_
      refine me_top (nI_add _ _) ?_
      refine lv_icmp_ge (tgt := 89) hx hb dX3_changeWords_12 (by decide) (fun c12 => ?_) (fun c12 => ?_)
      ·
        try have h12 := (nI_leI (by omega) (by omega)).mp c12
        exact me_retv hx hb hr hlocks hK hP hD hS (by rw [hf7]; simp only [k_chw_7, if_pos c12]) dX3_changeWords_89
      ·
        try have h12 := (not_congr (nI_leI (by omega) (by omega))).mp c12
        refine lv_aload_n hx hb dX3_changeWords_15 rfl (lv_at hl 2 rfl) ?_
        refine va_get (D := D) (ci := 3) (v := .ref (ad 5)) (C := RX3) (T := TX3) (N := 15) hx hb hts in3 hown hK hP 0 (me_get (by omega) (kk_0 cy ad _)) rfl 10 (by decide) k50 (fun _ h9 => h9) rfl dX3_changeWords_16 ?_
        refine lv_aload_n hx hb dX3_changeWords_19 rfl (lv_at hl 2 rfl) ?_
        refine va_get (D := D) (ci := 3) (v := .int (s 0 12)) (C := RX3) (T := TX3) (N := 15) hx hb hts in3 hown hK hP 0 (me_get (by omega) (kk_0 cy ad _)) rfl 12 (by decide) k56 (fun _ h9 => h9) rfl dX3_changeWords_20 ?_
        refine lv_bipush (v := nI 12) hx hb dX3_changeWords_23 (by decide) ?_
        refine me_calls (As := [.int (s 0 12), .int (nI 12)]) (rest := [.ref (ad 5)]) ⟨hx, hb, hml, hown, hts⟩ (c_J9_floorMod_7cf53 l (s 0 12) (nI 12) (by decide)) (va_cwS 2 hts gX3_changeWords_J9_floorMod_7cf53 rfl rfl rfl (by decide +kernel) ⟨Nat.le_of_ble_eq_true rfl, Nat.le_of_ble_eq_true rfl⟩) rfl hl.1 rfl (Nat.le_of_ble_eq_true rfl) dX3_changeWords_25 ⟨Nat.zero_le _, Nat.zero_le _⟩ ?_
        have v28 : vp_in (k_fm (s 0 12) (nI 12)) 12 := pu_fm_in _
        have b28 := me_inb v28
        refine me_aald (g := fun j => ad (70 + 2 * j + 1)) hx hb hK hP 5 4 (by omega) (fun f => kk_a5 cy ad f) rfl ((k_fm (s 0 12) (nI 12)).toNatClampNeg) (me_ine v28) (by omega) (by decide) dX3_changeWords_28 ?_
        refine lv_aload_n hx hb dX3_changeWords_29 rfl (lv_at hl 2 rfl) ?_
        refine va_get (D := D) (ci := 3) (v := .int (s 0 12)) (C := RX3) (T := TX3) (N := 15) hx hb hts in3 hown hK hP 0 (me_get (by omega) (kk_0 cy ad _)) rfl 12 (by decide) k56 (fun _ h9 => h9) rfl dX3_changeWords_30 ?_
        refine lv_aload_n hx hb dX3_changeWords_33 rfl (lv_at hl 3 rfl) ?_
        refine va_get (D := D) (ci := 1) (v := .int (s (94 + 2 * k) 1)) (C := RX1) (T := TX1) (N := 5) hx hb hts in1 hown hK hP (94 + 2 * k) (me_get (by omega) (kk_fr cy ad (by omega) _)) rfl 1 (by decide) k177 (fun _ h9 => h9) rfl dX3_changeWords_34 ?_
        refine lv_iload hx hb dX3_changeWords_37 (lv_at hl 0 rfl) ?_
        refine lv_iload hx hb dX3_changeWords_39 (lv_at hl 1 rfl) ?_
        refine me_callv (f := k_set (70 + 2 * ((k_fm (s 0 12) (nI 12)).toNatClampNeg) + 1) (s 0 12) (s (94 + 2 * k) 1) (nI i) v s) (w := (kk_W cy ad xr)) (σ := s) (As := [.int (s 0 12), .int (s (94 + 2 * k) 1), .int (nI i), .int v]) (rest := []) ⟨hx, hb, hml, hown, hts⟩ (fun sz => c_X0_set l D cy ad xr (70 + 2 * ((k_fm (s 0 12) (nI 12)).toNatClampNeg) + 1) (s 0 12) (s (94 + 2 * k) 1) (nI i) v s (by omega) sz) (cwV 4 hts gX3_changeWords_X0_set rfl rfl rfl (by decide +kernel) ⟨Nat.le_of_ble_eq_true rfl, Nat.le_of_ble_eq_true rfl⟩) (va_recv hK hP (ci := 0) (q0 := (70 + 2 * ((k_fm (s 0 12) (nI 12)).toNatClampNeg) + 1)) rfl (me_get (by omega) (kk_ch cy ad (by omega) _))) hK hP hD hS hA rfl hl.1 rfl (Nat.le_of_ble_eq_true rfl) dX3_changeWords_41 ⟨Nat.zero_le _, Nat.zero_le _⟩ (fun s41 H locs e41 hP hD hS => ?_)
        refine lv_aload_n hx hb dX3_changeWords_44 rfl (lv_at hl 3 rfl) ?_
        refine lv_iload hx hb dX3_changeWords_45 (lv_at hl 0 rfl) ?_
        refine lv_iload hx hb dX3_changeWords_47 (lv_at hl 1 rfl) ?_
        refine lv_aload_n hx hb dX3_changeWords_49 rfl (lv_at hl 2 rfl) ?_
        refine va_get (D := D) (ci := 3) (v := .int (s41 0 12)) (C := RX3) (T := TX3) (N := 15) hx hb hts in3 hown hK hP 0 (me_get (by omega) (kk_0 cy ad _)) rfl 12 (by decide) k56 (fun _ h9 => h9) rfl dX3_changeWords_50 ?_
        refine me_callv (f := k_cw k i v (s41 0 12) s41) (w := (kk_W cy ad xr)) (σ := s41) (As := [.int (nI i), .int v, .int (s41 0 12)]) (rest := []) ⟨hx, hb, hml, hown, hts⟩ (fun sz => c_X1_changeWord l D cy ad xr k i v (s41 0 12) s41 (by omega) (by omega) sz) (cwV 3 hts gX3_changeWords_X1_changeWord rfl rfl rfl (by decide +kernel) ⟨Nat.le_of_ble_eq_true rfl, Nat.le_of_ble_eq_true rfl⟩) (va_recv hK hP (ci := 1) (q0 := (94 + 2 * k)) rfl (me_get (by omega) (kk_fr cy ad (by omega) _))) hK hP hD hS hA rfl hl.1 rfl (Nat.le_of_ble_eq_true rfl) dX3_changeWords_53 ⟨Nat.zero_le _, Nat.zero_le _⟩ (fun s53 H locs e53 hP hD hS => ?_)
        refine lv_aload_n hx hb dX3_changeWords_56 rfl (lv_at hl 2 rfl) ?_
        refine lv_dup hx hb dX3_changeWords_57 rfl ?_
        refine va_get (D := D) (ci := 3) (v := .int (s53 0 11)) (C := RX3) (T := TX3) (N := 15) hx hb hts in3 hown hK hP 0 (me_get (by omega) (kk_0 cy ad _)) rfl 11 (by decide) k53 (fun _ h9 => h9) rfl dX3_changeWords_58 ?_
        refine lv_iconst (v := nI 1) hx hb dX3_changeWords_61 (by decide) ?_
        refine lv_iadd hx hb dX3_changeWords_62 ?_
        refine me_put (ty := .int) (ci := 3) (C := RX3) (T := TX3) (M := 15) hx hb hts in3 tyX3 tyX3_ok nmX3 hown hK hP hD hS 0 (by omega) (kk_0 cy ad _) rfl 11 (by decide) k53 (fun _ h9 => h9) rfl (by decide +kernel) rfl rfl (Nat.le_of_ble_eq_true rfl) (kk_0 cy ad _) dX3_changeWords_63 (fun s63 H locs e63 hP hD hS => ?_)
        refine lv_aload_n hx hb dX3_changeWords_66 rfl (lv_at hl 2 rfl) ?_
        refine lv_dup hx hb dX3_changeWords_67 rfl ?_
        refine va_get (D := D) (ci := 3) (v := .int (s63 0 12)) (C := RX3) (T := TX3) (N := 15) hx hb hts in3 hown hK hP 0 (me_get (by omega) (kk_0 cy ad _)) rfl 12 (by decide) k56 (fun _ h9 => h9) rfl dX3_changeWords_68 ?_
        refine lv_iconst (v := nI 1) hx hb dX3_changeWords_71 (by decide) ?_
        refine lv_iadd hx hb dX3_changeWords_72 ?_
        refine me_put (ty := .int) (ci := 3) (C := RX3) (T := TX3) (M := 15) hx hb hts in3 tyX3 tyX3_ok nmX3 hown hK hP hD hS 0 (by omega) (kk_0 cy ad _) rfl 12 (by decide) k56 (fun _ h9 => h9) rfl (by decide +kernel) rfl rfl (Nat.le_of_ble_eq_true rfl) (kk_0 cy ad _) dX3_changeWords_73 (fun s73 H locs e73 hP hD hS => ?_)
        refine lv_iload hx hb dX3_changeWords_76 (lv_at hl 1 rfl) ?_
        refine lv_iload hx hb dX3_changeWords_78 (lv_at hl 7 rfl) ?_
        refine lv_iadd hx hb dX3_changeWords_80 ?_
        refine lv_istore (lv' := [(6, .int (v + y)), (7, .int (nI i)), (0, .ref (ad 0)), (1, .ref (ad (94 + 2 * k))), (2, .int (nI a)), (3, .int (nI w)), (4, .int x), (5, .int y)]) hx hb dX3_changeWords_81 hl (by decide) rfl (fun ls hl => ?_)
        refine lv_iinc (v := nI (i + 1)) (lv' := [(7, .int (nI (i + 1))), (6, .int (v + y)), (0, .ref (ad 0)), (1, .ref (ad (94 + 2 * k))), (2, .int (nI a)), (3, .int (nI w)), (4, .int x), (5, .int y)]) hx hb dX3_changeWords_83 hl (k := 1) rfl (me_inc _) (by decide) rfl (fun ls hl => ?_)
        refine lv_goto (tgt := 7) hx hb dX3_changeWords_86 (by decide) ?_
        exact ih (v + y) (i + 1) s73 _ _ hP hD hS ls (lv_sub hl [0, 1, 2, 3, 4, 5, 6, 7] rfl) (by omega) (by omega) (by rw [hf7]; simp only [k_chw_7, if_neg c12, e41, e53, e63, e73])
  exact J7 (w + 1) x a σ _ _ hP hD hS ls (lv_sub hl [0, 1, 2, 3, 4, 5, 6, 7] rfl) (by omega) (by omega) (by simp only [k_chw])
end
section
/-! PURE B: what writePage and logWaiting leave alone -/
theorem pu_wp3 : ∀ (n j : Nat) (x y : Int32) (q i : Nat) (s s' : me_M) (r : Int32), k_wp_3 n j x y q i s = (r, s') → (∀ u, u ≠ 0 → (u < 6 + 4 * j + 1 ∨ 6 + 4 * j + 3 < u) → s' u = s u) ∧ (∀ k, k ≠ 4 → k ≠ 6 → s' 0 k = s 0 k) := by
  intro n
  induction n with
  | zero => intro j x y q i s s' r h; cases h; exact ⟨fun _ _ _ => rfl, fun _ _ _ => rfl⟩
  | succ n ih =>
    intro j x y q i s s' r h
    simp only [k_wp_3] at h
    split at h
    · cases h; exact ⟨fun _ _ _ => rfl, fun _ _ _ => rfl⟩
    · have h1 := pu_ph (σ := s) (r := (k_ph s).1) (σ' := (k_ph s).2) rfl
      split at h
      · cases h; exact ⟨fun u hu _ => h1.1 u hu, h1.2⟩
      · have h2 := ih _ _ _ _ _ _ _ _ h
        refine ⟨fun u hu hv => ?_, fun k h4 h6 => ?_⟩
        · rw [h2.1 u hu hv, k_put, pu_put9 _ _ _ _ _ _ _ _ _ hv, h1.1 u hu]
        · rw [h2.2 k h4 h6, k_put, pu_put9 _ _ _ _ _ _ _ _ _ (by omega), h1.2 k h4 h6]
theorem pu_wp {j q : Nat} {x y r : Int32} {s s' : me_M} (h : k_wp j x y q s = (r, s')) : (∀ u, u ≠ 0 → (u < 6 + 4 * j + 1 ∨ 6 + 4 * j + 3 < u) → s' u = s u) ∧ (∀ k, k ≠ 4 → k ≠ 6 → s' 0 k = s 0 k) := pu_wp3 _ _ _ _ _ _ _ _ _ h
theorem pu_wp_hp {j q : Nat} {x y r : Int32} {s s' : me_M} (h : k_wp j x y q s = (r, s')) (hj : j < 16) (hp : ∀ k, k < 4 → ¬ s (94 + 2 * k) 3 = 0 → vp_in (s (94 + 2 * k) 1) 12) : ∀ k, k < 4 → ¬ s' (94 + 2 * k) 3 = 0 → vp_in (s' (94 + 2 * k) 1) 12 := by
  intro k hk hd
  have h1 := (pu_wp h).1 (94 + 2 * k) (by omega) (by omega)
  rw [h1] at hd ⊢
  exact hp k hk hd
/-- TO SYNC: the log's records may change (even cells of 70 .. 93), and three numbers of the object -/
theorem pu_lw14 : ∀ (n w u i : Nat) (s s' : me_M) (r : Int32), k_lw_14 n w u i s = (r, s') → (∀ z, z ≠ 0 → (z < 70 ∨ 94 ≤ z ∨ z % 2 = 1) → s' z = s z) ∧ (∀ k, k ≠ 4 → k ≠ 6 → k ≠ 11 → s' 0 k = s 0 k) ∧ (s' 0 11 = s 0 11 ∨ s' 0 11 = nI 0) ∧ ((∀ a, 70 ≤ a → a < 94 → vp_in (s a 1) 12 ∧ vp_in (s a 2) 16) → ∀ a, 70 ≤ a → a < 94 → vp_in (s' a 1) 12 ∧ vp_in (s' a 2) 16) := by
  intro n
  induction n with
  | zero => intro w u i s s' r h; cases h; exact ⟨fun _ _ _ => rfl, fun _ _ _ _ => rfl, Or.inl rfl, fun h => h⟩
  | succ n ih =>
    intro w u i s s' r h
    simp only [k_lw_14] at h
    split at h
    · cases h
      exact ⟨fun z hz _ => me_st_c _ _ _ hz, fun k _ _ h11 => me_st_s _ _ _ h11, Or.inr (me_st_self _ _ _ _), fun h a ha hb => by rw [me_st_c _ _ _ (by omega)]; exact h a ha hb⟩
    · have h1 := pu_ph (σ := s) (r := (k_ph s).1) (σ' := (k_ph s).2) rfl
      split at h
      · cases h
        exact ⟨fun z hz _ => h1.1 z hz, fun k h4 h6 _ => h1.2 k h4 h6, Or.inl (h1.2 11 (by decide) (by decide)), fun h a ha hb => by rw [h1.1 a (by omega)]; exact h a ha hb⟩
      · have hm : i % 12 < 12 := Nat.mod_lt _ (by decide)
        obtain ⟨g1, g2, g3, g4⟩ := ih _ _ _ _ _ _ h
        have hc : ∀ z, z ≠ 70 + 2 * (i % 12) → k_copy (70 + 2 * (i % 12)) (70 + 2 * (i % 12) + 1) (k_ph s).2 z = (k_ph s).2 z := fun z hz => by rw [k_copy]; exact pu_set hz
        refine ⟨fun z hz hv => ?_, fun k h4 h6 h11 => ?_, ?_, fun hr => g4 (fun a ha hb => ?_)⟩
        · rw [g1 z hz hv, hc z (by omega), h1.1 z hz]
        · rw [g2 k h4 h6 h11, hc 0 (by omega), h1.2 k h4 h6]
        · rw [hc 0 (by omega), h1.2 11 (by decide) (by decide)] at g3
          exact g3
        · by_cases he : a = 70 + 2 * (i % 12)
          · subst he
            have h5 := pu_set0 (70 + 2 * (i % 12)) ((k_ph s).2 (70 + 2 * (i % 12) + 1) 0) ((k_ph s).2 (70 + 2 * (i % 12) + 1) 1) ((k_ph s).2 (70 + 2 * (i % 12) + 1) 2) ((k_ph s).2 (70 + 2 * (i % 12) + 1) 3) (k_ph s).2
            rw [k_copy, h5.2.1, h5.2.2.1, h1.1 _ (by omega)]
            exact hr _ (by omega) (by omega)
          · rw [hc a he, h1.1 a (by omega)]
            exact hr a ha hb
theorem pu_lw {s s' : me_M} {r : Int32} (h : k_lw s = (r, s')) : (∀ z, z ≠ 0 → (z < 70 ∨ 94 ≤ z ∨ z % 2 = 1) → s' z = s z) ∧ (∀ k, k ≠ 4 → k ≠ 6 → k ≠ 11 → s' 0 k = s 0 k) ∧ (s' 0 11 = s 0 11 ∨ s' 0 11 = nI 0) ∧ ((∀ a, 70 ≤ a → a < 94 → vp_in (s a 1) 12 ∧ vp_in (s a 2) 16) → ∀ a, 70 ≤ a → a < 94 → vp_in (s' a 1) 12 ∧ vp_in (s' a 2) 16) := pu_lw14 _ _ _ _ _ _ _ h
theorem pu_lw_hp {s s' : me_M} {r : Int32} (h : k_lw s = (r, s')) (hp : ∀ k, k < 4 → ¬ s (94 + 2 * k) 3 = 0 → vp_in (s (94 + 2 * k) 1) 12) : ∀ k, k < 4 → ¬ s' (94 + 2 * k) 3 = 0 → vp_in (s' (94 + 2 * k) 1) 12 := by
  intro k hk hd
  have h1 := (pu_lw h).1 (94 + 2 * k) (by omega) (by omega)
  rw [h1] at hd ⊢
  exact hp k hk hd
theorem pu_lw_I {s s' : me_M} {r : Int32} (h : k_lw s = (r, s')) (hI : k_I s) : k_I s' := by
  obtain ⟨g1, g2, g3, g4⟩ := pu_lw h
  obtain ⟨i1, i2, i3, i4, i5, i6⟩ := hI
  refine ⟨pu_lw_hp h i1, g4 i2, ?_, ?_, ?_, ?_⟩
  · rcases g3 with g | g
    · rw [g]; exact i3
    · rw [g]; exact vp_in_nI (by decide) (by decide)
  · rw [g2 12 (by decide) (by decide) (by decide)]; exact i4
  · rw [g2 12 (by decide) (by decide) (by decide)]
    rcases g3 with g | g
    · rw [g]; exact i5
    · rw [g, nI_clamp (by decide)]; exact Nat.zero_le _
  · rw [g2 3 (by decide) (by decide) (by decide)]; exact i6
end
section
def k_wdh_2 : Nat → Nat → Nat → Nat → me_M → Int32 × me_M
  | 0, a, b, i, s => (0, s)
  | n + 1, a, b, i, s => if nI b < (nI i) then ((nI 1, s)) else (if (s (94 + 2 * i) 3) = 0 then (k_wdh_2 n a b (i + 1) s) else (let q49 := k_wp (((s (94 + 2 * i) 1).toNatClampNeg)) (s (94 + 2 * i) 1) (s (94 + 2 * i) 2) (94 + 2 * i + 1) s; let r49 := q49.1; let s49 := q49.2; if r49 = 0 then ((nI 0, s49)) else (k_wdh_2 n a b (i + 1) s49)))
def k_wdh (a : Nat) (b : Nat) (σ : me_M) : Int32 × me_M := k_wdh_2 5 a b a σ
set_option maxRecDepth 100000 in
set_option maxHeartbeats 4000000 in
theorem c_X3_writeDirtyHome (l : Launch) (D : va_G) (cy : Nat → ClassId) (ad : Nat → Nat) (xr : va_W) (a : Nat) (b : Nat) (σ : me_M) (hab : a ≤ b ∧ b < 4) (hp : ∀ k, k < 4 → ¬ σ (94 + 2 * k) 3 = 0 → vp_in (σ (94 + 2 * k) 1) 12) (sz : Nat) : me_Ci l yX3_writeDirtyHome wsX3_writeDirtyHome ({ frames := 2, cells := 0, slots := 0, locals := 51 }) D (me_T cy) (kk_W cy ad xr) [.ref (ad 0), .int (nI a), .int (nI b)] sz σ (k_wdh a b σ) := by
  refine Met.ofW (cc := cX3_writeDirtyHome) (maxL := 5) (ret := (some .boolean)) (by decide) rfl ?_
  intro p e st m args below meth c s₁ B hml hv
  obtain ⟨rfl, hsz, hP, hK, hD0⟩ := hv
  have hx := B.exec
  have hb := B.bytes
  have hr := B.returns
  have hts := atoms_spec (ws := wsX3_writeDirtyHome) B.pre
  have hown : st.vm.findClass RX3 = some m.cls := findClass_of_methodNamed B.named
  have hlocks := B.notSynchronized
  have in1 : ∀ w ∈ u_ws RX1 TX1 5, w ∈ wsX3_writeDirtyHome := by decide +kernel
  have in3 : ∀ w ∈ u_ws RX3 TX3 15, w ∈ wsX3_writeDirtyHome := by decide +kernel
  have k11 := hts (.fieldLink RX3 11 "TwinWrites" "homes" "[LTwinWrites$Place;") (by decide +kernel)
  have k46 := hts (.fieldLink RX3 46 "TwinWrites" "frames" "[LTwinWrites$Frame;") (by decide +kernel)
  have k106 := hts (.fieldLink RX3 106 "TwinWrites$Frame" "words" "[I") (by decide +kernel)
  have k174 := hts (.fieldLink RX3 174 "TwinWrites$Frame" "dirty" "Z") (by decide +kernel)
  have k177 := hts (.fieldLink RX3 177 "TwinWrites$Frame" "page" "I") (by decide +kernel)
  have k180 := hts (.fieldLink RX3 180 "TwinWrites$Frame" "stamp" "I") (by decide +kernel)
  subst hsz
  have hD := hD0.self (sz := st.heap.size)
  have hA : ∀ q : Nat, st.heap.size ≤ q → va_A ((kk_W cy ad xr) σ) st.heap.size q := fun q h => Or.inr h
  have hS : va_S (va_A ((kk_W cy ad xr) σ) st.heap.size) st.heap st.heap [] := va_S.rf
  generalize va_A ((kk_W cy ad xr) σ) st.heap.size = A at hD hA hS ⊢
  have hl := lv_entry ([.ref (ad 0), .int (nI a), .int (nI b)]) (n := 5) (Nat.le_of_ble_eq_true rfl)
  rw [lg_entry_eq]
  generalize (lg_sl ([.ref (ad 0), .int (nI a), .int (nI b)]) ++ List.replicate (5 - (lg_sl ([.ref (ad 0), .int (nI a), .int (nI b)])).length) Slot.unset).toArray = ls at hl ⊢
  have hl : lv_has ls 5 [(0, .ref (ad 0)), (1, .int (nI a)), (2, .int (nI b))] := hl
  refine lv_iload_n hx hb dX3_writeDirtyHome_0 rfl (lv_at hl 1 rfl) ?_
  refine lv_istore_n (lv' := [(3, .int (nI a)), (0, .ref (ad 0)), (1, .int (nI a)), (2, .int (nI b))]) hx hb dX3_writeDirtyHome_1 rfl hl (by decide) rfl (fun ls hl => ?_)
  have J2 : ∀ (n : Nat) (i : Nat) (s : me_M) (H : Heap) (locs : List Loc) (hP : va_P D vwCl ((kk_W cy ad xr) s) H) (hD : va_D A ((kk_W cy ad xr) s)) (hS : va_S A st.heap H locs) (ls : Array Slot) (hl : lv_has ls 5 [(3, .int (nI i)), (0, .ref (ad 0)), (1, .int (nI a)), (2, .int (nI b))]), ∀ (hi : a ≤ i ∧ i ≤ b + 1), ∀ (hn : b + 2 ≤ i + n), ∀ (hp : ∀ k, k < 4 → ¬ s (94 + 2 * k) 3 = 0 → vp_in (s (94 + 2 * k) 1) 12), k_wdh a b σ = k_wdh_2 n a b i s → W p l e (headSpec wsX3_writeDirtyHome ({ frames := 2, cells := 0, slots := 0, locals := 51 })).room st m ([.ref (ad 0), .int (nI a), .int (nI b)] : List Value).toArray below meth c H locs 0 0 (MQ below (va_Qi (fun r σ' => (r, σ') = k_wdh a b σ) (me_B D (me_T cy) A (kk_W cy ad xr)) A) ([.ref (ad 0), .int (nI a), .int (nI b)] : List Value).toArray st 0 0 A) (F0 m 2 ls []) := by
    intro n
    induction n with
    | zero => intro i s H locs hP hD hS ls hl hi hn hp hf2; exfalso; omega
    | succ n ih =>
      intro i s H locs hP hD hS ls hl hi hn hp hf2
      refine lv_iload_n hx hb dX3_writeDirtyHome_2 rfl (lv_at hl 0 rfl) ?_
      refine lv_iload_n hx hb dX3_writeDirtyHome_3 rfl (lv_at hl 3 rfl) ?_
      refine lv_icmp_gt (tgt := 63) hx hb dX3_writeDirtyHome_4 (by decide) (fun c4 => ?_) (fun c4 => ?_)
      ·
        try have h4 := (nI_ltI (by omega) (by omega)).mp c4
        refine lv_iconst (v := nI 1) hx hb dX3_writeDirtyHome_63 (by decide) ?_
        exact me_reti hx hb hr rfl hlocks hK hP hD hS (by rw [hf2]; simp only [k_wdh_2, if_pos c4]) dX3_writeDirtyHome_64
      ·
        try have h4 := (not_congr (nI_ltI (by omega) (by omega))).mp c4
        refine lv_aload_n hx hb dX3_writeDirtyHome_7 rfl (lv_at hl 1 rfl) ?_
        refine va_get (D := D) (ci := 3) (v := .ref (ad 4)) (C := RX3) (T := TX3) (N := 15) hx hb hts in3 hown hK hP 0 (me_get (by omega) (kk_0 cy ad _)) rfl 9 (by decide) k46 (fun _ h9 => h9) rfl dX3_writeDirtyHome_8 ?_
        refine lv_iload_n hx hb dX3_writeDirtyHome_11 rfl (lv_at hl 0 rfl) ?_
        refine me_aald (g := fun j => ad (94 + 2 * j)) hx hb hK hP 4 5 (by omega) (fun f => kk_a4 cy ad f) rfl i rfl (by omega) (by decide) dX3_writeDirtyHome_12 ?_
        refine lv_astore (lv' := [(4, .ref (ad (94 + 2 * i))), (3, .int (nI i)), (0, .ref (ad 0)), (1, .int (nI a)), (2, .int (nI b))]) hx hb dX3_writeDirtyHome_13 hl (by decide) rfl (fun ls hl => ?_)
        refine lv_aload hx hb dX3_writeDirtyHome_15 (lv_at hl 0 rfl) ?_
        refine va_get (D := D) (ci := 1) (v := .int (s (94 + 2 * i) 3)) (C := RX1) (T := TX1) (N := 5) hx hb hts in1 hown hK hP (94 + 2 * i) (me_get (by omega) (kk_fr cy ad (by omega) _)) rfl 3 (by decide) k174 (fun _ h9 => h9) rfl dX3_writeDirtyHome_17 ?_
        refine lv_if_eq (tgt := 57) hx hb dX3_writeDirtyHome_20 (by decide) (fun c20 => ?_) (fun c20 => ?_)
        ·
          refine lv_iinc (v := nI (i + 1)) (lv' := [(3, .int (nI (i + 1))), (4, .ref (ad (94 + 2 * i))), (0, .ref (ad 0)), (1, .int (nI a)), (2, .int (nI b))]) hx hb dX3_writeDirtyHome_57 hl (k := 1) rfl (me_inc _) (by decide) rfl (fun ls hl => ?_)
          refine lv_goto (tgt := 2) hx hb dX3_writeDirtyHome_60 (by decide) ?_
          exact ih (i + 1) s _ _ hP hD hS ls (lv_sub hl [0, 2, 3, 4] rfl) (by omega) (by omega) (by first | exact hp | exact pu_wp_hp e49 (by omega) hp) (by rw [hf2]; simp only [k_wdh_2, if_neg c4, if_pos c20])
        ·
          refine lv_aload_n hx hb dX3_writeDirtyHome_23 rfl (lv_at hl 2 rfl) ?_
          refine lv_aload_n hx hb dX3_writeDirtyHome_24 rfl (lv_at hl 2 rfl) ?_
          refine va_get (D := D) (ci := 3) (v := .ref (ad 1)) (C := RX3) (T := TX3) (N := 15) hx hb hts in3 hown hK hP 0 (me_get (by omega) (kk_0 cy ad _)) rfl 0 (by decide) k11 (fun _ h9 => h9) rfl dX3_writeDirtyHome_25 ?_
          refine lv_aload hx hb dX3_writeDirtyHome_28 (lv_at hl 0 rfl) ?_
          refine va_get (D := D) (ci := 1) (v := .int (s (94 + 2 * i) 1)) (C := RX1) (T := TX1) (N := 5) hx hb hts in1 hown hK hP (94 + 2 * i) (me_get (by omega) (kk_fr cy ad (by omega) _)) rfl 1 (by decide) k177 (fun _ h9 => h9) rfl dX3_writeDirtyHome_30 ?_
          have v33 : vp_in (s (94 + 2 * i) 1) 12 := hp i (by omega) c20
          have b33 := me_inb v33
          refine me_aald (g := fun j => ad (6 + 4 * j)) hx hb hK hP 1 3 (by omega) (fun f => kk_a1 cy ad f) rfl ((s (94 + 2 * i) 1).toNatClampNeg) (me_ine v33) (by omega) (by decide) dX3_writeDirtyHome_33 ?_
          refine lv_aload hx hb dX3_writeDirtyHome_34 (lv_at hl 0 rfl) ?_
          refine va_get (D := D) (ci := 1) (v := .int (s (94 + 2 * i) 1)) (C := RX1) (T := TX1) (N := 5) hx hb hts in1 hown hK hP (94 + 2 * i) (me_get (by omega) (kk_fr cy ad (by omega) _)) rfl 1 (by decide) k177 (fun _ h9 => h9) rfl dX3_writeDirtyHome_36 ?_
          refine lv_aload hx hb dX3_writeDirtyHome_39 (lv_at hl 0 rfl) ?_
          refine va_get (D := D) (ci := 1) (v := .int (s (94 + 2 * i) 2)) (C := RX1) (T := TX1) (N := 5) hx hb hts in1 hown hK hP (94 + 2 * i) (me_get (by omega) (kk_fr cy ad (by omega) _)) rfl 2 (by decide) k180 (fun _ h9 => h9) rfl dX3_writeDirtyHome_41 ?_
          refine lv_aload hx hb dX3_writeDirtyHome_44 (lv_at hl 0 rfl) ?_
          refine va_get (D := D) (ci := 1) (v := .ref (ad (94 + 2 * i + 1))) (C := RX1) (T := TX1) (N := 5) hx hb hts in1 hown hK hP (94 + 2 * i) (me_get (by omega) (kk_fr cy ad (by omega) _)) rfl 0 (by decide) k106 (fun _ h9 => h9) rfl dX3_writeDirtyHome_46 ?_
          refine me_calli (f := k_wp (((s (94 + 2 * i) 1).toNatClampNeg)) (s (94 + 2 * i) 1) (s (94 + 2 * i) 2) (94 + 2 * i + 1) s) (w := (kk_W cy ad xr)) (σ := s) (As := [.ref (ad (6 + 4 * ((s (94 + 2 * i) 1).toNatClampNeg))), .int (s (94 + 2 * i) 1), .int (s (94 + 2 * i) 2), .ref (ad (94 + 2 * i + 1))]) (rest := []) ⟨hx, hb, hml, hown, hts⟩ (fun sz => c_X3_writePage l D cy ad xr (((s (94 + 2 * i) 1).toNatClampNeg)) (s (94 + 2 * i) 1) (s (94 + 2 * i) 2) (94 + 2 * i + 1) s (by omega) (by omega) sz) (cwV 4 hts gX3_writeDirtyHome_X3_writePage rfl rfl rfl (by decide +kernel) ⟨Nat.le_of_ble_eq_true rfl, Nat.le_of_ble_eq_true rfl⟩) (va_recv hK hP (ci := 3) (q0 := 0) rfl (me_get (by omega) (kk_0 cy ad _))) hK hP hD hS hA rfl hl.1 rfl (Nat.le_of_ble_eq_true rfl) dX3_writeDirtyHome_49 ⟨Nat.zero_le _, Nat.zero_le _⟩ (fun r49 s49 H locs e49 hP hD hS => ?_)
          refine lv_if_ne (tgt := 57) hx hb dX3_writeDirtyHome_52 (by decide) (fun c52 => ?_) (fun c52 => ?_)
          ·
            refine lv_iinc (v := nI (i + 1)) (lv' := [(3, .int (nI (i + 1))), (4, .ref (ad (94 + 2 * i))), (0, .ref (ad 0)), (1, .int (nI a)), (2, .int (nI b))]) hx hb dX3_writeDirtyHome_57 hl (k := 1) rfl (me_inc _) (by decide) rfl (fun ls hl => ?_)
            refine lv_goto (tgt := 2) hx hb dX3_writeDirtyHome_60 (by decide) ?_
            exact ih (i + 1) s49 _ _ hP hD hS ls (lv_sub hl [0, 2, 3, 4] rfl) (by omega) (by omega) (by first | exact hp | exact pu_wp_hp e49 (by omega) hp) (by rw [hf2]; simp only [k_wdh_2, if_neg c4, if_neg c20, e49, if_neg c52])
          ·
            refine lv_iconst (v := nI 0) hx hb dX3_writeDirtyHome_55 (by decide) ?_
            exact me_reti hx hb hr rfl hlocks hK hP hD hS (by rw [hf2]; simp only [k_wdh_2, if_neg c4, if_neg c20, e49, if_pos c52]) dX3_writeDirtyHome_56
  exact J2 5 a σ _ _ hP hD hS ls (lv_sub hl [0, 1, 2, 3] rfl) (by omega) (by omega) (hp) (by simp only [k_wdh])
end
section
/-! PURE C: k_I goes on through writePage, writeDirtyHome -/
theorem pu_I_of {s s' : me_M} (h1 : ∀ u, 70 ≤ u → s' u = s u) (h2 : ∀ k, k ≠ 4 → k ≠ 6 → k ≠ 7 → k ≠ 8 → s' 0 k = s 0 k) (hI : k_I s) : k_I s' := by
  obtain ⟨i1, i2, i3, i4, i5, i6⟩ := hI
  refine ⟨fun k hk hd => ?_, fun a ha hb => ?_, ?_, ?_, ?_, ?_⟩
  · rw [h1 _ (by omega)] at hd ⊢; exact i1 k hk hd
  · rw [h1 _ ha]; exact i2 a ha hb
  · rw [h2 11 (by decide) (by decide) (by decide) (by decide)]; exact i3
  · rw [h2 12 (by decide) (by decide) (by decide) (by decide)]; exact i4
  · rw [h2 11 (by decide) (by decide) (by decide) (by decide), h2 12 (by decide) (by decide) (by decide) (by decide)]; exact i5
  · rw [h2 3 (by decide) (by decide) (by decide) (by decide)]; exact i6
theorem pu_ph_I {s s' : me_M} {r : Int32} (h : k_ph s = (r, s')) (hI : k_I s) : k_I s' := pu_I_of (fun u hu => (pu_ph h).1 u (by omega)) (fun k h4 h6 _ _ => (pu_ph h).2 k h4 h6) hI
theorem pu_wp_I {j q : Nat} {x y r : Int32} {s s' : me_M} (h : k_wp j x y q s = (r, s')) (hj : j < 16) (hI : k_I s) : k_I s' := pu_I_of (fun u hu => (pu_wp h).1 u (by omega) (by omega)) (fun k h4 h6 _ _ => (pu_wp h).2 k h4 h6) hI
theorem pu_wdh2 : ∀ (n a b i : Nat) (s s' : me_M) (r : Int32), k_wdh_2 n a b i s = (r, s') → i ≤ b + 1 → b < 4 → k_I s → (∀ u, 70 ≤ u → s' u = s u) ∧ (∀ k, k ≠ 4 → k ≠ 6 → s' 0 k = s 0 k) := by
  intro n
  induction n with
  | zero => intro a b i s s' r h _ _ _; cases h; exact ⟨fun _ _ => rfl, fun _ _ _ => rfl⟩
  | succ n ih =>
    intro a b i s s' r h hi hb hI
    simp only [k_wdh_2] at h
    split at h
    · cases h; exact ⟨fun _ _ => rfl, fun _ _ _ => rfl⟩
    · rename_i c1
      have hib := (not_congr (nI_ltI (a := b) (b := i) (by omega) (by omega))).mp c1
      split at h
      · exact ih _ _ _ _ _ _ h (by omega) hb hI
      · rename_i c2
        have hv := me_inb (hI.1 i (by omega) c2)
        generalize e : k_wp (s (94 + 2 * i) 1).toNatClampNeg (s (94 + 2 * i) 1) (s (94 + 2 * i) 2) (94 + 2 * i + 1) s = q at h
        obtain ⟨r1, s1⟩ := q
        have g := pu_wp e
        split at h
        · cases h; exact ⟨fun u hu => g.1 u (by omega) (by omega), g.2⟩
        · have g2 := ih _ _ _ _ _ _ h (by omega) hb (pu_wp_I e (by omega) hI)
          exact ⟨fun u hu => by rw [g2.1 u hu]; exact g.1 u (by omega) (by omega), fun k h4 h6 => by rw [g2.2 k h4 h6]; exact g.2 k h4 h6⟩
theorem pu_wdh {a b : Nat} {s s' : me_M} {r : Int32} (h : k_wdh a b s = (r, s')) (hab : a ≤ b ∧ b < 4) (hI : k_I s) : (∀ u, 70 ≤ u → s' u = s u) ∧ (∀ k, k ≠ 4 → k ≠ 6 → s' 0 k = s 0 k) := pu_wdh2 _ _ _ _ _ _ _ h (by omega) hab.2 hI
theorem pu_wdh_I {a b : Nat} {s s' : me_M} {r : Int32} (h : k_wdh a b s = (r, s')) (hab : a ≤ b ∧ b < 4) (hI : k_I s) : k_I s' := pu_I_of (pu_wdh h hab hI).1 (fun k h4 h6 _ _ => (pu_wdh h hab hI).2 k h4 h6) hI
/-- where a page may be -/
theorem pu_fo2 : ∀ (n : Nat) (x : Int32) (i : Nat) (s : me_M), 5 ≤ i + n → i ≤ 4 → k_fo_2 n x i s = (-1) ∨ ∃ k, i ≤ k ∧ k < 4 ∧ k_fo_2 n x i s = nI k ∧ s (94 + 2 * k) 1 = x ∧ ∀ j, i ≤ j → j < k → ¬ s (94 + 2 * j) 1 = x := by
  intro n
  induction n with
  | zero => intro x i s h1 h2; omega
  | succ n ih =>
    intro x i s h1 h2
    simp only [k_fo_2]
    split
    · exact Or.inl rfl
    · rename_i c1
      have hi := (not_congr (nI_leI (a := 4) (b := i) (by omega) (by omega))).mp c1
      split
      · rename_i c2
        exact Or.inr ⟨i, Nat.le_refl _, by omega, rfl, c2, fun j h1 h2 => by omega⟩
      · rename_i c2
        rcases ih x (i + 1) s (by omega) (by omega) with h | ⟨k, g1, g2, g3, g4, g5⟩
        · exact Or.inl h
        · exact Or.inr ⟨k, by omega, g2, g3, g4, fun j h1 h2 => by
            by_cases hj : j = i
            · subst hj; exact c2
            · exact g5 j (by omega) h2⟩
theorem pu_fo {x r : Int32} {s : me_M} (e : k_fo x s = r) (hr : ¬ r = (-1)) : ∃ k, k < 4 ∧ r = nI k ∧ s (94 + 2 * k) 1 = x ∧ ∀ j, j < k → ¬ s (94 + 2 * j) 1 = x := by
  rcases pu_fo2 5 x 0 s (by omega) (by omega) with h | ⟨k, -, h2, h3, h4, h5⟩
  · exact absurd (e.symm.trans h) hr
  · exact ⟨k, h2, e.symm.trans h3, h4, fun j hj => h5 j (Nat.zero_le _) hj⟩
theorem pu_fo_in {x r : Int32} {s : me_M} (e : k_fo x s = r) (hr : ¬ r = (-1)) : vp_in r 4 := by
  obtain ⟨k, h1, rfl, -⟩ := pu_fo e hr
  exact vp_in_nI h1 (by decide)
theorem pu_ff4 : ∀ (n v i : Nat) (s : me_M), v < 4 → 1 ≤ i → i ≤ 4 → 5 ≤ i + n → ∃ k, k < 4 ∧ k_ff_4 n v i s = nI k := by
  intro n
  induction n with
  | zero => intro v i s h1 h2 h3 h4; omega
  | succ n ih =>
    intro v i s h1 h2 h3 h4
    simp only [k_ff_4]
    split
    · exact ⟨v, h1, rfl⟩
    · rename_i c1
      have hi := (not_congr (nI_leI (a := 4) (b := i) (by omega) (by omega))).mp c1
      split
      · exact ih v (i + 1) s h1 (by omega) (by omega) (by omega)
      · exact ih i (i + 1) s (by omega) (by omega) (by omega) (by omega)
theorem pu_ff_in {r : Int32} {s : me_M} (e : k_ff s = r) : vp_in r 4 := by
  obtain ⟨k, h1, h2⟩ := pu_ff4 4 0 1 s (by omega) (by omega) (by omega) (by omega)
  rw [← e, k_ff, h2]
  exact vp_in_nI h1 (by decide)
theorem pu_sm4 : ∀ (n : Nat) (x v : Int32) (i : Nat) (s : me_M), (v = (-1) ∨ vp_in v 4) → i ≤ 4 → 5 ≤ i + n → k_sm_4 n x v i s = (-1) ∨ vp_in (k_sm_4 n x v i s) 4 := by
  intro n
  induction n with
  | zero => intro x v i s h1 h2 h3; omega
  | succ n ih =>
    intro x v i s h1 h2 h3
    simp only [k_sm_4]
    split
    · exact h1
    · rename_i c1
      have hi := (not_congr (nI_leI (a := 4) (b := i) (by omega) (by omega))).mp c1
      have hn : nI i = (-1) ∨ vp_in (nI i) 4 := Or.inr (vp_in_nI (by omega) (by decide))
      split
      · exact ih _ _ _ _ h1 (by omega) (by omega)
      · split
        · split
          · exact ih _ _ _ _ hn (by omega) (by omega)
          · split
            · exact ih _ _ _ _ h1 (by omega) (by omega)
            · exact ih _ _ _ _ hn (by omega) (by omega)
        · exact ih _ _ _ _ h1 (by omega) (by omega)
theorem pu_sm_in {x r : Int32} {s : me_M} (e : k_sm x s = r) (hr : ¬ r = (-1)) : vp_in r 4 := by
  rcases pu_sm4 5 x (-1) 0 s (Or.inl rfl) (by omega) (by omega) with h | h
  · exact absurd (e.symm.trans h) hr
  · rw [← e]; exact h
end
section
def k_cd_95 : Nat → Nat → Nat → Nat → Nat → me_M → Int32 × me_M
  | 0, a, b, z, i, s => (0, s)
  | n + 1, a, b, z, i, s => if nI b < (nI i) then (let s125 := me_st s 0 7 ((s 0 7) + (nI z)); (nI z, s125)) else (let s109 := me_st s (94 + 2 * i) 3 (nI 0); k_cd_95 n a b z (i + 1) s109)
def k_cd_17 : Nat → Nat → Nat → Nat → Nat → me_M → Int32 × me_M
  | 0, a, b, z, i, s => (0, s)
  | n + 1, a, b, z, i, s => if nI b < (nI i) then (let q83 := k_wdh a b s; let r83 := q83.1; let s83 := q83.2; if r83 = 0 then (((-3), s83)) else (k_cd_95 5 a b z a s83)) else (if (s (94 + 2 * i) 3) = 0 then (k_cd_17 n a b z (i + 1) s) else (let q62 := k_wp ((12 + z)) (s (94 + 2 * i) 1) (s (94 + 2 * i) 2) (94 + 2 * i + 1) s; let r62 := q62.1; let s62 := q62.2; if r62 = 0 then (((-3), s62)) else (k_cd_17 n a b (z + 1) (i + 1) s62)))
def k_cd (a : Nat) (b : Nat) (σ : me_M) : Int32 × me_M := let q1 := k_lw σ; let r1 := q1.1; let s1 := q1.2; if r1 = (-3) then (((-3), s1)) else (k_cd_17 5 a b 0 a s1)
set_option maxRecDepth 100000 in
set_option maxHeartbeats 4000000 in
theorem c_X3_cleanDirty (l : Launch) (D : va_G) (cy : Nat → ClassId) (ad : Nat → Nat) (xr : va_W) (a : Nat) (b : Nat) (σ : me_M) (hab : a ≤ b ∧ b < 4) (hI : k_I σ) (sz : Nat) : me_Ci l yX3_cleanDirty wsX3_cleanDirty ({ frames := 3, cells := 0, slots := 0, locals := 75 }) D (me_T cy) (kk_W cy ad xr) [.ref (ad 0), .int (nI a), .int (nI b)] sz σ (k_cd a b σ) := by
  refine Met.ofW (cc := cX3_cleanDirty) (maxL := 6) (ret := (some .int)) (by decide) rfl ?_
  intro p e st m args below meth c s₁ B hml hv
  obtain ⟨rfl, hsz, hP, hK, hD0⟩ := hv
  have hx := B.exec
  have hb := B.bytes
  have hr := B.returns
  have hts := atoms_spec (ws := wsX3_cleanDirty) B.pre
  have hown : st.vm.findClass RX3 = some m.cls := findClass_of_methodNamed B.named
  have hlocks := B.notSynchronized
  have in1 : ∀ w ∈ u_ws RX1 TX1 5, w ∈ wsX3_cleanDirty := by decide +kernel
  have in3 : ∀ w ∈ u_ws RX3 TX3 15, w ∈ wsX3_cleanDirty := by decide +kernel
  have k15 := hts (.fieldLink RX3 15 "TwinWrites" "slots" "[LTwinWrites$Place;") (by decide +kernel)
  have k38 := hts (.fieldLink RX3 38 "TwinWrites" "pagesCleaned" "I") (by decide +kernel)
  have k46 := hts (.fieldLink RX3 46 "TwinWrites" "frames" "[LTwinWrites$Frame;") (by decide +kernel)
  have k106 := hts (.fieldLink RX3 106 "TwinWrites$Frame" "words" "[I") (by decide +kernel)
  have k174 := hts (.fieldLink RX3 174 "TwinWrites$Frame" "dirty" "Z") (by decide +kernel)
  have k177 := hts (.fieldLink RX3 177 "TwinWrites$Frame" "page" "I") (by decide +kernel)
  have k180 := hts (.fieldLink RX3 180 "TwinWrites$Frame" "stamp" "I") (by decide +kernel)
  subst hsz
  have hD := hD0.self (sz := st.heap.size)
  have hA : ∀ q : Nat, st.heap.size ≤ q → va_A ((kk_W cy ad xr) σ) st.heap.size q := fun q h => Or.inr h
  have hS : va_S (va_A ((kk_W cy ad xr) σ) st.heap.size) st.heap st.heap [] := va_S.rf
  generalize va_A ((kk_W cy ad xr) σ) st.heap.size = A at hD hA hS ⊢
  have hl := lv_entry ([.ref (ad 0), .int (nI a), .int (nI b)]) (n := 6) (Nat.le_of_ble_eq_true rfl)
  rw [lg_entry_eq]
  generalize (lg_sl ([.ref (ad 0), .int (nI a), .int (nI b)]) ++ List.replicate (6 - (lg_sl ([.ref (ad 0), .int (nI a), .int (nI b)])).length) Slot.unset).toArray = ls at hl ⊢
  have hl : lv_has ls 6 [(0, .ref (ad 0)), (1, .int (nI a)), (2, .int (nI b))] := hl
  refine lv_aload_n hx hb dX3_cleanDirty_0 rfl (lv_at hl 0 rfl) ?_
  refine me_calli (f := k_lw σ) (w := (kk_W cy ad xr)) (σ := σ) (As := []) (rest := []) ⟨hx, hb, hml, hown, hts⟩ (fun sz => c_X3_logWaiting l D cy ad xr  σ (hI) sz) (cwV 0 hts gX3_cleanDirty_X3_logWaiting rfl rfl rfl (by decide +kernel) ⟨Nat.le_of_ble_eq_true rfl, Nat.le_of_ble_eq_true rfl⟩) (va_recv hK hP (ci := 3) (q0 := 0) rfl (me_get (by omega) (kk_0 cy ad _))) hK hP hD hS hA rfl hl.1 rfl (Nat.le_of_ble_eq_true rfl) dX3_cleanDirty_1 ⟨Nat.zero_le _, Nat.zero_le _⟩ (fun r1 s1 H locs e1 hP hD hS => ?_)
  refine lv_bipush (v := (-3)) hx hb dX3_cleanDirty_4 (by decide) ?_
  refine lv_icmp_ne (tgt := 12) hx hb dX3_cleanDirty_6 (by decide) (fun c6 => ?_) (fun c6 => ?_)
  ·
    refine lv_iconst (v := nI 0) hx hb dX3_cleanDirty_12 (by decide) ?_
    refine lv_istore_n (lv' := [(3, .int (nI 0)), (0, .ref (ad 0)), (1, .int (nI a)), (2, .int (nI b))]) hx hb dX3_cleanDirty_13 rfl hl (by decide) rfl (fun ls hl => ?_)
    refine lv_iload_n hx hb dX3_cleanDirty_14 rfl (lv_at hl 2 rfl) ?_
    refine lv_istore (lv' := [(4, .int (nI a)), (3, .int (nI 0)), (0, .ref (ad 0)), (1, .int (nI a)), (2, .int (nI b))]) hx hb dX3_cleanDirty_15 hl (by decide) rfl (fun ls hl => ?_)
    have J17 : ∀ (n : Nat) (z : Nat) (i : Nat) (s : me_M) (H : Heap) (locs : List Loc) (hP : va_P D vwCl ((kk_W cy ad xr) s) H) (hD : va_D A ((kk_W cy ad xr) s)) (hS : va_S A st.heap H locs) (ls : Array Slot) (hl : lv_has ls 6 [(4, .int (nI i)), (3, .int (nI z)), (0, .ref (ad 0)), (1, .int (nI a)), (2, .int (nI b))]), ∀ (hz : z + a ≤ i), ∀ (hi : a ≤ i ∧ i ≤ b + 1), ∀ (hn : b + 2 ≤ i + n), ∀ (hp : ∀ k, k < 4 → ¬ s (94 + 2 * k) 3 = 0 → vp_in (s (94 + 2 * k) 1) 12), k_cd a b σ = k_cd_17 n a b z i s → W p l e (headSpec wsX3_cleanDirty ({ frames := 3, cells := 0, slots := 0, locals := 75 })).room st m ([.ref (ad 0), .int (nI a), .int (nI b)] : List Value).toArray below meth c H locs 0 0 (MQ below (va_Qi (fun r σ' => (r, σ') = k_cd a b σ) (me_B D (me_T cy) A (kk_W cy ad xr)) A) ([.ref (ad 0), .int (nI a), .int (nI b)] : List Value).toArray st 0 0 A) (F0 m 17 ls []) := by
      intro n
      induction n with
      | zero => intro z i s H locs hP hD hS ls hl hz hi hn hp hf17; exfalso; omega
      | succ n ih =>
        intro z i s H locs hP hD hS ls hl hz hi hn hp hf17
        refine lv_iload hx hb dX3_cleanDirty_17 (lv_at hl 0 rfl) ?_
        refine lv_iload_n hx hb dX3_cleanDirty_19 rfl (lv_at hl 4 rfl) ?_
        refine lv_icmp_gt (tgt := 80) hx hb dX3_cleanDirty_20 (by decide) (fun c20 => ?_) (fun c20 => ?_)
        ·
          try have h20 := (nI_ltI (by omega) (by omega)).mp c20
          refine lv_aload_n hx hb dX3_cleanDirty_80 rfl (lv_at hl 2 rfl) ?_
          refine lv_iload_n hx hb dX3_cleanDirty_81 rfl (lv_at hl 3 rfl) ?_
          refine lv_iload_n hx hb dX3_cleanDirty_82 rfl (lv_at hl 4 rfl) ?_
          refine me_calli (f := k_wdh a b s) (w := (kk_W cy ad xr)) (σ := s) (As := [.int (nI a), .int (nI b)]) (rest := []) ⟨hx, hb, hml, hown, hts⟩ (fun sz => c_X3_writeDirtyHome l D cy ad xr a b s (by omega) (hp) sz) (cwV 2 hts gX3_cleanDirty_X3_writeDirtyHome rfl rfl rfl (by decide +kernel) ⟨Nat.le_of_ble_eq_true rfl, Nat.le_of_ble_eq_true rfl⟩) (va_recv hK hP (ci := 3) (q0 := 0) rfl (me_get (by omega) (kk_0 cy ad _))) hK hP hD hS hA rfl hl.1 rfl (Nat.le_of_ble_eq_true rfl) dX3_cleanDirty_83 ⟨Nat.zero_le _, Nat.zero_le _⟩ (fun r83 s83 H locs e83 hP hD hS => ?_)
          refine lv_if_ne (tgt := 92) hx hb dX3_cleanDirty_86 (by decide) (fun c86 => ?_) (fun c86 => ?_)
          ·
            refine lv_iload_n hx hb dX3_cleanDirty_92 rfl (lv_at hl 3 rfl) ?_
            refine lv_istore (lv' := [(4, .int (nI a)), (3, .int (nI z)), (0, .ref (ad 0)), (1, .int (nI a)), (2, .int (nI b))]) hx hb dX3_cleanDirty_93 hl (by decide) rfl (fun ls hl => ?_)
            have J95 : ∀ (n : Nat) (z : Nat) (i : Nat) (s : me_M) (H : Heap) (locs : List Loc) (hP : va_P D vwCl ((kk_W cy ad xr) s) H) (hD : va_D A ((kk_W cy ad xr) s)) (hS : va_S A st.heap H locs) (ls : Array Slot) (hl : lv_has ls 6 [(4, .int (nI i)), (3, .int (nI z)), (0, .ref (ad 0)), (1, .int (nI a)), (2, .int (nI b))]), ∀ (hi : a ≤ i ∧ i ≤ b + 1), ∀ (hn : b + 2 ≤ i + n), k_cd a b σ = k_cd_95 n a b z i s → W p l e (headSpec wsX3_cleanDirty ({ frames := 3, cells := 0, slots := 0, locals := 75 })).room st m ([.ref (ad 0), .int (nI a), .int (nI b)] : List Value).toArray below meth c H locs 0 0 (MQ below (va_Qi (fun r σ' => (r, σ') = k_cd a b σ) (me_B D (me_T cy) A (kk_W cy ad xr)) A) ([.ref (ad 0), .int (nI a), .int (nI b)] : List Value).toArray st 0 0 A) (F0 m 95 ls []) := by
              intro n
              induction n with
              | zero => intro z i s H locs hP hD hS ls hl hi hn hf95; exfalso; omega
              | succ n ih =>
                intro z i s H locs hP hD hS ls hl hi hn hf95
                refine lv_iload hx hb dX3_cleanDirty_95 (lv_at hl 0 rfl) ?_
                refine lv_iload_n hx hb dX3_cleanDirty_97 rfl (lv_at hl 4 rfl) ?_
                refine lv_icmp_gt (tgt := 118) hx hb dX3_cleanDirty_98 (by decide) (fun c98 => ?_) (fun c98 => ?_)
                ·
                  try have h98 := (nI_ltI (by omega) (by omega)).mp c98
                  refine lv_aload_n hx hb dX3_cleanDirty_118 rfl (lv_at hl 2 rfl) ?_
                  refine lv_dup hx hb dX3_cleanDirty_119 rfl ?_
                  refine va_get (D := D) (ci := 3) (v := .int (s 0 7)) (C := RX3) (T := TX3) (N := 15) hx hb hts in3 hown hK hP 0 (me_get (by omega) (kk_0 cy ad _)) rfl 7 (by decide) k38 (fun _ h9 => h9) rfl dX3_cleanDirty_120 ?_
                  refine lv_iload_n hx hb dX3_cleanDirty_123 rfl (lv_at hl 1 rfl) ?_
                  refine lv_iadd hx hb dX3_cleanDirty_124 ?_
                  refine me_put (ty := .int) (ci := 3) (C := RX3) (T := TX3) (M := 15) hx hb hts in3 tyX3 tyX3_ok nmX3 hown hK hP hD hS 0 (by omega) (kk_0 cy ad _) rfl 7 (by decide) k38 (fun _ h9 => h9) rfl (by decide +kernel) rfl rfl (Nat.le_of_ble_eq_true rfl) (kk_0 cy ad _) dX3_cleanDirty_125 (fun s125 H locs e125 hP hD hS => ?_)
                  refine lv_iload_n hx hb dX3_cleanDirty_128 rfl (lv_at hl 1 rfl) ?_
                  exact me_reti hx hb hr rfl hlocks hK hP hD hS (by rw [hf95]; simp only [k_cd_95, if_pos c98, e125]) dX3_cleanDirty_129
                ·
                  try have h98 := (not_congr (nI_ltI (by omega) (by omega))).mp c98
                  refine lv_aload_n hx hb dX3_cleanDirty_101 rfl (lv_at hl 2 rfl) ?_
                  refine va_get (D := D) (ci := 3) (v := .ref (ad 4)) (C := RX3) (T := TX3) (N := 15) hx hb hts in3 hown hK hP 0 (me_get (by omega) (kk_0 cy ad _)) rfl 9 (by decide) k46 (fun _ h9 => h9) rfl dX3_cleanDirty_102 ?_
                  refine lv_iload hx hb dX3_cleanDirty_105 (lv_at hl 0 rfl) ?_
                  refine me_aald (g := fun j => ad (94 + 2 * j)) hx hb hK hP 4 5 (by omega) (fun f => kk_a4 cy ad f) rfl i rfl (by omega) (by decide) dX3_cleanDirty_107 ?_
                  refine lv_iconst (v := nI 0) hx hb dX3_cleanDirty_108 (by decide) ?_
                  refine me_put (ty := .boolean) (ci := 1) (C := RX1) (T := TX1) (M := 5) hx hb hts in1 tyX1 tyX1_ok nmX1 hown hK hP hD hS (94 + 2 * i) (by omega) (kk_fr cy ad (by omega) _) rfl 3 (by decide) k174 (fun _ h9 => h9) rfl (by decide +kernel) rfl rfl (Nat.le_of_ble_eq_true rfl) (kk_fr cy ad (by omega) _) dX3_cleanDirty_109 (fun s109 H locs e109 hP hD hS => ?_)
                  refine lv_iinc (v := nI (i + 1)) (lv' := [(4, .int (nI (i + 1))), (3, .int (nI z)), (0, .ref (ad 0)), (1, .int (nI a)), (2, .int (nI b))]) hx hb dX3_cleanDirty_112 hl (k := 0) rfl (me_inc _) (by decide) rfl (fun ls hl => ?_)
                  refine lv_goto (tgt := 95) hx hb dX3_cleanDirty_115 (by decide) ?_
                  exact ih z (i + 1) s109 _ _ hP hD hS ls (lv_sub hl [0, 1, 2, 3, 4] rfl) (by omega) (by omega) (by rw [hf95]; simp only [k_cd_95, if_neg c98, e109])
            exact J95 5 z a s83 _ _ hP hD hS ls (lv_sub hl [0, 1, 2, 3, 4] rfl) (by omega) (by omega) (by rw [hf17]; simp only [k_cd_17, if_pos c20, e83, if_neg c86])
          ·
            refine lv_bipush (v := (-3)) hx hb dX3_cleanDirty_89 (by decide) ?_
            exact me_reti hx hb hr rfl hlocks hK hP hD hS (by rw [hf17]; simp only [k_cd_17, if_pos c20, e83, if_pos c86]) dX3_cleanDirty_91
        ·
          try have h20 := (not_congr (nI_ltI (by omega) (by omega))).mp c20
          refine lv_aload_n hx hb dX3_cleanDirty_23 rfl (lv_at hl 2 rfl) ?_
          refine va_get (D := D) (ci := 3) (v := .ref (ad 4)) (C := RX3) (T := TX3) (N := 15) hx hb hts in3 hown hK hP 0 (me_get (by omega) (kk_0 cy ad _)) rfl 9 (by decide) k46 (fun _ h9 => h9) rfl dX3_cleanDirty_24 ?_
          refine lv_iload hx hb dX3_cleanDirty_27 (lv_at hl 0 rfl) ?_
          refine me_aald (g := fun j => ad (94 + 2 * j)) hx hb hK hP 4 5 (by omega) (fun f => kk_a4 cy ad f) rfl i rfl (by omega) (by decide) dX3_cleanDirty_29 ?_
          refine lv_astore (lv' := [(5, .ref (ad (94 + 2 * i))), (4, .int (nI i)), (3, .int (nI z)), (0, .ref (ad 0)), (1, .int (nI a)), (2, .int (nI b))]) hx hb dX3_cleanDirty_30 hl (by decide) rfl (fun ls hl => ?_)
          refine lv_aload hx hb dX3_cleanDirty_32 (lv_at hl 0 rfl) ?_
          refine va_get (D := D) (ci := 1) (v := .int (s (94 + 2 * i) 3)) (C := RX1) (T := TX1) (N := 5) hx hb hts in1 hown hK hP (94 + 2 * i) (me_get (by omega) (kk_fr cy ad (by omega) _)) rfl 3 (by decide) k174 (fun _ h9 => h9) rfl dX3_cleanDirty_34 ?_
          refine lv_if_eq (tgt := 74) hx hb dX3_cleanDirty_37 (by decide) (fun c37 => ?_) (fun c37 => ?_)
          ·
            refine lv_iinc (v := nI (i + 1)) (lv' := [(4, .int (nI (i + 1))), (5, .ref (ad (94 + 2 * i))), (3, .int (nI z)), (0, .ref (ad 0)), (1, .int (nI a)), (2, .int (nI b))]) hx hb dX3_cleanDirty_74 hl (k := 1) rfl (me_inc _) (by decide) rfl (fun ls hl => ?_)
            refine lv_goto (tgt := 17) hx hb dX3_cleanDirty_77 (by decide) ?_
            exact ih z (i + 1) s _ _ hP hD hS ls (lv_sub hl [0, 2, 3, 4, 5] rfl) (by omega) (by omega) (by omega) (by first | exact hp | exact pu_wp_hp e62 (by omega) hp) (by rw [hf17]; simp only [k_cd_17, if_neg c20, if_pos c37])
          ·
            refine lv_aload_n hx hb dX3_cleanDirty_40 rfl (lv_at hl 3 rfl) ?_
            refine lv_aload_n hx hb dX3_cleanDirty_41 rfl (lv_at hl 3 rfl) ?_
            refine va_get (D := D) (ci := 3) (v := .ref (ad 2)) (C := RX3) (T := TX3) (N := 15) hx hb hts in3 hown hK hP 0 (me_get (by omega) (kk_0 cy ad _)) rfl 1 (by decide) k15 (fun _ h9 => h9) rfl dX3_cleanDirty_42 ?_
            refine lv_iload_n hx hb dX3_cleanDirty_45 rfl (lv_at hl 2 rfl) ?_
            refine me_aald (g := fun j => ad (6 + 4 * (12 + j))) hx hb hK hP 2 3 (by omega) (fun f => kk_a2 cy ad f) rfl z rfl (by omega) (by decide) dX3_cleanDirty_46 ?_
            refine lv_aload hx hb dX3_cleanDirty_47 (lv_at hl 0 rfl) ?_
            refine va_get (D := D) (ci := 1) (v := .int (s (94 + 2 * i) 1)) (C := RX1) (T := TX1) (N := 5) hx hb hts in1 hown hK hP (94 + 2 * i) (me_get (by omega) (kk_fr cy ad (by omega) _)) rfl 1 (by decide) k177 (fun _ h9 => h9) rfl dX3_cleanDirty_49 ?_
            refine lv_aload hx hb dX3_cleanDirty_52 (lv_at hl 0 rfl) ?_
            refine va_get (D := D) (ci := 1) (v := .int (s (94 + 2 * i) 2)) (C := RX1) (T := TX1) (N := 5) hx hb hts in1 hown hK hP (94 + 2 * i) (me_get (by omega) (kk_fr cy ad (by omega) _)) rfl 2 (by decide) k180 (fun _ h9 => h9) rfl dX3_cleanDirty_54 ?_
            refine lv_aload hx hb dX3_cleanDirty_57 (lv_at hl 0 rfl) ?_
            refine va_get (D := D) (ci := 1) (v := .ref (ad (94 + 2 * i + 1))) (C := RX1) (T := TX1) (N := 5) hx hb hts in1 hown hK hP (94 + 2 * i) (me_get (by omega) (kk_fr cy ad (by omega) _)) rfl 0 (by decide) k106 (fun _ h9 => h9) rfl dX3_cleanDirty_59 ?_
            refine me_calli (f := k_wp ((12 + z)) (s (94 + 2 * i) 1) (s (94 + 2 * i) 2) (94 + 2 * i + 1) s) (w := (kk_W cy ad xr)) (σ := s) (As := [.ref (ad (6 + 4 * (12 + z))), .int (s (94 + 2 * i) 1), .int (s (94 + 2 * i) 2), .ref (ad (94 + 2 * i + 1))]) (rest := []) ⟨hx, hb, hml, hown, hts⟩ (fun sz => c_X3_writePage l D cy ad xr ((12 + z)) (s (94 + 2 * i) 1) (s (94 + 2 * i) 2) (94 + 2 * i + 1) s (by omega) (by omega) sz) (cwV 4 hts gX3_cleanDirty_X3_writePage rfl rfl rfl (by decide +kernel) ⟨Nat.le_of_ble_eq_true rfl, Nat.le_of_ble_eq_true rfl⟩) (va_recv hK hP (ci := 3) (q0 := 0) rfl (me_get (by omega) (kk_0 cy ad _))) hK hP hD hS hA rfl hl.1 rfl (Nat.le_of_ble_eq_true rfl) dX3_cleanDirty_62 ⟨Nat.zero_le _, Nat.zero_le _⟩ (fun r62 s62 H locs e62 hP hD hS => ?_)
            refine lv_if_ne (tgt := 71) hx hb dX3_cleanDirty_65 (by decide) (fun c65 => ?_) (fun c65 => ?_)
            ·
              refine lv_iinc (v := nI (z + 1)) (lv' := [(3, .int (nI (z + 1))), (5, .ref (ad (94 + 2 * i))), (4, .int (nI i)), (0, .ref (ad 0)), (1, .int (nI a)), (2, .int (nI b))]) hx hb dX3_cleanDirty_71 hl (k := 2) rfl (me_inc _) (by decide) rfl (fun ls hl => ?_)
              refine lv_iinc (v := nI (i + 1)) (lv' := [(4, .int (nI (i + 1))), (3, .int (nI (z + 1))), (5, .ref (ad (94 + 2 * i))), (0, .ref (ad 0)), (1, .int (nI a)), (2, .int (nI b))]) hx hb dX3_cleanDirty_74 hl (k := 2) rfl (me_inc _) (by decide) rfl (fun ls hl => ?_)
              refine lv_goto (tgt := 17) hx hb dX3_cleanDirty_77 (by decide) ?_
              exact ih (z + 1) (i + 1) s62 _ _ hP hD hS ls (lv_sub hl [0, 1, 3, 4, 5] rfl) (by omega) (by omega) (by omega) (by first | exact hp | exact pu_wp_hp e62 (by omega) hp) (by rw [hf17]; simp only [k_cd_17, if_neg c20, if_neg c37, e62, if_neg c65])
            ·
              refine lv_bipush (v := (-3)) hx hb dX3_cleanDirty_68 (by decide) ?_
              exact me_reti hx hb hr rfl hlocks hK hP hD hS (by rw [hf17]; simp only [k_cd_17, if_neg c20, if_neg c37, e62, if_pos c65]) dX3_cleanDirty_70
    exact J17 5 0 a s1 _ _ hP hD hS ls (lv_sub hl [0, 1, 2, 3, 4] rfl) (by omega) (by omega) (by omega) (pu_lw_hp e1 hI.1) (by simp only [k_cd, e1, if_neg c6])
  ·
    refine lv_bipush (v := (-3)) hx hb dX3_cleanDirty_9 (by decide) ?_
    exact me_reti hx hb hr rfl hlocks hK hP hD hS (by simp only [k_cd, e1, if_pos c6]) dX3_cleanDirty_11

def k_cam  (σ : me_M) : Int32 × me_M := let q3 := k_cd 0 3 σ; let r3 := q3.1; let s3 := q3.2; if r3 = (-3) then (((-3), s3)) else (let q14 := k_ph s3; let r14 := q14.1; let s14 := q14.2; if r14 = 0 then (((-3), s14)) else (let s28 := me_st s14 0 3 (s14 0 12); (r3, s28)))
set_option maxRecDepth 100000 in
set_option maxHeartbeats 4000000 in
theorem c_X3_cleanAllAndMark (l : Launch) (D : va_G) (cy : Nat → ClassId) (ad : Nat → Nat) (xr : va_W)  (σ : me_M) (hI : k_I σ) (sz : Nat) : me_Ci l yX3_cleanAllAndMark wsX3_cleanAllAndMark ({ frames := 4, cells := 0, slots := 0, locals := 100 }) D (me_T cy) (kk_W cy ad xr) [.ref (ad 0)] sz σ (k_cam  σ) := by
  refine Met.ofW (cc := cX3_cleanAllAndMark) (maxL := 2) (ret := (some .int)) (by decide) rfl ?_
  intro p e st m args below meth c s₁ B hml hv
  obtain ⟨rfl, hsz, hP, hK, hD0⟩ := hv
  have hx := B.exec
  have hb := B.bytes
  have hr := B.returns
  have hts := atoms_spec (ws := wsX3_cleanAllAndMark) B.pre
  have hown : st.vm.findClass RX3 = some m.cls := findClass_of_methodNamed B.named
  have hlocks := B.notSynchronized
  have in3 : ∀ w ∈ u_ws RX3 TX3 15, w ∈ wsX3_cleanAllAndMark := by decide +kernel
  have k24 := hts (.fieldLink RX3 24 "TwinWrites" "mark" "I") (by decide +kernel)
  have k56 := hts (.fieldLink RX3 56 "TwinWrites" "nextNumber" "I") (by decide +kernel)
  subst hsz
  have hD := hD0.self (sz := st.heap.size)
  have hA : ∀ q : Nat, st.heap.size ≤ q → va_A ((kk_W cy ad xr) σ) st.heap.size q := fun q h => Or.inr h
  have hS : va_S (va_A ((kk_W cy ad xr) σ) st.heap.size) st.heap st.heap [] := va_S.rf
  generalize va_A ((kk_W cy ad xr) σ) st.heap.size = A at hD hA hS ⊢
  have hl := lv_entry ([.ref (ad 0)]) (n := 2) (Nat.le_of_ble_eq_true rfl)
  rw [lg_entry_eq]
  generalize (lg_sl ([.ref (ad 0)]) ++ List.replicate (2 - (lg_sl ([.ref (ad 0)])).length) Slot.unset).toArray = ls at hl ⊢
  have hl : lv_has ls 2 [(0, .ref (ad 0))] := hl
  refine lv_aload_n hx hb dX3_cleanAllAndMark_0 rfl (lv_at hl 0 rfl) ?_
  refine lv_iconst (v := nI 0) hx hb dX3_cleanAllAndMark_1 (by decide) ?_
  refine lv_iconst (v := nI 3) hx hb dX3_cleanAllAndMark_2 (by decide) ?_
  refine me_calli (f := k_cd 0 3 σ) (w := (kk_W cy ad xr)) (σ := σ) (As := [.int (nI 0), .int (nI 3)]) (rest := []) ⟨hx, hb, hml, hown, hts⟩ (fun sz => c_X3_cleanDirty l D cy ad xr 0 3 σ (by omega) (hI) sz) (cwV 2 hts gX3_cleanAllAndMark_X3_cleanDirty rfl rfl rfl (by decide +kernel) ⟨Nat.le_of_ble_eq_true rfl, Nat.le_of_ble_eq_true rfl⟩) (va_recv hK hP (ci := 3) (q0 := 0) rfl (me_get (by omega) (kk_0 cy ad _))) hK hP hD hS hA rfl hl.1 rfl (Nat.le_of_ble_eq_true rfl) dX3_cleanAllAndMark_3 ⟨Nat.zero_le _, Nat.zero_le _⟩ (fun r3 s3 H locs e3 hP hD hS => ?_)
  refine lv_istore_n (lv' := [(1, .int r3), (0, .ref (ad 0))]) hx hb dX3_cleanAllAndMark_6 rfl hl (by decide) rfl (fun ls hl => ?_)
  refine lv_iload_n hx hb dX3_cleanAllAndMark_7 rfl (lv_at hl 0 rfl) ?_
  refine lv_bipush (v := (-3)) hx hb dX3_cleanAllAndMark_8 (by decide) ?_
  refine lv_icmp_eq (tgt := 20) hx hb dX3_cleanAllAndMark_10 (by decide) (fun c10 => ?_) (fun c10 => ?_)
  ·
    refine lv_bipush (v := (-3)) hx hb dX3_cleanAllAndMark_20 (by decide) ?_
    exact me_reti hx hb hr rfl hlocks hK hP hD hS (by simp only [k_cam, e3, if_pos c10]) dX3_cleanAllAndMark_22
  ·
    refine lv_aload_n hx hb dX3_cleanAllAndMark_13 rfl (lv_at hl 1 rfl) ?_
    refine me_calli (f := k_ph s3) (w := (kk_W cy ad xr)) (σ := s3) (As := []) (rest := []) ⟨hx, hb, hml, hown, hts⟩ (fun sz => c_X3_powerHolds l D cy ad xr  s3  sz) (cwV 0 hts gX3_cleanAllAndMark_X3_powerHolds rfl rfl rfl (by decide +kernel) ⟨Nat.le_of_ble_eq_true rfl, Nat.le_of_ble_eq_true rfl⟩) (va_recv hK hP (ci := 3) (q0 := 0) rfl (me_get (by omega) (kk_0 cy ad _))) hK hP hD hS hA rfl hl.1 rfl (Nat.le_of_ble_eq_true rfl) dX3_cleanAllAndMark_14 ⟨Nat.zero_le _, Nat.zero_le _⟩ (fun r14 s14 H locs e14 hP hD hS => ?_)
    refine lv_if_ne (tgt := 23) hx hb dX3_cleanAllAndMark_17 (by decide) (fun c17 => ?_) (fun c17 => ?_)
    ·
      refine lv_aload_n hx hb dX3_cleanAllAndMark_23 rfl (lv_at hl 1 rfl) ?_
      refine lv_aload_n hx hb dX3_cleanAllAndMark_24 rfl (lv_at hl 1 rfl) ?_
      refine va_get (D := D) (ci := 3) (v := .int (s14 0 12)) (C := RX3) (T := TX3) (N := 15) hx hb hts in3 hown hK hP 0 (me_get (by omega) (kk_0 cy ad _)) rfl 12 (by decide) k56 (fun _ h9 => h9) rfl dX3_cleanAllAndMark_25 ?_
      refine me_put (ty := .int) (ci := 3) (C := RX3) (T := TX3) (M := 15) hx hb hts in3 tyX3 tyX3_ok nmX3 hown hK hP hD hS 0 (by omega) (kk_0 cy ad _) rfl 3 (by decide) k24 (fun _ h9 => h9) rfl (by decide +kernel) rfl rfl (Nat.le_of_ble_eq_true rfl) (kk_0 cy ad _) dX3_cleanAllAndMark_28 (fun s28 H locs e28 hP hD hS => ?_)
      refine lv_iload_n hx hb dX3_cleanAllAndMark_31 rfl (lv_at hl 0 rfl) ?_
      exact me_reti hx hb hr rfl hlocks hK hP hD hS (by simp only [k_cam, e3, if_neg c10, e14, if_neg c17, e28]) dX3_cleanAllAndMark_32
    ·
      refine lv_bipush (v := (-3)) hx hb dX3_cleanAllAndMark_20 (by decide) ?_
      exact me_reti hx hb hr rfl hlocks hK hP hD hS (by simp only [k_cam, e3, if_neg c10, e14, if_pos c17]) dX3_cleanAllAndMark_22
end
section
/-! PURE D: k_I goes on through cleanDirty -/
theorem pu_cd95 : ∀ (n a b z i : Nat) (s s' : me_M) (r : Int32), k_cd_95 n a b z i s = (r, s') → i ≤ b + 1 → b < 4 → k_I s → k_I s' := by
  intro n
  induction n with
  | zero => intro a b z i s s' r h _ _ hI; cases h; exact hI
  | succ n ih =>
    intro a b z i s s' r h hi hb hI
    simp only [k_cd_95] at h
    split at h
    · cases h
      exact pu_I_of (fun u hu => me_st_c _ _ _ (by omega)) (fun k _ _ h7 _ => me_st_s _ _ _ h7) hI
    · rename_i c1
      have hib := (not_congr (nI_ltI (a := b) (b := i) (by omega) (by omega))).mp c1
      refine ih _ _ _ _ _ _ _ h (by omega) hb ?_
      obtain ⟨i1, i2, i3, i4, i5, i6⟩ := hI
      refine ⟨fun k hk hd => ?_, fun u hu hv => ?_, ?_, ?_, ?_, ?_⟩
      · by_cases hki : k = i
        · subst hki
          rw [me_st_self] at hd
          exact absurd nI_0 hd
        · rw [me_st_c _ _ _ (by omega)] at hd ⊢
          exact i1 k hk hd
      · rw [me_st_c _ _ _ (by omega)]; exact i2 u hu hv
      · rw [me_st_c _ _ _ (by omega)]; exact i3
      · rw [me_st_c _ _ _ (by omega)]; exact i4
      · rw [me_st_c _ _ _ (by omega)]; exact i5
      · rw [me_st_c _ _ _ (by omega)]; exact i6
theorem pu_cd17 : ∀ (n a b z i : Nat) (s s' : me_M) (r : Int32), k_cd_17 n a b z i s = (r, s') → a ≤ i → z + a ≤ i → i ≤ b + 1 → a ≤ b → b < 4 → k_I s → k_I s' := by
  intro n
  induction n with
  | zero => intro a b z i s s' r h _ _ _ _ _ hI; cases h; exact hI
  | succ n ih =>
    intro a b z i s s' r h hai hz hi hab hb hI
    simp only [k_cd_17] at h
    split at h
    · generalize e : k_wdh a b s = q at h
      obtain ⟨r1, s1⟩ := q
      have g := pu_wdh_I e ⟨hab, hb⟩ hI
      split at h
      · cases h; exact g
      · exact pu_cd95 _ _ _ _ _ _ _ _ h (by omega) hb g
    · rename_i c1
      have hib := (not_congr (nI_ltI (a := b) (b := i) (by omega) (by omega))).mp c1
      split at h
      · exact ih _ _ _ _ _ _ _ h (by omega) (by omega) (by omega) hab hb hI
      · generalize e : k_wp (12 + z) (s (94 + 2 * i) 1) (s (94 + 2 * i) 2) (94 + 2 * i + 1) s = q at h
        obtain ⟨r1, s1⟩ := q
        have g := pu_wp_I e (by omega) hI
        split at h
        · cases h; exact g
        · exact ih _ _ _ _ _ _ _ h (by omega) (by omega) (by omega) hab hb g
theorem pu_cd_I {a b : Nat} {s s' : me_M} {r : Int32} (h : k_cd a b s = (r, s')) (hab : a ≤ b ∧ b < 4) (hI : k_I s) : k_I s' := by
  simp only [k_cd] at h
  generalize e : k_lw s = q at h
  obtain ⟨r1, s1⟩ := q
  have g := pu_lw_I e hI
  split at h
  · cases h; exact g
  · exact pu_cd17 _ _ _ _ _ _ _ _ h (by omega) (by omega) (by omega) hab.1 hab.2 g
theorem pu_cam_I {s s' : me_M} {r : Int32} (h : k_cam s = (r, s')) (hI : k_I s) : k_I s' := by
  simp only [k_cam] at h
  generalize e : k_cd 0 3 s = q at h
  obtain ⟨r1, s1⟩ := q
  have g := pu_cd_I e (by omega) hI
  split at h
  · cases h; exact g
  · generalize e2 : k_ph s1 = q at h
    obtain ⟨r2, s2⟩ := q
    have g2 := pu_ph_I e2 g
    split at h
    · cases h; exact g2
    · cases h
      obtain ⟨i1, i2, i3, i4, i5, i6⟩ := g2
      refine ⟨fun k hk hd => ?_, fun u hu hv => ?_, ?_, ?_, ?_, ?_⟩
      · rw [me_st_c _ _ _ (by omega)] at hd ⊢; exact i1 k hk hd
      · rw [me_st_c _ _ _ (by omega)]; exact i2 u hu hv
      · rw [me_st_s _ _ _ (by decide)]; exact i3
      · rw [me_st_s _ _ _ (by decide)]; exact i4
      · rw [me_st_s _ _ _ (by decide), me_st_s _ _ _ (by decide)]; exact i5
      · rw [me_st_self]; exact i4
theorem pu_fill2 : ∀ (n k : Nat) (x : Int32) (j i : Nat) (s : me_M), (∀ u, u ≠ 94 + 2 * k → u ≠ 94 + 2 * k + 1 → k_fill_2 n k x j i s u = s u) := by
  intro n
  induction n with
  | zero => intros; rfl
  | succ n ih =>
    intro k x j i s u h1 h2
    simp only [k_fill_2]
    split
    · rw [me_st_c _ _ _ h1, me_st_c _ _ _ h1, me_st_c _ _ _ h1]
    · rw [ih _ _ _ _ _ _ h1 h2, me_st_c _ _ _ h2]
theorem pu_fill3 : ∀ (n k : Nat) (x : Int32) (j i : Nat) (s : me_M), 17 ≤ i + n → i ≤ 16 → k_fill_2 n k x j i s (94 + 2 * k) 1 = x ∧ k_fill_2 n k x j i s (94 + 2 * k) 3 = nI 0 := by
  intro n
  induction n with
  | zero => intro k x j i s h1 h2; omega
  | succ n ih =>
    intro k x j i s h1 h2
    simp only [k_fill_2]
    split
    · simp [me_st_eq]
    · rename_i c1
      have hi := (not_congr (nI_leI (a := 16) (b := i) (by omega) (by omega))).mp c1
      exact ih _ _ _ _ _ (by omega) (by omega)
theorem pu_fill_I {k j : Nat} {x : Int32} {s : me_M} (hk : k < 4) (hI : k_I s) : k_I (k_fill k x j s) ∧ k_fill k x j s (94 + 2 * k) 1 = x := by
  have hc := pu_fill2 17 k x j 0 s
  have hd := pu_fill3 17 k x j 0 s (by omega) (by omega)
  obtain ⟨i1, i2, i3, i4, i5, i6⟩ := hI
  refine ⟨⟨fun k' hk' hd' => ?_, fun u hu hv => ?_, ?_, ?_, ?_, ?_⟩, hd.1⟩
  · by_cases hkk : k' = k
    · subst hkk
      rw [k_fill, hd.2] at hd'
      exact absurd nI_0 hd'
    · rw [k_fill, hc _ (by omega) (by omega)] at hd' ⊢
      exact i1 k' hk' hd'
  · rw [k_fill, hc _ (by omega) (by omega)]; exact i2 u hu hv
  · rw [k_fill, hc _ (by omega) (by omega)]; exact i3
  · rw [k_fill, hc _ (by omega) (by omega)]; exact i4
  · rw [k_fill, hc _ (by omega) (by omega)]; exact i5
  · rw [k_fill, hc _ (by omega) (by omega)]; exact i6
end
section
/-! THE REFERENCE'S WORLD: 19 cells. 0 the object; 1 homeStamp, 2 homeWord, 3 besideStamp, 4 besidePage, 5 besideWord, 6 logNumber, 7 logPage, 8 logWhich, 9 logWord, 10 framePage, 11 frameStamp, 12 isDirty, 13 asked, 14 frameWord, 15 waitNumber, 16 waitPage, 17 waitWhich, 18 waitWord -/
def mm_E (cy : Nat → ClassId) (ad : Nat → Nat) (i : Nat) (f : Nat → Int32) : va_E := match i with
  | 0 => .inr (4, [.int (f 0), .ref (ad 1), .ref (ad 2), .ref (ad 3), .ref (ad 4), .ref (ad 5), .ref (ad 6), .ref (ad 7), .ref (ad 8), .ref (ad 9), .int (f 10), .ref (ad 10), .ref (ad 11), .ref (ad 12), .ref (ad 13), .ref (ad 14), .int (f 16), .int (f 17), .int (f 18), .ref (ad 15), .ref (ad 16), .ref (ad 17), .ref (ad 18), .int (f 23), .int (f 24), .int (f 25), .int (f 26), .int (f 27), .int (f 28)])
  | 1 => .inl (cy 0, 48, .inl f)
  | 2 => .inl (cy 0, 192, .inl f)
  | 3 => .inl (cy 0, 16, .inl f)
  | 4 => .inl (cy 0, 16, .inl f)
  | 5 => .inl (cy 0, 64, .inl f)
  | 6 => .inl (cy 0, 12, .inl f)
  | 7 => .inl (cy 0, 12, .inl f)
  | 8 => .inl (cy 0, 12, .inl f)
  | 9 => .inl (cy 0, 12, .inl f)
  | 10 => .inl (cy 0, 4, .inl f)
  | 11 => .inl (cy 0, 4, .inl f)
  | 12 => .inl (cy 1, 4, .inl f)
  | 13 => .inl (cy 0, 4, .inl f)
  | 14 => .inl (cy 0, 64, .inl f)
  | 15 => .inl (cy 0, 16, .inl f)
  | 16 => .inl (cy 0, 16, .inl f)
  | 17 => .inl (cy 0, 16, .inl f)
  | 18 => .inl (cy 0, 16, .inl f)
  | _ => .inl (cy 0, 0, .inl f)
abbrev mm_W (cy : Nat → ClassId) (ad : Nat → Nat) (xr : va_W) : me_M → va_W := me_w (mm_E cy ad) ad 19 xr
theorem mm_0 (cy : Nat → ClassId) (ad : Nat → Nat) (f : Nat → Int32) : mm_E cy ad 0 f = .inr (4, [.int (f 0), .ref (ad 1), .ref (ad 2), .ref (ad 3), .ref (ad 4), .ref (ad 5), .ref (ad 6), .ref (ad 7), .ref (ad 8), .ref (ad 9), .int (f 10), .ref (ad 10), .ref (ad 11), .ref (ad 12), .ref (ad 13), .ref (ad 14), .int (f 16), .int (f 17), .int (f 18), .ref (ad 15), .ref (ad 16), .ref (ad 17), .ref (ad 18), .int (f 23), .int (f 24), .int (f 25), .int (f 26), .int (f 27), .int (f 28)]) := rfl
theorem mm_1 (cy : Nat → ClassId) (ad : Nat → Nat) (f : Nat → Int32) : mm_E cy ad 1 f = .inl (cy 0, 48, .inl f) := rfl
theorem mm_2 (cy : Nat → ClassId) (ad : Nat → Nat) (f : Nat → Int32) : mm_E cy ad 2 f = .inl (cy 0, 192, .inl f) := rfl
theorem mm_3 (cy : Nat → ClassId) (ad : Nat → Nat) (f : Nat → Int32) : mm_E cy ad 3 f = .inl (cy 0, 16, .inl f) := rfl
theorem mm_4 (cy : Nat → ClassId) (ad : Nat → Nat) (f : Nat → Int32) : mm_E cy ad 4 f = .inl (cy 0, 16, .inl f) := rfl
theorem mm_5 (cy : Nat → ClassId) (ad : Nat → Nat) (f : Nat → Int32) : mm_E cy ad 5 f = .inl (cy 0, 64, .inl f) := rfl
theorem mm_6 (cy : Nat → ClassId) (ad : Nat → Nat) (f : Nat → Int32) : mm_E cy ad 6 f = .inl (cy 0, 12, .inl f) := rfl
theorem mm_7 (cy : Nat → ClassId) (ad : Nat → Nat) (f : Nat → Int32) : mm_E cy ad 7 f = .inl (cy 0, 12, .inl f) := rfl
theorem mm_8 (cy : Nat → ClassId) (ad : Nat → Nat) (f : Nat → Int32) : mm_E cy ad 8 f = .inl (cy 0, 12, .inl f) := rfl
theorem mm_9 (cy : Nat → ClassId) (ad : Nat → Nat) (f : Nat → Int32) : mm_E cy ad 9 f = .inl (cy 0, 12, .inl f) := rfl
theorem mm_10 (cy : Nat → ClassId) (ad : Nat → Nat) (f : Nat → Int32) : mm_E cy ad 10 f = .inl (cy 0, 4, .inl f) := rfl
theorem mm_11 (cy : Nat → ClassId) (ad : Nat → Nat) (f : Nat → Int32) : mm_E cy ad 11 f = .inl (cy 0, 4, .inl f) := rfl
theorem mm_12 (cy : Nat → ClassId) (ad : Nat → Nat) (f : Nat → Int32) : mm_E cy ad 12 f = .inl (cy 1, 4, .inl f) := rfl
theorem mm_13 (cy : Nat → ClassId) (ad : Nat → Nat) (f : Nat → Int32) : mm_E cy ad 13 f = .inl (cy 0, 4, .inl f) := rfl
theorem mm_14 (cy : Nat → ClassId) (ad : Nat → Nat) (f : Nat → Int32) : mm_E cy ad 14 f = .inl (cy 0, 64, .inl f) := rfl
theorem mm_15 (cy : Nat → ClassId) (ad : Nat → Nat) (f : Nat → Int32) : mm_E cy ad 15 f = .inl (cy 0, 16, .inl f) := rfl
theorem mm_16 (cy : Nat → ClassId) (ad : Nat → Nat) (f : Nat → Int32) : mm_E cy ad 16 f = .inl (cy 0, 16, .inl f) := rfl
theorem mm_17 (cy : Nat → ClassId) (ad : Nat → Nat) (f : Nat → Int32) : mm_E cy ad 17 f = .inl (cy 0, 16, .inl f) := rfl
theorem mm_18 (cy : Nat → ClassId) (ad : Nat → Nat) (f : Nat → Int32) : mm_E cy ad 18 f = .inl (cy 0, 16, .inl f) := rfl
theorem me_nar {x : Int32} (h : x = nI 0 ∨ x = nI 1) : narrow .boolean (.int x) = .int x := by rcases h with rfl | rfl <;> rfl
theorem me_av {l : Launch} {y : MethodName} {ws : List Cond} {rm : Room} {D : va_G} {tys : List (ClassId × FieldType)} {w : me_M → va_W} {av av' : List Value} {sz : Nat} {σ : me_M} {f : Int32 × me_M} (h : av = av') (k : me_Ci l y ws rm D tys w av sz σ f) : me_Ci l y ws rm D tys w av' sz σ f := h ▸ k
theorem me_avv {l : Launch} {y : MethodName} {ws : List Cond} {rm : Room} {D : va_G} {tys : List (ClassId × FieldType)} {w : me_M → va_W} {av av' : List Value} {sz : Nat} {σ : me_M} {f : me_M} (h : av = av') (k : me_Cv l y ws rm D tys w av sz σ f) : me_Cv l y ws rm D tys w av' sz σ f := h ▸ k
end
section
def k_br (g : Nat) (σ : me_M) : Int32 × me_M := let r2 := k_fo (nI g) σ; if r2 = (-1) then (let r12 := k_ff σ; if (σ (94 + 2 * r12.toNatClampNeg) 3) = 0 then (let s55 := k_fill r12.toNatClampNeg (nI g) g σ; let s65 := me_st s55 0 13 ((s55 0 13) + (nI 1)); let s78 := me_st s65 (94 + 2 * r12.toNatClampNeg) 4 (s65 0 13); (r12, s78)) else (let q31 := k_cd r12.toNatClampNeg r12.toNatClampNeg σ; let r31 := q31.1; let s31 := q31.2; if r31 = (-3) then (((-3), s31)) else (let s55 := k_fill r12.toNatClampNeg (nI g) g s31; let s65 := me_st s55 0 13 ((s55 0 13) + (nI 1)); let s78 := me_st s65 (94 + 2 * r12.toNatClampNeg) 4 (s65 0 13); (r12, s78)))) else (let s65 := me_st σ 0 13 ((σ 0 13) + (nI 1)); let s78 := me_st s65 (94 + 2 * r2.toNatClampNeg) 4 (s65 0 13); (r2, s78))
set_option maxRecDepth 100000 in
set_option maxHeartbeats 4000000 in
theorem c_X3_bring (l : Launch) (D : va_G) (cy : Nat → ClassId) (ad : Nat → Nat) (xr : va_W) (g : Nat) (σ : me_M) (hg : g < 12) (hI : k_I σ) (sz : Nat) : me_Ci l yX3_bring wsX3_bring ({ frames := 4, cells := 0, slots := 0, locals := 100 }) D (me_T cy) (kk_W cy ad xr) [.ref (ad 0), .int (nI g)] sz σ (k_br g σ) := by
  refine Met.ofW (cc := cX3_bring) (maxL := 3) (ret := (some .int)) (by decide) rfl ?_
  intro p e st m args below meth c s₁ B hml hv
  obtain ⟨rfl, hsz, hP, hK, hD0⟩ := hv
  have hx := B.exec
  have hb := B.bytes
  have hr := B.returns
  have hts := atoms_spec (ws := wsX3_bring) B.pre
  have hown : st.vm.findClass RX3 = some m.cls := findClass_of_methodNamed B.named
  have hlocks := B.notSynchronized
  have in1 : ∀ w ∈ u_ws RX1 TX1 5, w ∈ wsX3_bring := by decide +kernel
  have in3 : ∀ w ∈ u_ws RX3 TX3 15, w ∈ wsX3_bring := by decide +kernel
  have k11 := hts (.fieldLink RX3 11 "TwinWrites" "homes" "[LTwinWrites$Place;") (by decide +kernel)
  have k46 := hts (.fieldLink RX3 46 "TwinWrites" "frames" "[LTwinWrites$Frame;") (by decide +kernel)
  have k59 := hts (.fieldLink RX3 59 "TwinWrites" "askings" "I") (by decide +kernel)
  have k174 := hts (.fieldLink RX3 174 "TwinWrites$Frame" "dirty" "Z") (by decide +kernel)
  have k203 := hts (.fieldLink RX3 203 "TwinWrites$Frame" "asked" "I") (by decide +kernel)
  subst hsz
  have hD := hD0.self (sz := st.heap.size)
  have hA : ∀ q : Nat, st.heap.size ≤ q → va_A ((kk_W cy ad xr) σ) st.heap.size q := fun q h => Or.inr h
  have hS : va_S (va_A ((kk_W cy ad xr) σ) st.heap.size) st.heap st.heap [] := va_S.rf
  generalize va_A ((kk_W cy ad xr) σ) st.heap.size = A at hD hA hS ⊢
  have hl := lv_entry ([.ref (ad 0), .int (nI g)]) (n := 3) (Nat.le_of_ble_eq_true rfl)
  rw [lg_entry_eq]
  generalize (lg_sl ([.ref (ad 0), .int (nI g)]) ++ List.replicate (3 - (lg_sl ([.ref (ad 0), .int (nI g)])).length) Slot.unset).toArray = ls at hl ⊢
  have hl : lv_has ls 3 [(0, .ref (ad 0)), (1, .int (nI g))] := hl
  refine lv_aload_n hx hb dX3_bring_0 rfl (lv_at hl 0 rfl) ?_
  refine lv_iload_n hx hb dX3_bring_1 rfl (lv_at hl 1 rfl) ?_
  refine me_callr (f := k_fo (nI g) σ) (w := (kk_W cy ad xr)) (σ := σ) (As := [.int (nI g)]) (rest := []) ⟨hx, hb, hml, hown, hts⟩ (fun sz => c_X3_frameOf l D cy ad xr (nI g) σ  sz) (cwV 1 hts gX3_bring_X3_frameOf rfl rfl rfl (by decide +kernel) ⟨Nat.le_of_ble_eq_true rfl, Nat.le_of_ble_eq_true rfl⟩) (va_recv hK hP (ci := 3) (q0 := 0) rfl (me_get (by omega) (kk_0 cy ad _))) hK hP hD hS hA rfl hl.1 rfl (Nat.le_of_ble_eq_true rfl) dX3_bring_2 ⟨Nat.zero_le _, Nat.zero_le _⟩ (fun r2 H locs e2 hP hD hS => ?_)
  refine lv_istore_n (lv' := [(2, .int r2), (0, .ref (ad 0)), (1, .int (nI g))]) hx hb dX3_bring_5 rfl hl (by decide) rfl (fun ls hl => ?_)
  refine lv_iload_n hx hb dX3_bring_6 rfl (lv_at hl 0 rfl) ?_
  refine lv_iconst (v := (-1)) hx hb dX3_bring_7 (by decide) ?_
  refine lv_icmp_ne (tgt := 58) hx hb dX3_bring_8 (by decide) (fun c8 => ?_) (fun c8 => ?_)
  ·
    refine lv_aload_n hx hb dX3_bring_58 rfl (lv_at hl 1 rfl) ?_
    refine lv_dup hx hb dX3_bring_59 rfl ?_
    refine va_get (D := D) (ci := 3) (v := .int (σ 0 13)) (C := RX3) (T := TX3) (N := 15) hx hb hts in3 hown hK hP 0 (me_get (by omega) (kk_0 cy ad _)) rfl 13 (by decide) k59 (fun _ h9 => h9) rfl dX3_bring_60 ?_
    refine lv_iconst (v := nI 1) hx hb dX3_bring_63 (by decide) ?_
    refine lv_iadd hx hb dX3_bring_64 ?_
    refine me_put (ty := .int) (ci := 3) (C := RX3) (T := TX3) (M := 15) hx hb hts in3 tyX3 tyX3_ok nmX3 hown hK hP hD hS 0 (by omega) (kk_0 cy ad _) rfl 13 (by decide) k59 (fun _ h9 => h9) rfl (by decide +kernel) rfl rfl (Nat.le_of_ble_eq_true rfl) (kk_0 cy ad _) dX3_bring_65 (fun s65 H locs e65 hP hD hS => ?_)
    refine lv_aload_n hx hb dX3_bring_68 rfl (lv_at hl 1 rfl) ?_
    refine va_get (D := D) (ci := 3) (v := .ref (ad 4)) (C := RX3) (T := TX3) (N := 15) hx hb hts in3 hown hK hP 0 (me_get (by omega) (kk_0 cy ad _)) rfl 9 (by decide) k46 (fun _ h9 => h9) rfl dX3_bring_69 ?_
    refine lv_iload_n hx hb dX3_bring_72 rfl (lv_at hl 0 rfl) ?_
    have v73 : vp_in r2 4 := by first | exact pu_fo_in e2 c8 | exact pu_ff_in e12
    have b73 := me_inb v73
    refine me_aald (g := fun j => ad (94 + 2 * j)) hx hb hK hP 4 5 (by omega) (fun f => kk_a4 cy ad f) rfl r2.toNatClampNeg (me_ine v73) (by omega) (by decide) dX3_bring_73 ?_
    refine lv_aload_n hx hb dX3_bring_74 rfl (lv_at hl 1 rfl) ?_
    refine va_get (D := D) (ci := 3) (v := .int (s65 0 13)) (C := RX3) (T := TX3) (N := 15) hx hb hts in3 hown hK hP 0 (me_get (by omega) (kk_0 cy ad _)) rfl 13 (by decide) k59 (fun _ h9 => h9) rfl dX3_bring_75 ?_
    refine me_put (ty := .int) (ci := 1) (C := RX1) (T := TX1) (M := 5) hx hb hts in1 tyX1 tyX1_ok nmX1 hown hK hP hD hS (94 + 2 * r2.toNatClampNeg) (by omega) (kk_fr cy ad (by omega) _) rfl 4 (by decide) k203 (fun _ h9 => h9) rfl (by decide +kernel) rfl rfl (Nat.le_of_ble_eq_true rfl) (kk_fr cy ad (by omega) _) dX3_bring_78 (fun s78 H locs e78 hP hD hS => ?_)
    refine lv_iload_n hx hb dX3_bring_81 rfl (lv_at hl 0 rfl) ?_
    exact me_reti hx hb hr rfl hlocks hK hP hD hS (by simp only [k_br, e2, if_neg c8, e65, e78]) dX3_bring_82
  ·
    refine lv_aload_n hx hb dX3_bring_11 rfl (lv_at hl 1 rfl) ?_
    refine me_callr (f := k_ff σ) (w := (kk_W cy ad xr)) (σ := σ) (As := []) (rest := []) ⟨hx, hb, hml, hown, hts⟩ (fun sz => c_X3_frameToFill l D cy ad xr  σ  sz) (cwV 0 hts gX3_bring_X3_frameToFill rfl rfl rfl (by decide +kernel) ⟨Nat.le_of_ble_eq_true rfl, Nat.le_of_ble_eq_true rfl⟩) (va_recv hK hP (ci := 3) (q0 := 0) rfl (me_get (by omega) (kk_0 cy ad _))) hK hP hD hS hA rfl hl.1 rfl (Nat.le_of_ble_eq_true rfl) dX3_bring_12 ⟨Nat.zero_le _, Nat.zero_le _⟩ (fun r12 H locs e12 hP hD hS => ?_)
    refine lv_istore_n (lv' := [(2, .int r12), (0, .ref (ad 0)), (1, .int (nI g))]) hx hb dX3_bring_15 rfl hl (by decide) rfl (fun ls hl => ?_)
    refine lv_aload_n hx hb dX3_bring_16 rfl (lv_at hl 1 rfl) ?_
    refine va_get (D := D) (ci := 3) (v := .ref (ad 4)) (C := RX3) (T := TX3) (N := 15) hx hb hts in3 hown hK hP 0 (me_get (by omega) (kk_0 cy ad _)) rfl 9 (by decide) k46 (fun _ h9 => h9) rfl dX3_bring_17 ?_
    refine lv_iload_n hx hb dX3_bring_20 rfl (lv_at hl 0 rfl) ?_
    have v21 : vp_in r12 4 := pu_ff_in e12
    have b21 := me_inb v21
    refine me_aald (g := fun j => ad (94 + 2 * j)) hx hb hK hP 4 5 (by omega) (fun f => kk_a4 cy ad f) rfl r12.toNatClampNeg (me_ine v21) (by omega) (by decide) dX3_bring_21 ?_
    refine va_get (D := D) (ci := 1) (v := .int (σ (94 + 2 * r12.toNatClampNeg) 3)) (C := RX1) (T := TX1) (N := 5) hx hb hts in1 hown hK hP (94 + 2 * r12.toNatClampNeg) (me_get (by omega) (kk_fr cy ad (by omega) _)) rfl 3 (by decide) k174 (fun _ h9 => h9) rfl dX3_bring_22 ?_
    refine lv_if_eq (tgt := 42) hx hb dX3_bring_25 (by decide) (fun c25 => ?_) (fun c25 => ?_)
    ·
      refine lv_aload_n hx hb dX3_bring_42 rfl (lv_at hl 1 rfl) ?_
      refine va_get (D := D) (ci := 3) (v := .ref (ad 4)) (C := RX3) (T := TX3) (N := 15) hx hb hts in3 hown hK hP 0 (me_get (by omega) (kk_0 cy ad _)) rfl 9 (by decide) k46 (fun _ h9 => h9) rfl dX3_bring_43 ?_
      refine lv_iload_n hx hb dX3_bring_46 rfl (lv_at hl 0 rfl) ?_
      have v47 : vp_in r12 4 := pu_ff_in e12
      have b47 := me_inb v47
      refine me_aald (g := fun j => ad (94 + 2 * j)) hx hb hK hP 4 5 (by omega) (fun f => kk_a4 cy ad f) rfl r12.toNatClampNeg (me_ine v47) (by omega) (by decide) dX3_bring_47 ?_
      refine lv_iload_n hx hb dX3_bring_48 rfl (lv_at hl 2 rfl) ?_
      refine lv_aload_n hx hb dX3_bring_49 rfl (lv_at hl 1 rfl) ?_
      refine va_get (D := D) (ci := 3) (v := .ref (ad 1)) (C := RX3) (T := TX3) (N := 15) hx hb hts in3 hown hK hP 0 (me_get (by omega) (kk_0 cy ad _)) rfl 0 (by decide) k11 (fun _ h9 => h9) rfl dX3_bring_50 ?_
      refine lv_iload_n hx hb dX3_bring_53 rfl (lv_at hl 2 rfl) ?_
      refine me_aald (g := fun j => ad (6 + 4 * j)) hx hb hK hP 1 3 (by omega) (fun f => kk_a1 cy ad f) rfl g rfl (by omega) (by decide) dX3_bring_54 ?_
      refine me_callv (f := k_fill r12.toNatClampNeg (nI g) g σ) (w := (kk_W cy ad xr)) (σ := σ) (As := [.int (nI g), .ref (ad (6 + 4 * g))]) (rest := []) ⟨hx, hb, hml, hown, hts⟩ (fun sz => c_X1_fill l D cy ad xr r12.toNatClampNeg (nI g) g σ (by omega) (by omega) sz) (cwV 2 hts gX3_bring_X1_fill rfl rfl rfl (by decide +kernel) ⟨Nat.le_of_ble_eq_true rfl, Nat.le_of_ble_eq_true rfl⟩) (va_recv hK hP (ci := 1) (q0 := (94 + 2 * r12.toNatClampNeg)) rfl (me_get (by omega) (kk_fr cy ad (by omega) _))) hK hP hD hS hA rfl hl.1 rfl (Nat.le_of_ble_eq_true rfl) dX3_bring_55 ⟨Nat.zero_le _, Nat.zero_le _⟩ (fun s55 H locs e55 hP hD hS => ?_)
      refine lv_aload_n hx hb dX3_bring_58 rfl (lv_at hl 1 rfl) ?_
      refine lv_dup hx hb dX3_bring_59 rfl ?_
      refine va_get (D := D) (ci := 3) (v := .int (s55 0 13)) (C := RX3) (T := TX3) (N := 15) hx hb hts in3 hown hK hP 0 (me_get (by omega) (kk_0 cy ad _)) rfl 13 (by decide) k59 (fun _ h9 => h9) rfl dX3_bring_60 ?_
      refine lv_iconst (v := nI 1) hx hb dX3_bring_63 (by decide) ?_
      refine lv_iadd hx hb dX3_bring_64 ?_
      refine me_put (ty := .int) (ci := 3) (C := RX3) (T := TX3) (M := 15) hx hb hts in3 tyX3 tyX3_ok nmX3 hown hK hP hD hS 0 (by omega) (kk_0 cy ad _) rfl 13 (by decide) k59 (fun _ h9 => h9) rfl (by decide +kernel) rfl rfl (Nat.le_of_ble_eq_true rfl) (kk_0 cy ad _) dX3_bring_65 (fun s65 H locs e65 hP hD hS => ?_)
      refine lv_aload_n hx hb dX3_bring_68 rfl (lv_at hl 1 rfl) ?_
      refine va_get (D := D) (ci := 3) (v := .ref (ad 4)) (C := RX3) (T := TX3) (N := 15) hx hb hts in3 hown hK hP 0 (me_get (by omega) (kk_0 cy ad _)) rfl 9 (by decide) k46 (fun _ h9 => h9) rfl dX3_bring_69 ?_
      refine lv_iload_n hx hb dX3_bring_72 rfl (lv_at hl 0 rfl) ?_
      have v73 : vp_in r12 4 := by first | exact pu_fo_in e2 c8 | exact pu_ff_in e12
      have b73 := me_inb v73
      refine me_aald (g := fun j => ad (94 + 2 * j)) hx hb hK hP 4 5 (by omega) (fun f => kk_a4 cy ad f) rfl r12.toNatClampNeg (me_ine v73) (by omega) (by decide) dX3_bring_73 ?_
      refine lv_aload_n hx hb dX3_bring_74 rfl (lv_at hl 1 rfl) ?_
      refine va_get (D := D) (ci := 3) (v := .int (s65 0 13)) (C := RX3) (T := TX3) (N := 15) hx hb hts in3 hown hK hP 0 (me_get (by omega) (kk_0 cy ad _)) rfl 13 (by decide) k59 (fun _ h9 => h9) rfl dX3_bring_75 ?_
      refine me_put (ty := .int) (ci := 1) (C := RX1) (T := TX1) (M := 5) hx hb hts in1 tyX1 tyX1_ok nmX1 hown hK hP hD hS (94 + 2 * r12.toNatClampNeg) (by omega) (kk_fr cy ad (by omega) _) rfl 4 (by decide) k203 (fun _ h9 => h9) rfl (by decide +kernel) rfl rfl (Nat.le_of_ble_eq_true rfl) (kk_fr cy ad (by omega) _) dX3_bring_78 (fun s78 H locs e78 hP hD hS => ?_)
      refine lv_iload_n hx hb dX3_bring_81 rfl (lv_at hl 0 rfl) ?_
      exact me_reti hx hb hr rfl hlocks hK hP hD hS (by simp only [k_br, e2, if_pos c8, e12, if_pos c25, e55, e65, e78]) dX3_bring_82
    ·
      refine lv_aload_n hx hb dX3_bring_28 rfl (lv_at hl 1 rfl) ?_
      refine lv_iload_n hx hb dX3_bring_29 rfl (lv_at hl 0 rfl) ?_
      refine lv_iload_n hx hb dX3_bring_30 rfl (lv_at hl 0 rfl) ?_
      have v31_a : vp_in r12 4 := pu_ff_in e12
      have b31_a := me_inb v31_a
      have v31_b : vp_in r12 4 := pu_ff_in e12
      have b31_b := me_inb v31_b
      have q31_a : r12 = nI r12.toNatClampNeg := me_ine v31_a
      have q31_b : r12 = nI r12.toNatClampNeg := me_ine v31_b
      refine me_calli (f := k_cd r12.toNatClampNeg r12.toNatClampNeg σ) (w := (kk_W cy ad xr)) (σ := σ) (As := [.int r12, .int r12]) (rest := []) ⟨hx, hb, hml, hown, hts⟩ (fun sz => me_av (av := [.ref (ad 0), .int (nI r12.toNatClampNeg), .int (nI r12.toNatClampNeg)]) (by simp only [← q31_a, ← q31_b]) (c_X3_cleanDirty l D cy ad xr r12.toNatClampNeg r12.toNatClampNeg σ (by omega) (hI) sz)) (cwV 2 hts gX3_bring_X3_cleanDirty rfl rfl rfl (by decide +kernel) ⟨Nat.le_of_ble_eq_true rfl, Nat.le_of_ble_eq_true rfl⟩) (va_recv hK hP (ci := 3) (q0 := 0) rfl (me_get (by omega) (kk_0 cy ad _))) hK hP hD hS hA rfl hl.1 rfl (Nat.le_of_ble_eq_true rfl) dX3_bring_31 ⟨Nat.zero_le _, Nat.zero_le _⟩ (fun r31 s31 H locs e31 hP hD hS => ?_)
      refine lv_bipush (v := (-3)) hx hb dX3_bring_34 (by decide) ?_
      refine lv_icmp_ne (tgt := 42) hx hb dX3_bring_36 (by decide) (fun c36 => ?_) (fun c36 => ?_)
      ·
        refine lv_aload_n hx hb dX3_bring_42 rfl (lv_at hl 1 rfl) ?_
        refine va_get (D := D) (ci := 3) (v := .ref (ad 4)) (C := RX3) (T := TX3) (N := 15) hx hb hts in3 hown hK hP 0 (me_get (by omega) (kk_0 cy ad _)) rfl 9 (by decide) k46 (fun _ h9 => h9) rfl dX3_bring_43 ?_
        refine lv_iload_n hx hb dX3_bring_46 rfl (lv_at hl 0 rfl) ?_
        have v47 : vp_in r12 4 := pu_ff_in e12
        have b47 := me_inb v47
        refine me_aald (g := fun j => ad (94 + 2 * j)) hx hb hK hP 4 5 (by omega) (fun f => kk_a4 cy ad f) rfl r12.toNatClampNeg (me_ine v47) (by omega) (by decide) dX3_bring_47 ?_
        refine lv_iload_n hx hb dX3_bring_48 rfl (lv_at hl 2 rfl) ?_
        refine lv_aload_n hx hb dX3_bring_49 rfl (lv_at hl 1 rfl) ?_
        refine va_get (D := D) (ci := 3) (v := .ref (ad 1)) (C := RX3) (T := TX3) (N := 15) hx hb hts in3 hown hK hP 0 (me_get (by omega) (kk_0 cy ad _)) rfl 0 (by decide) k11 (fun _ h9 => h9) rfl dX3_bring_50 ?_
        refine lv_iload_n hx hb dX3_bring_53 rfl (lv_at hl 2 rfl) ?_
        refine me_aald (g := fun j => ad (6 + 4 * j)) hx hb hK hP 1 3 (by omega) (fun f => kk_a1 cy ad f) rfl g rfl (by omega) (by decide) dX3_bring_54 ?_
        refine me_callv (f := k_fill r12.toNatClampNeg (nI g) g s31) (w := (kk_W cy ad xr)) (σ := s31) (As := [.int (nI g), .ref (ad (6 + 4 * g))]) (rest := []) ⟨hx, hb, hml, hown, hts⟩ (fun sz => c_X1_fill l D cy ad xr r12.toNatClampNeg (nI g) g s31 (by omega) (by omega) sz) (cwV 2 hts gX3_bring_X1_fill rfl rfl rfl (by decide +kernel) ⟨Nat.le_of_ble_eq_true rfl, Nat.le_of_ble_eq_true rfl⟩) (va_recv hK hP (ci := 1) (q0 := (94 + 2 * r12.toNatClampNeg)) rfl (me_get (by omega) (kk_fr cy ad (by omega) _))) hK hP hD hS hA rfl hl.1 rfl (Nat.le_of_ble_eq_true rfl) dX3_bring_55 ⟨Nat.zero_le _, Nat.zero_le _⟩ (fun s55 H locs e55 hP hD hS => ?_)
        refine lv_aload_n hx hb dX3_bring_58 rfl (lv_at hl 1 rfl) ?_
        refine lv_dup hx hb dX3_bring_59 rfl ?_
        refine va_get (D := D) (ci := 3) (v := .int (s55 0 13)) (C := RX3) (T := TX3) (N := 15) hx hb hts in3 hown hK hP 0 (me_get (by omega) (kk_0 cy ad _)) rfl 13 (by decide) k59 (fun _ h9 => h9) rfl dX3_bring_60 ?_
        refine lv_iconst (v := nI 1) hx hb dX3_bring_63 (by decide) ?_
        refine lv_iadd hx hb dX3_bring_64 ?_
        refine me_put (ty := .int) (ci := 3) (C := RX3) (T := TX3) (M := 15) hx hb hts in3 tyX3 tyX3_ok nmX3 hown hK hP hD hS 0 (by omega) (kk_0 cy ad _) rfl 13 (by decide) k59 (fun _ h9 => h9) rfl (by decide +kernel) rfl rfl (Nat.le_of_ble_eq_true rfl) (kk_0 cy ad _) dX3_bring_65 (fun s65 H locs e65 hP hD hS => ?_)
        refine lv_aload_n hx hb dX3_bring_68 rfl (lv_at hl 1 rfl) ?_
        refine va_get (D := D) (ci := 3) (v := .ref (ad 4)) (C := RX3) (T := TX3) (N := 15) hx hb hts in3 hown hK hP 0 (me_get (by omega) (kk_0 cy ad _)) rfl 9 (by decide) k46 (fun _ h9 => h9) rfl dX3_bring_69 ?_
        refine lv_iload_n hx hb dX3_bring_72 rfl (lv_at hl 0 rfl) ?_
        have v73 : vp_in r12 4 := by first | exact pu_fo_in e2 c8 | exact pu_ff_in e12
        have b73 := me_inb v73
        refine me_aald (g := fun j => ad (94 + 2 * j)) hx hb hK hP 4 5 (by omega) (fun f => kk_a4 cy ad f) rfl r12.toNatClampNeg (me_ine v73) (by omega) (by decide) dX3_bring_73 ?_
        refine lv_aload_n hx hb dX3_bring_74 rfl (lv_at hl 1 rfl) ?_
        refine va_get (D := D) (ci := 3) (v := .int (s65 0 13)) (C := RX3) (T := TX3) (N := 15) hx hb hts in3 hown hK hP 0 (me_get (by omega) (kk_0 cy ad _)) rfl 13 (by decide) k59 (fun _ h9 => h9) rfl dX3_bring_75 ?_
        refine me_put (ty := .int) (ci := 1) (C := RX1) (T := TX1) (M := 5) hx hb hts in1 tyX1 tyX1_ok nmX1 hown hK hP hD hS (94 + 2 * r12.toNatClampNeg) (by omega) (kk_fr cy ad (by omega) _) rfl 4 (by decide) k203 (fun _ h9 => h9) rfl (by decide +kernel) rfl rfl (Nat.le_of_ble_eq_true rfl) (kk_fr cy ad (by omega) _) dX3_bring_78 (fun s78 H locs e78 hP hD hS => ?_)
        refine lv_iload_n hx hb dX3_bring_81 rfl (lv_at hl 0 rfl) ?_
        exact me_reti hx hb hr rfl hlocks hK hP hD hS (by simp only [k_br, e2, if_pos c8, e12, if_neg c25, e31, if_neg c36, e55, e65, e78]) dX3_bring_82
      ·
        refine lv_bipush (v := (-3)) hx hb dX3_bring_39 (by decide) ?_
        exact me_reti hx hb hr rfl hlocks hK hP hD hS (by simp only [k_br, e2, if_pos c8, e12, if_neg c25, e31, if_pos c36]) dX3_bring_41
end
section
/-! PURE E: bring -/
theorem pu_tail {s : me_M} {k : Nat} {x y : Int32} (hk : k < 4) (hI : k_I s) : k_I (me_st (me_st s 0 13 x) (94 + 2 * k) 4 y) ∧ me_st (me_st s 0 13 x) (94 + 2 * k) 4 y (94 + 2 * k) 1 = s (94 + 2 * k) 1 := by
  obtain ⟨i1, i2, i3, i4, i5, i6⟩ := hI
  have hf : ∀ (k' t : Nat), t ≠ 4 → me_st (me_st s 0 13 x) (94 + 2 * k) 4 y (94 + 2 * k') t = s (94 + 2 * k') t := fun k' t ht => by
    rw [me_st_eq, if_neg (by omega), me_st_c _ _ _ (by omega)]
  have h0 : ∀ t : Nat, t ≠ 13 → me_st (me_st s 0 13 x) (94 + 2 * k) 4 y 0 t = s 0 t := fun t ht => by
    rw [me_st_c _ _ _ (by omega), me_st_s _ _ _ ht]
  refine ⟨⟨fun k' hk' hd => ?_, fun u hu hv => ?_, ?_, ?_, ?_, ?_⟩, hf k 1 (by decide)⟩
  · rw [hf k' 3 (by decide)] at hd
    rw [hf k' 1 (by decide)]
    exact i1 k' hk' hd
  · rw [me_st_c _ _ _ (by omega), me_st_c _ _ _ (by omega)]; exact i2 u hu hv
  · rw [h0 11 (by decide)]; exact i3
  · rw [h0 12 (by decide)]; exact i4
  · rw [h0 11 (by decide), h0 12 (by decide)]; exact i5
  · rw [h0 3 (by decide)]; exact i6
theorem pu_br {g : Nat} {s s' : me_M} {r : Int32} (e : k_br g s = (r, s')) (hg : g < 12) (hI : k_I s) : k_I s' ∧ (¬ r = (-3) → vp_in r 4 ∧ s' (94 + 2 * r.toNatClampNeg) 1 = nI g) := by
  simp only [k_br] at e
  generalize e1 : k_fo (nI g) s = r1 at e
  split at e
  · generalize e2 : k_ff s = r2 at e
    have hv := pu_ff_in e2
    have hb := me_inb hv
    split at e
    · obtain ⟨e8, e9⟩ := Prod.mk.inj e; subst e8; subst e9
      have hF := pu_fill_I (k := r2.toNatClampNeg) (j := g) (x := nI g) hb hI
      have hT := pu_tail (x := k_fill r2.toNatClampNeg (nI g) g s 0 13 + nI 1) (y := me_st (k_fill r2.toNatClampNeg (nI g) g s) 0 13 (k_fill r2.toNatClampNeg (nI g) g s 0 13 + nI 1) 0 13) hb hF.1
      exact ⟨hT.1, fun _ => ⟨hv, hT.2.trans hF.2⟩⟩
    · generalize e3 : k_cd r2.toNatClampNeg r2.toNatClampNeg s = q at e
      obtain ⟨r3, s3⟩ := q
      have hJ := pu_cd_I e3 (by omega) hI
      split at e
      · obtain ⟨e8, e9⟩ := Prod.mk.inj e; subst e8; subst e9
        exact ⟨hJ, fun h => absurd rfl h⟩
      · obtain ⟨e8, e9⟩ := Prod.mk.inj e; subst e8; subst e9
        have hF := pu_fill_I (k := r2.toNatClampNeg) (j := g) (x := nI g) hb hJ
        have hT := pu_tail (x := k_fill r2.toNatClampNeg (nI g) g s3 0 13 + nI 1) (y := me_st (k_fill r2.toNatClampNeg (nI g) g s3) 0 13 (k_fill r2.toNatClampNeg (nI g) g s3 0 13 + nI 1) 0 13) hb hF.1
        exact ⟨hT.1, fun _ => ⟨hv, hT.2.trans hF.2⟩⟩
  · rename_i c1
    obtain ⟨k, h1, h2, h3, -⟩ := pu_fo e1 c1
    obtain ⟨e8, e9⟩ := Prod.mk.inj e; subst e8; subst e9
    have hb : r1.toNatClampNeg = k := by rw [h2, nI_clamp (by omega)]
    rw [hb]
    have hT := pu_tail (k := k) (x := s 0 13 + nI 1) (y := me_st s 0 13 (s 0 13 + nI 1) 0 13) h1 hI
    exact ⟨hT.1, fun _ => ⟨pu_fo_in e1 c1, hT.2.trans h3⟩⟩
theorem pu_br_I {g : Nat} {s s' : me_M} {r : Int32} (e : k_br g s = (r, s')) (hg : g < 12) (hI : k_I s) : k_I s' := (pu_br e hg hI).1
theorem pu_br_in {g : Nat} {s s' : me_M} {r : Int32} (e : k_br g s = (r, s')) (hg : g < 12) (hI : k_I s) (hr : ¬ r = (-3)) : vp_in r 4 := ((pu_br e hg hI).2 hr).1
theorem pu_br_pg {g : Nat} {s s' : me_M} {r : Int32} (e : k_br g s = (r, s')) (hg : g < 12) (hI : k_I s) (hr : ¬ r = (-3)) : s' (94 + 2 * r.toNatClampNeg) 1 = nI g := ((pu_br e hg hI).2 hr).2
theorem pu_cw_I {k t : Nat} {x y : Int32} {s s' : me_M} (e : k_cw k t x y s = s') (hk : k < 4) (hI : k_I s) (hp : vp_in (s (94 + 2 * k) 1) 12) : k_I s' := by
  simp only [k_cw] at e
  subst e
  obtain ⟨i1, i2, i3, i4, i5, i6⟩ := hI
  refine ⟨fun k' hk' hd => ?_, fun u hu hv => ?_, ?_, ?_, ?_, ?_⟩
  · by_cases hkk : k' = k
    · subst hkk
      rw [me_st_s _ _ _ (by decide), me_st_s _ _ _ (by decide), me_st_c _ _ _ (by omega)]
      exact hp
    · rw [me_st_c _ _ _ (by omega), me_st_c _ _ _ (by omega), me_st_c _ _ _ (by omega)] at hd ⊢
      exact i1 k' hk' hd
  all_goals (repeat rw [me_st_c _ _ _ (by omega)])
  · exact i2 u hu hv
  · exact i3
  · exact i4
  · exact i5
  · exact i6
end
section
def k_mend_2 : Nat → Nat → me_M → Int32 × me_M
  | 0, i, s => (0, s)
  | n + 1, i, s => if nI 12 ≤ (nI i) then ((nI 1, s)) else (let r14 := k_whole i s; if r14 = 0 then (let r22 := k_sm (nI i) s; if r22 = (-1) then (k_mend_2 n  (i + 1) s) else (let q56 := k_wp i (nI i) (s (6 + 4 * (12 + r22.toNatClampNeg) + 2) 0) (6 + 4 * (12 + r22.toNatClampNeg) + 1) s; let r56 := q56.1; let s56 := q56.2; if r56 = 0 then ((nI 0, s56)) else (let s71 := me_st s56 0 8 ((s56 0 8) + (nI 1)); k_mend_2 n  (i + 1) s71))) else (k_mend_2 n  (i + 1) s))
def k_mend  (σ : me_M) : Int32 × me_M := k_mend_2 13  0 σ
set_option maxRecDepth 100000 in
set_option maxHeartbeats 4000000 in
theorem c_X3_mendHomes (l : Launch) (D : va_G) (cy : Nat → ClassId) (ad : Nat → Nat) (xr : va_W)  (σ : me_M)  (sz : Nat) : me_Ci l yX3_mendHomes wsX3_mendHomes ({ frames := 2, cells := 0, slots := 0, locals := 51 }) D (me_T cy) (kk_W cy ad xr) [.ref (ad 0)] sz σ (k_mend  σ) := by
  refine Met.ofW (cc := cX3_mendHomes) (maxL := 4) (ret := (some .boolean)) (by decide) rfl ?_
  intro p e st m args below meth c s₁ B hml hv
  obtain ⟨rfl, hsz, hP, hK, hD0⟩ := hv
  have hx := B.exec
  have hb := B.bytes
  have hr := B.returns
  have hts := atoms_spec (ws := wsX3_mendHomes) B.pre
  have hown : st.vm.findClass RX3 = some m.cls := findClass_of_methodNamed B.named
  have hlocks := B.notSynchronized
  have in2 : ∀ w ∈ u_ws RX2 TX2 3, w ∈ wsX3_mendHomes := by decide +kernel
  have in3 : ∀ w ∈ u_ws RX3 TX3 15, w ∈ wsX3_mendHomes := by decide +kernel
  have k11 := hts (.fieldLink RX3 11 "TwinWrites" "homes" "[LTwinWrites$Place;") (by decide +kernel)
  have k15 := hts (.fieldLink RX3 15 "TwinWrites" "slots" "[LTwinWrites$Place;") (by decide +kernel)
  have k41 := hts (.fieldLink RX3 41 "TwinWrites" "pagesMended" "I") (by decide +kernel)
  have k220 := hts (.fieldLink RX3 220 "TwinWrites$Place" "stamps" "[I") (by decide +kernel)
  have k223 := hts (.fieldLink RX3 223 "TwinWrites$Place" "words" "[I") (by decide +kernel)
  subst hsz
  have hD := hD0.self (sz := st.heap.size)
  have hA : ∀ q : Nat, st.heap.size ≤ q → va_A ((kk_W cy ad xr) σ) st.heap.size q := fun q h => Or.inr h
  have hS : va_S (va_A ((kk_W cy ad xr) σ) st.heap.size) st.heap st.heap [] := va_S.rf
  generalize va_A ((kk_W cy ad xr) σ) st.heap.size = A at hD hA hS ⊢
  have hl := lv_entry ([.ref (ad 0)]) (n := 4) (Nat.le_of_ble_eq_true rfl)
  rw [lg_entry_eq]
  generalize (lg_sl ([.ref (ad 0)]) ++ List.replicate (4 - (lg_sl ([.ref (ad 0)])).length) Slot.unset).toArray = ls at hl ⊢
  have hl : lv_has ls 4 [(0, .ref (ad 0))] := hl
  refine lv_iconst (v := nI 0) hx hb dX3_mendHomes_0 (by decide) ?_
  refine lv_istore_n (lv' := [(1, .int (nI 0)), (0, .ref (ad 0))]) hx hb dX3_mendHomes_1 rfl hl (by decide) rfl (fun ls hl => ?_)
  have J2 : ∀ (n : Nat) (i : Nat) (s : me_M) (H : Heap) (locs : List Loc) (hP : va_P D vwCl ((kk_W cy ad xr) s) H) (hD : va_D A ((kk_W cy ad xr) s)) (hS : va_S A st.heap H locs) (ls : Array Slot) (hl : lv_has ls 4 [(1, .int (nI i)), (0, .ref (ad 0))]), ∀ (hi : i ≤ 12), ∀ (hn : 13 ≤ i + n), k_mend  σ = k_mend_2 n  i s → W p l e (headSpec wsX3_mendHomes ({ frames := 2, cells := 0, slots := 0, locals := 51 })).room st m ([.ref (ad 0)] : List Value).toArray below meth c H locs 0 0 (MQ below (va_Qi (fun r σ' => (r, σ') = k_mend  σ) (me_B D (me_T cy) A (kk_W cy ad xr)) A) ([.ref (ad 0)] : List Value).toArray st 0 0 A) (F0 m 2 ls []) := by
    intro n
    induction n with
    | zero => intro i s H locs hP hD hS ls hl hi hn hf2; exfalso; omega
    | succ n ih =>
      intro i s H locs hP hD hS ls hl hi hn hf2
      refine lv_iload_n hx hb dX3_mendHomes_2 rfl (lv_at hl 0 rfl) ?_
      refine lv_bipush (v := nI 12) hx hb dX3_mendHomes_3 (by decide) ?_
      refine lv_icmp_ge (tgt := 80) hx hb dX3_mendHomes_5 (by decide) (fun c5 => ?_) (fun c5 => ?_)
      ·
        try have h5 := (nI_leI (by omega) (by omega)).mp c5
        refine lv_iconst (v := nI 1) hx hb dX3_mendHomes_80 (by decide) ?_
        exact me_reti hx hb hr rfl hlocks hK hP hD hS (by rw [hf2]; simp only [k_mend_2, if_pos c5]) dX3_mendHomes_81
      ·
        try have h5 := (not_congr (nI_leI (by omega) (by omega))).mp c5
        refine lv_aload_n hx hb dX3_mendHomes_8 rfl (lv_at hl 1 rfl) ?_
        refine va_get (D := D) (ci := 3) (v := .ref (ad 1)) (C := RX3) (T := TX3) (N := 15) hx hb hts in3 hown hK hP 0 (me_get (by omega) (kk_0 cy ad _)) rfl 0 (by decide) k11 (fun _ h9 => h9) rfl dX3_mendHomes_9 ?_
        refine lv_iload_n hx hb dX3_mendHomes_12 rfl (lv_at hl 0 rfl) ?_
        refine me_aald (g := fun j => ad (6 + 4 * j)) hx hb hK hP 1 3 (by omega) (fun f => kk_a1 cy ad f) rfl i rfl (by omega) (by decide) dX3_mendHomes_13 ?_
        refine me_callr (f := k_whole i s) (w := (kk_W cy ad xr)) (σ := s) (As := []) (rest := []) ⟨hx, hb, hml, hown, hts⟩ (fun sz => c_X2_isWhole l D cy ad xr i s (by omega) sz) (cwV 0 hts gX3_mendHomes_X2_isWhole rfl rfl rfl (by decide +kernel) ⟨Nat.le_of_ble_eq_true rfl, Nat.le_of_ble_eq_true rfl⟩) (va_recv hK hP (ci := 2) (q0 := (6 + 4 * i)) rfl (me_get (by omega) (kk_pl cy ad (by omega) _))) hK hP hD hS hA rfl hl.1 rfl (Nat.le_of_ble_eq_true rfl) dX3_mendHomes_14 ⟨Nat.zero_le _, Nat.zero_le _⟩ (fun r14 H locs e14 hP hD hS => ?_)
        refine lv_if_ne (tgt := 74) hx hb dX3_mendHomes_17 (by decide) (fun c17 => ?_) (fun c17 => ?_)
        ·
          refine lv_iinc (v := nI (i + 1)) (lv' := [(1, .int (nI (i + 1))), (0, .ref (ad 0))]) hx hb dX3_mendHomes_74 hl (k := 0) rfl (me_inc _) (by decide) rfl (fun ls hl => ?_)
          refine lv_goto (tgt := 2) hx hb dX3_mendHomes_77 (by decide) ?_
          exact ih (i + 1) s _ _ hP hD hS ls (lv_sub hl [0, 1] rfl) (by omega) (by omega) (by rw [hf2]; simp only [k_mend_2, if_neg c5, e14, if_neg c17])
        ·
          refine lv_aload_n hx hb dX3_mendHomes_20 rfl (lv_at hl 1 rfl) ?_
          refine lv_iload_n hx hb dX3_mendHomes_21 rfl (lv_at hl 0 rfl) ?_
          refine me_callr (f := k_sm (nI i) s) (w := (kk_W cy ad xr)) (σ := s) (As := [.int (nI i)]) (rest := []) ⟨hx, hb, hml, hown, hts⟩ (fun sz => c_X3_slotToMendFrom l D cy ad xr (nI i) s  sz) (cwV 1 hts gX3_mendHomes_X3_slotToMendFrom rfl rfl rfl (by decide +kernel) ⟨Nat.le_of_ble_eq_true rfl, Nat.le_of_ble_eq_true rfl⟩) (va_recv hK hP (ci := 3) (q0 := 0) rfl (me_get (by omega) (kk_0 cy ad _))) hK hP hD hS hA rfl hl.1 rfl (Nat.le_of_ble_eq_true rfl) dX3_mendHomes_22 ⟨Nat.zero_le _, Nat.zero_le _⟩ (fun r22 H locs e22 hP hD hS => ?_)
          refine lv_istore_n (lv' := [(2, .int r22), (1, .int (nI i)), (0, .ref (ad 0))]) hx hb dX3_mendHomes_25 rfl hl (by decide) rfl (fun ls hl => ?_)
          refine lv_iload_n hx hb dX3_mendHomes_26 rfl (lv_at hl 0 rfl) ?_
          refine lv_iconst (v := (-1)) hx hb dX3_mendHomes_27 (by decide) ?_
          refine lv_icmp_eq (tgt := 74) hx hb dX3_mendHomes_28 (by decide) (fun c28 => ?_) (fun c28 => ?_)
          ·
            refine lv_iinc (v := nI (i + 1)) (lv' := [(1, .int (nI (i + 1))), (2, .int r22), (0, .ref (ad 0))]) hx hb dX3_mendHomes_74 hl (k := 1) rfl (me_inc _) (by decide) rfl (fun ls hl => ?_)
            refine lv_goto (tgt := 2) hx hb dX3_mendHomes_77 (by decide) ?_
            exact ih (i + 1) s _ _ hP hD hS ls (lv_sub hl [0, 2] rfl) (by omega) (by omega) (by rw [hf2]; simp only [k_mend_2, if_neg c5, e14, if_pos c17, e22, if_pos c28])
          ·
            refine lv_aload_n hx hb dX3_mendHomes_31 rfl (lv_at hl 2 rfl) ?_
            refine va_get (D := D) (ci := 3) (v := .ref (ad 2)) (C := RX3) (T := TX3) (N := 15) hx hb hts in3 hown hK hP 0 (me_get (by omega) (kk_0 cy ad _)) rfl 1 (by decide) k15 (fun _ h9 => h9) rfl dX3_mendHomes_32 ?_
            refine lv_iload_n hx hb dX3_mendHomes_35 rfl (lv_at hl 0 rfl) ?_
            have v36 : vp_in r22 4 := pu_sm_in e22 c28
            have b36 := me_inb v36
            refine me_aald (g := fun j => ad (6 + 4 * (12 + j))) hx hb hK hP 2 3 (by omega) (fun f => kk_a2 cy ad f) rfl r22.toNatClampNeg (me_ine v36) (by omega) (by decide) dX3_mendHomes_36 ?_
            refine lv_astore_n (lv' := [(3, .ref (ad (6 + 4 * (12 + r22.toNatClampNeg)))), (2, .int r22), (1, .int (nI i)), (0, .ref (ad 0))]) hx hb dX3_mendHomes_37 rfl hl (by decide) rfl (fun ls hl => ?_)
            refine lv_aload_n hx hb dX3_mendHomes_38 rfl (lv_at hl 3 rfl) ?_
            refine lv_aload_n hx hb dX3_mendHomes_39 rfl (lv_at hl 3 rfl) ?_
            refine va_get (D := D) (ci := 3) (v := .ref (ad 1)) (C := RX3) (T := TX3) (N := 15) hx hb hts in3 hown hK hP 0 (me_get (by omega) (kk_0 cy ad _)) rfl 0 (by decide) k11 (fun _ h9 => h9) rfl dX3_mendHomes_40 ?_
            refine lv_iload_n hx hb dX3_mendHomes_43 rfl (lv_at hl 2 rfl) ?_
            refine me_aald (g := fun j => ad (6 + 4 * j)) hx hb hK hP 1 3 (by omega) (fun f => kk_a1 cy ad f) rfl i rfl (by omega) (by decide) dX3_mendHomes_44 ?_
            refine lv_iload_n hx hb dX3_mendHomes_45 rfl (lv_at hl 2 rfl) ?_
            refine lv_aload_n hx hb dX3_mendHomes_46 rfl (lv_at hl 0 rfl) ?_
            refine va_get (D := D) (ci := 2) (v := .ref (ad (6 + 4 * (12 + r22.toNatClampNeg) + 2))) (C := RX2) (T := TX2) (N := 3) hx hb hts in2 hown hK hP (6 + 4 * (12 + r22.toNatClampNeg)) (me_get (by omega) (kk_pl cy ad (by omega) _)) rfl 1 (by decide) k220 (fun _ h9 => h9) rfl dX3_mendHomes_47 ?_
            refine lv_iconst (v := nI 0) hx hb dX3_mendHomes_50 (by decide) ?_
            refine me_iald hx hb hK hP (6 + 4 * (12 + r22.toNatClampNeg) + 2) 0 (by omega) (fun f => kk_4 cy ad (by omega) f) rfl 0 rfl (by omega) (by decide) dX3_mendHomes_51 ?_
            refine lv_aload_n hx hb dX3_mendHomes_52 rfl (lv_at hl 0 rfl) ?_
            refine va_get (D := D) (ci := 2) (v := .ref (ad (6 + 4 * (12 + r22.toNatClampNeg) + 1))) (C := RX2) (T := TX2) (N := 3) hx hb hts in2 hown hK hP (6 + 4 * (12 + r22.toNatClampNeg)) (me_get (by omega) (kk_pl cy ad (by omega) _)) rfl 0 (by decide) k223 (fun _ h9 => h9) rfl dX3_mendHomes_53 ?_
            refine me_calli (f := k_wp i (nI i) (s (6 + 4 * (12 + r22.toNatClampNeg) + 2) 0) (6 + 4 * (12 + r22.toNatClampNeg) + 1) s) (w := (kk_W cy ad xr)) (σ := s) (As := [.ref (ad (6 + 4 * i)), .int (nI i), .int (s (6 + 4 * (12 + r22.toNatClampNeg) + 2) 0), .ref (ad (6 + 4 * (12 + r22.toNatClampNeg) + 1))]) (rest := []) ⟨hx, hb, hml, hown, hts⟩ (fun sz => c_X3_writePage l D cy ad xr i (nI i) (s (6 + 4 * (12 + r22.toNatClampNeg) + 2) 0) (6 + 4 * (12 + r22.toNatClampNeg) + 1) s (by omega) (by omega) sz) (cwV 4 hts gX3_mendHomes_X3_writePage rfl rfl rfl (by decide +kernel) ⟨Nat.le_of_ble_eq_true rfl, Nat.le_of_ble_eq_true rfl⟩) (va_recv hK hP (ci := 3) (q0 := 0) rfl (me_get (by omega) (kk_0 cy ad _))) hK hP hD hS hA rfl hl.1 rfl (Nat.le_of_ble_eq_true rfl) dX3_mendHomes_56 ⟨Nat.zero_le _, Nat.zero_le _⟩ (fun r56 s56 H locs e56 hP hD hS => ?_)
            refine lv_if_ne (tgt := 64) hx hb dX3_mendHomes_59 (by decide) (fun c59 => ?_) (fun c59 => ?_)
            ·
              refine lv_aload_n hx hb dX3_mendHomes_64 rfl (lv_at hl 3 rfl) ?_
              refine lv_dup hx hb dX3_mendHomes_65 rfl ?_
              refine va_get (D := D) (ci := 3) (v := .int (s56 0 8)) (C := RX3) (T := TX3) (N := 15) hx hb hts in3 hown hK hP 0 (me_get (by omega) (kk_0 cy ad _)) rfl 8 (by decide) k41 (fun _ h9 => h9) rfl dX3_mendHomes_66 ?_
              refine lv_iconst (v := nI 1) hx hb dX3_mendHomes_69 (by decide) ?_
              refine lv_iadd hx hb dX3_mendHomes_70 ?_
              refine me_put (ty := .int) (ci := 3) (C := RX3) (T := TX3) (M := 15) hx hb hts in3 tyX3 tyX3_ok nmX3 hown hK hP hD hS 0 (by omega) (kk_0 cy ad _) rfl 8 (by decide) k41 (fun _ h9 => h9) rfl (by decide +kernel) rfl rfl (Nat.le_of_ble_eq_true rfl) (kk_0 cy ad _) dX3_mendHomes_71 (fun s71 H locs e71 hP hD hS => ?_)
              refine lv_iinc (v := nI (i + 1)) (lv' := [(1, .int (nI (i + 1))), (3, .ref (ad (6 + 4 * (12 + r22.toNatClampNeg)))), (2, .int r22), (0, .ref (ad 0))]) hx hb dX3_mendHomes_74 hl (k := 2) rfl (me_inc _) (by decide) rfl (fun ls hl => ?_)
              refine lv_goto (tgt := 2) hx hb dX3_mendHomes_77 (by decide) ?_
              exact ih (i + 1) s71 _ _ hP hD hS ls (lv_sub hl [0, 3] rfl) (by omega) (by omega) (by rw [hf2]; simp only [k_mend_2, if_neg c5, e14, if_pos c17, e22, if_neg c28, e56, if_neg c59, e71])
            ·
              refine lv_iconst (v := nI 0) hx hb dX3_mendHomes_62 (by decide) ?_
              exact me_reti hx hb hr rfl hlocks hK hP hD hS (by rw [hf2]; simp only [k_mend_2, if_neg c5, e14, if_pos c17, e22, if_neg c28, e56, if_pos c59]) dX3_mendHomes_63
  exact J2 13 0 σ _ _ hP hD hS ls (lv_sub hl [0, 1] rfl) (by omega) (by omega) (by simp only [k_mend])

def k_redo_13 : Nat → Nat → Nat → me_M → Int32 × me_M
  | 0, u, i, s => (0, s)
  | n + 1, u, i, s => if nI u ≤ (nI i) then ((nI u, s)) else (if (s (70 + 2 * (i % 12)) 0) = nI i then (let q45 := k_br ((s (70 + 2 * (i % 12)) 1).toNatClampNeg) s; let r45 := q45.1; let s45 := q45.2; if r45 = (-3) then (((-3), s45)) else (if nI i ≤ (s45 (94 + 2 * r45.toNatClampNeg) 2) then (k_redo_13 n  u (i + 1) s45) else (let s90 := k_cw r45.toNatClampNeg ((s45 (70 + 2 * (i % 12)) 2).toNatClampNeg) (s45 (70 + 2 * (i % 12)) 3) (nI i) s45; k_redo_13 n  u (i + 1) s90))) else ((nI i, s)))
def k_redo  (σ : me_M) : Int32 × me_M := k_redo_13 13  ((σ 0 3).toNatClampNeg + 12) ((σ 0 3).toNatClampNeg) σ
set_option maxRecDepth 100000 in
set_option maxHeartbeats 4000000 in
theorem c_X3_redoLogged (l : Launch) (D : va_G) (cy : Nat → ClassId) (ad : Nat → Nat) (xr : va_W)  (σ : me_M) (hI : k_I σ) (sz : Nat) : me_Ci l yX3_redoLogged wsX3_redoLogged ({ frames := 5, cells := 0, slots := 0, locals := 122 }) D (me_T cy) (kk_W cy ad xr) [.ref (ad 0)] sz σ (k_redo  σ) := by
  refine Met.ofW (cc := cX3_redoLogged) (maxL := 5) (ret := (some .int)) (by decide) rfl ?_
  intro p e st m args below meth c s₁ B hml hv
  obtain ⟨rfl, hsz, hP, hK, hD0⟩ := hv
  have hx := B.exec
  have hb := B.bytes
  have hr := B.returns
  have hts := atoms_spec (ws := wsX3_redoLogged) B.pre
  have hown : st.vm.findClass RX3 = some m.cls := findClass_of_methodNamed B.named
  have hlocks := B.notSynchronized
  have in0 : ∀ w ∈ u_ws RX0 TX0 4, w ∈ wsX3_redoLogged := by decide +kernel
  have in1 : ∀ w ∈ u_ws RX1 TX1 5, w ∈ wsX3_redoLogged := by decide +kernel
  have in3 : ∀ w ∈ u_ws RX3 TX3 15, w ∈ wsX3_redoLogged := by decide +kernel
  have k20 := hts (.fieldLink RX3 20 "TwinWrites" "log" "[LTwinWrites$Change;") (by decide +kernel)
  have k24 := hts (.fieldLink RX3 24 "TwinWrites" "mark" "I") (by decide +kernel)
  have k46 := hts (.fieldLink RX3 46 "TwinWrites" "frames" "[LTwinWrites$Frame;") (by decide +kernel)
  have k180 := hts (.fieldLink RX3 180 "TwinWrites$Frame" "stamp" "I") (by decide +kernel)
  have k227 := hts (.fieldLink RX3 227 "TwinWrites$Change" "number" "I") (by decide +kernel)
  have k230 := hts (.fieldLink RX3 230 "TwinWrites$Change" "page" "I") (by decide +kernel)
  have k231 := hts (.fieldLink RX3 231 "TwinWrites$Change" "at" "I") (by decide +kernel)
  have k234 := hts (.fieldLink RX3 234 "TwinWrites$Change" "word" "I") (by decide +kernel)
  subst hsz
  have hD := hD0.self (sz := st.heap.size)
  have hA : ∀ q : Nat, st.heap.size ≤ q → va_A ((kk_W cy ad xr) σ) st.heap.size q := fun q h => Or.inr h
  have hS : va_S (va_A ((kk_W cy ad xr) σ) st.heap.size) st.heap st.heap [] := va_S.rf
  generalize va_A ((kk_W cy ad xr) σ) st.heap.size = A at hD hA hS ⊢
  have hl := lv_entry ([.ref (ad 0)]) (n := 5) (Nat.le_of_ble_eq_true rfl)
  rw [lg_entry_eq]
  generalize (lg_sl ([.ref (ad 0)]) ++ List.replicate (5 - (lg_sl ([.ref (ad 0)])).length) Slot.unset).toArray = ls at hl ⊢
  have hl : lv_has ls 5 [(0, .ref (ad 0))] := hl
  refine lv_aload_n hx hb dX3_redoLogged_0 rfl (lv_at hl 0 rfl) ?_
  refine va_get (D := D) (ci := 3) (v := .int (σ 0 3)) (C := RX3) (T := TX3) (N := 15) hx hb hts in3 hown hK hP 0 (me_get (by omega) (kk_0 cy ad _)) rfl 3 (by decide) k24 (fun _ h9 => h9) rfl dX3_redoLogged_1 ?_
  have b1 := me_inb hI.2.2.2.2.2
  refine me_top (me_ine hI.2.2.2.2.2) ?_
  refine lv_bipush (v := nI 12) hx hb dX3_redoLogged_4 (by decide) ?_
  refine lv_iadd hx hb dX3_redoLogged_6 ?_
  refine me_top (nI_add _ _) ?_
  refine lv_istore_n (lv' := [(1, .int (nI ((σ 0 3).toNatClampNeg + 12))), (0, .ref (ad 0))]) hx hb dX3_redoLogged_7 rfl hl (by decide) rfl (fun ls hl => ?_)
  refine lv_aload_n hx hb dX3_redoLogged_8 rfl (lv_at hl 1 rfl) ?_
  refine va_get (D := D) (ci := 3) (v := .int (σ 0 3)) (C := RX3) (T := TX3) (N := 15) hx hb hts in3 hown hK hP 0 (me_get (by omega) (kk_0 cy ad _)) rfl 3 (by decide) k24 (fun _ h9 => h9) rfl dX3_redoLogged_9 ?_
  refine me_top (me_ine hI.2.2.2.2.2) ?_
  refine lv_istore_n (lv' := [(2, .int (nI ((σ 0 3).toNatClampNeg))), (1, .int (nI ((σ 0 3).toNatClampNeg + 12))), (0, .ref (ad 0))]) hx hb dX3_redoLogged_12 rfl hl (by decide) rfl (fun ls hl => ?_)
  have J13 : ∀ (n : Nat) (u : Nat) (i : Nat) (s : me_M) (H : Heap) (locs : List Loc) (hP : va_P D vwCl ((kk_W cy ad xr) s) H) (hD : va_D A ((kk_W cy ad xr) s)) (hS : va_S A st.heap H locs) (ls : Array Slot) (hl : lv_has ls 5 [(2, .int (nI i)), (1, .int (nI u)), (0, .ref (ad 0))]), ∀ (hu : u < 200000), ∀ (hi : i ≤ u), ∀ (hn : u + 1 ≤ i + n), ∀ (hI : k_I s), k_redo  σ = k_redo_13 n  u i s → W p l e (headSpec wsX3_redoLogged ({ frames := 5, cells := 0, slots := 0, locals := 122 })).room st m ([.ref (ad 0)] : List Value).toArray below meth c H locs 0 0 (MQ below (va_Qi (fun r σ' => (r, σ') = k_redo  σ) (me_B D (me_T cy) A (kk_W cy ad xr)) A) ([.ref (ad 0)] : List Value).toArray st 0 0 A) (F0 m 13 ls []) := by
    intro n
    induction n with
    | zero => intro u i s H locs hP hD hS ls hl hu hi hn hI hf13; exfalso; omega
    | succ n ih =>
      intro u i s H locs hP hD hS ls hl hu hi hn hI hf13
      refine lv_iload_n hx hb dX3_redoLogged_13 rfl (lv_at hl 0 rfl) ?_
      refine lv_iload_n hx hb dX3_redoLogged_14 rfl (lv_at hl 1 rfl) ?_
      refine lv_icmp_ge (tgt := 99) hx hb dX3_redoLogged_15 (by decide) (fun c15 => ?_) (fun c15 => ?_)
      ·
        try have h15 := (nI_leI (by omega) (by omega)).mp c15
        refine lv_iload_n hx hb dX3_redoLogged_99 rfl (lv_at hl 1 rfl) ?_
        exact me_reti hx hb hr rfl hlocks hK hP hD hS (by rw [hf13]; simp only [k_redo_13, if_pos c15]) dX3_redoLogged_100
      ·
        try have h15 := (not_congr (nI_leI (by omega) (by omega))).mp c15
        refine lv_aload_n hx hb dX3_redoLogged_18 rfl (lv_at hl 2 rfl) ?_
        refine va_get (D := D) (ci := 3) (v := .ref (ad 3)) (C := RX3) (T := TX3) (N := 15) hx hb hts in3 hown hK hP 0 (me_get (by omega) (kk_0 cy ad _)) rfl 2 (by decide) k20 (fun _ h9 => h9) rfl dX3_redoLogged_19 ?_
        refine lv_iload_n hx hb dX3_redoLogged_22 rfl (lv_at hl 0 rfl) ?_
        refine lv_bipush (v := nI 12) hx hb dX3_redoLogged_23 (by decide) ?_
        refine me_calls (As := [.int (nI i), .int (nI 12)]) (rest := [.ref (ad 3)]) ⟨hx, hb, hml, hown, hts⟩ (c_J9_floorMod_7cf53 l (nI i) (nI 12) (by decide)) (va_cwS 2 hts gX3_redoLogged_J9_floorMod_7cf53 rfl rfl rfl (by decide +kernel) ⟨Nat.le_of_ble_eq_true rfl, Nat.le_of_ble_eq_true rfl⟩) rfl hl.1 rfl (Nat.le_of_ble_eq_true rfl) dX3_redoLogged_25 ⟨Nat.zero_le _, Nat.zero_le _⟩ ?_
        refine me_top (pu_fm (by omega)) ?_
        refine me_aald (g := fun j => ad (70 + 2 * j)) hx hb hK hP 3 4 (by omega) (fun f => kk_a3 cy ad f) rfl (i % 12) rfl (by omega) (by decide) dX3_redoLogged_28 ?_
        refine lv_astore_n (lv' := [(3, .ref (ad (70 + 2 * (i % 12)))), (2, .int (nI i)), (1, .int (nI u)), (0, .ref (ad 0))]) hx hb dX3_redoLogged_29 rfl hl (by decide) rfl (fun ls hl => ?_)
        refine lv_aload_n hx hb dX3_redoLogged_30 rfl (lv_at hl 0 rfl) ?_
        refine va_get (D := D) (ci := 0) (v := .int (s (70 + 2 * (i % 12)) 0)) (C := RX0) (T := TX0) (N := 4) hx hb hts in0 hown hK hP (70 + 2 * (i % 12)) (me_get (by omega) (kk_ch cy ad (by omega) _)) rfl 0 (by decide) k227 (fun _ h9 => h9) rfl dX3_redoLogged_31 ?_
        refine lv_iload_n hx hb dX3_redoLogged_34 rfl (lv_at hl 1 rfl) ?_
        refine lv_icmp_eq (tgt := 40) hx hb dX3_redoLogged_35 (by decide) (fun c35 => ?_) (fun c35 => ?_)
        ·
          refine lv_aload_n hx hb dX3_redoLogged_40 rfl (lv_at hl 3 rfl) ?_
          refine lv_aload_n hx hb dX3_redoLogged_41 rfl (lv_at hl 0 rfl) ?_
          refine va_get (D := D) (ci := 0) (v := .int (s (70 + 2 * (i % 12)) 1)) (C := RX0) (T := TX0) (N := 4) hx hb hts in0 hown hK hP (70 + 2 * (i % 12)) (me_get (by omega) (kk_ch cy ad (by omega) _)) rfl 1 (by decide) k230 (fun _ h9 => h9) rfl dX3_redoLogged_42 ?_
          have v45_g : vp_in (s (70 + 2 * (i % 12)) 1) 12 := (hI.2.1 (70 + 2 * (i % 12)) (by omega) (by omega)).1
          have b45_g := me_inb v45_g
          have q45_g : (s (70 + 2 * (i % 12)) 1) = nI ((s (70 + 2 * (i % 12)) 1).toNatClampNeg) := me_ine v45_g
          refine me_calli (f := k_br ((s (70 + 2 * (i % 12)) 1).toNatClampNeg) s) (w := (kk_W cy ad xr)) (σ := s) (As := [.int (s (70 + 2 * (i % 12)) 1)]) (rest := []) ⟨hx, hb, hml, hown, hts⟩ (fun sz => me_av (av := [.ref (ad 0), .int (nI ((s (70 + 2 * (i % 12)) 1).toNatClampNeg))]) (by simp only [← q45_g]) (c_X3_bring l D cy ad xr ((s (70 + 2 * (i % 12)) 1).toNatClampNeg) s (by omega) (hI) sz)) (cwV 1 hts gX3_redoLogged_X3_bring rfl rfl rfl (by decide +kernel) ⟨Nat.le_of_ble_eq_true rfl, Nat.le_of_ble_eq_true rfl⟩) (va_recv hK hP (ci := 3) (q0 := 0) rfl (me_get (by omega) (kk_0 cy ad _))) hK hP hD hS hA rfl hl.1 rfl (Nat.le_of_ble_eq_true rfl) dX3_redoLogged_45 ⟨Nat.zero_le _, Nat.zero_le _⟩ (fun r45 s45 H locs e45 hP hD hS => ?_)
          have hJ := pu_br_I e45 b45_g hI
          refine lv_istore (lv' := [(4, .int r45), (3, .ref (ad (70 + 2 * (i % 12)))), (2, .int (nI i)), (1, .int (nI u)), (0, .ref (ad 0))]) hx hb dX3_redoLogged_48 hl (by decide) rfl (fun ls hl => ?_)
          refine lv_iload hx hb dX3_redoLogged_50 (lv_at hl 0 rfl) ?_
          refine lv_bipush (v := (-3)) hx hb dX3_redoLogged_52 (by decide) ?_
          refine lv_icmp_ne (tgt := 60) hx hb dX3_redoLogged_54 (by decide) (fun c54 => ?_) (fun c54 => ?_)
          ·
            refine lv_aload_n hx hb dX3_redoLogged_60 rfl (lv_at hl 4 rfl) ?_
            refine va_get (D := D) (ci := 3) (v := .ref (ad 4)) (C := RX3) (T := TX3) (N := 15) hx hb hts in3 hown hK hP 0 (me_get (by omega) (kk_0 cy ad _)) rfl 9 (by decide) k46 (fun _ h9 => h9) rfl dX3_redoLogged_61 ?_
            refine lv_iload hx hb dX3_redoLogged_64 (lv_at hl 0 rfl) ?_
            have v66 : vp_in r45 4 := pu_br_in e45 b45_g hI c54
            have b66 := me_inb v66
            refine me_aald (g := fun j => ad (94 + 2 * j)) hx hb hK hP 4 5 (by omega) (fun f => kk_a4 cy ad f) rfl r45.toNatClampNeg (me_ine v66) (by omega) (by decide) dX3_redoLogged_66 ?_
            refine va_get (D := D) (ci := 1) (v := .int (s45 (94 + 2 * r45.toNatClampNeg) 2)) (C := RX1) (T := TX1) (N := 5) hx hb hts in1 hown hK hP (94 + 2 * r45.toNatClampNeg) (me_get (by omega) (kk_fr cy ad (by omega) _)) rfl 2 (by decide) k180 (fun _ h9 => h9) rfl dX3_redoLogged_67 ?_
            refine lv_iload_n hx hb dX3_redoLogged_70 rfl (lv_at hl 2 rfl) ?_
            refine lv_icmp_ge (tgt := 93) hx hb dX3_redoLogged_71 (by decide) (fun c71 => ?_) (fun c71 => ?_)
            ·
              refine lv_iinc (v := nI (i + 1)) (lv' := [(2, .int (nI (i + 1))), (4, .int r45), (3, .ref (ad (70 + 2 * (i % 12)))), (1, .int (nI u)), (0, .ref (ad 0))]) hx hb dX3_redoLogged_93 hl (k := 2) rfl (me_inc _) (by decide) rfl (fun ls hl => ?_)
              refine lv_goto (tgt := 13) hx hb dX3_redoLogged_96 (by decide) ?_
              exact ih u (i + 1) s45 _ _ hP hD hS ls (lv_sub hl [0, 3, 4] rfl) (by omega) (by omega) (by omega) (by first | exact hJ | exact pu_cw_I e90 b80 hJ (by rw [pu_br_pg e45 b45_g hI c54]; exact vp_in_nI b45_g (by decide))) (by rw [hf13]; simp only [k_redo_13, if_neg c15, if_pos c35, e45, if_neg c54, if_pos c71])
            ·
              refine lv_aload_n hx hb dX3_redoLogged_74 rfl (lv_at hl 4 rfl) ?_
              refine va_get (D := D) (ci := 3) (v := .ref (ad 4)) (C := RX3) (T := TX3) (N := 15) hx hb hts in3 hown hK hP 0 (me_get (by omega) (kk_0 cy ad _)) rfl 9 (by decide) k46 (fun _ h9 => h9) rfl dX3_redoLogged_75 ?_
              refine lv_iload hx hb dX3_redoLogged_78 (lv_at hl 0 rfl) ?_
              have v80 : vp_in r45 4 := pu_br_in e45 b45_g hI c54
              have b80 := me_inb v80
              refine me_aald (g := fun j => ad (94 + 2 * j)) hx hb hK hP 4 5 (by omega) (fun f => kk_a4 cy ad f) rfl r45.toNatClampNeg (me_ine v80) (by omega) (by decide) dX3_redoLogged_80 ?_
              refine lv_aload_n hx hb dX3_redoLogged_81 rfl (lv_at hl 1 rfl) ?_
              refine va_get (D := D) (ci := 0) (v := .int (s45 (70 + 2 * (i % 12)) 2)) (C := RX0) (T := TX0) (N := 4) hx hb hts in0 hown hK hP (70 + 2 * (i % 12)) (me_get (by omega) (kk_ch cy ad (by omega) _)) rfl 2 (by decide) k231 (fun _ h9 => h9) rfl dX3_redoLogged_82 ?_
              refine lv_aload_n hx hb dX3_redoLogged_85 rfl (lv_at hl 1 rfl) ?_
              refine va_get (D := D) (ci := 0) (v := .int (s45 (70 + 2 * (i % 12)) 3)) (C := RX0) (T := TX0) (N := 4) hx hb hts in0 hown hK hP (70 + 2 * (i % 12)) (me_get (by omega) (kk_ch cy ad (by omega) _)) rfl 3 (by decide) k234 (fun _ h9 => h9) rfl dX3_redoLogged_86 ?_
              refine lv_iload_n hx hb dX3_redoLogged_89 rfl (lv_at hl 2 rfl) ?_
              have v90_t : vp_in (s45 (70 + 2 * (i % 12)) 2) 16 := (hJ.2.1 (70 + 2 * (i % 12)) (by omega) (by omega)).2
              have b90_t := me_inb v90_t
              have q90_t : (s45 (70 + 2 * (i % 12)) 2) = nI ((s45 (70 + 2 * (i % 12)) 2).toNatClampNeg) := me_ine v90_t
              refine me_callv (f := k_cw r45.toNatClampNeg ((s45 (70 + 2 * (i % 12)) 2).toNatClampNeg) (s45 (70 + 2 * (i % 12)) 3) (nI i) s45) (w := (kk_W cy ad xr)) (σ := s45) (As := [.int (s45 (70 + 2 * (i % 12)) 2), .int (s45 (70 + 2 * (i % 12)) 3), .int (nI i)]) (rest := []) ⟨hx, hb, hml, hown, hts⟩ (fun sz => me_avv (av := [.ref (ad (94 + 2 * r45.toNatClampNeg)), .int (nI ((s45 (70 + 2 * (i % 12)) 2).toNatClampNeg)), .int (s45 (70 + 2 * (i % 12)) 3), .int (nI i)]) (by simp only [← q90_t]) (c_X1_changeWord l D cy ad xr r45.toNatClampNeg ((s45 (70 + 2 * (i % 12)) 2).toNatClampNeg) (s45 (70 + 2 * (i % 12)) 3) (nI i) s45 (by omega) (by omega) sz)) (cwV 3 hts gX3_redoLogged_X1_changeWord rfl rfl rfl (by decide +kernel) ⟨Nat.le_of_ble_eq_true rfl, Nat.le_of_ble_eq_true rfl⟩) (va_recv hK hP (ci := 1) (q0 := (94 + 2 * r45.toNatClampNeg)) rfl (me_get (by omega) (kk_fr cy ad (by omega) _))) hK hP hD hS hA rfl hl.1 rfl (Nat.le_of_ble_eq_true rfl) dX3_redoLogged_90 ⟨Nat.zero_le _, Nat.zero_le _⟩ (fun s90 H locs e90 hP hD hS => ?_)
              refine lv_iinc (v := nI (i + 1)) (lv' := [(2, .int (nI (i + 1))), (4, .int r45), (3, .ref (ad (70 + 2 * (i % 12)))), (1, .int (nI u)), (0, .ref (ad 0))]) hx hb dX3_redoLogged_93 hl (k := 2) rfl (me_inc _) (by decide) rfl (fun ls hl => ?_)
              refine lv_goto (tgt := 13) hx hb dX3_redoLogged_96 (by decide) ?_
              exact ih u (i + 1) s90 _ _ hP hD hS ls (lv_sub hl [0, 3, 4] rfl) (by omega) (by omega) (by omega) (by first | exact hJ | exact pu_cw_I e90 b80 hJ (by rw [pu_br_pg e45 b45_g hI c54]; exact vp_in_nI b45_g (by decide))) (by rw [hf13]; simp only [k_redo_13, if_neg c15, if_pos c35, e45, if_neg c54, if_neg c71, e90])
          ·
            refine lv_bipush (v := (-3)) hx hb dX3_redoLogged_57 (by decide) ?_
            exact me_reti hx hb hr rfl hlocks hK hP hD hS (by rw [hf13]; simp only [k_redo_13, if_neg c15, if_pos c35, e45, if_pos c54]) dX3_redoLogged_59
        ·
          refine lv_iload_n hx hb dX3_redoLogged_38 rfl (lv_at hl 1 rfl) ?_
          exact me_reti hx hb hr rfl hlocks hK hP hD hS (by rw [hf13]; simp only [k_redo_13, if_neg c15, if_neg c35]) dX3_redoLogged_39
  exact J13 13 ((σ 0 3).toNatClampNeg + 12) ((σ 0 3).toNatClampNeg) σ _ _ hP hD hS ls (lv_sub hl [0, 1, 2] rfl) (by omega) (by omega) (by omega) (hI) (by simp only [k_redo])
end
section
def m_in (x : Int32) (a : Int32) (b : Int32) : Int32 := if x < a then (nI 0) else (if b < x then (nI 0) else (nI 1))
set_option maxRecDepth 100000 in
set_option maxHeartbeats 4000000 in
theorem c_X4_in (l : Launch) (x : Int32) (a : Int32) (b : Int32)  : me_Cs l yX4_in wsX4_in ({ frames := 0, cells := 0, slots := 0, locals := 0 }) [.int x, .int a, .int b] (m_in x a b) := by
  refine Met.ofW (cc := cX4_in) (maxL := 3) (ret := (some .boolean)) (by decide +kernel) rfl ?_
  intro p e st m args below meth c s₁ B hml hv
  subst hv
  have hx := B.exec
  have hb := B.bytes
  have hr := B.returns
  have hts := atoms_spec (ws := wsX4_in) B.pre
  have hown : st.vm.findClass RX4 = some m.cls := findClass_of_methodNamed B.named
  have hlocks := B.notSynchronized
  have hl := lv_entry ([.int x, .int a, .int b]) (n := 3) (Nat.le_of_ble_eq_true rfl)
  rw [lg_entry_eq]
  generalize (lg_sl ([.int x, .int a, .int b]) ++ List.replicate (3 - (lg_sl ([.int x, .int a, .int b])).length) Slot.unset).toArray = ls at hl ⊢
  have hl : lv_has ls 3 [(0, .int x), (1, .int a), (2, .int b)] := hl
  refine lv_iload_n hx hb dX4_in_0 rfl (lv_at hl 0 rfl) ?_
  refine lv_iload_n hx hb dX4_in_1 rfl (lv_at hl 1 rfl) ?_
  refine lv_icmp_lt (tgt := 14) hx hb dX4_in_2 (by decide) (fun c2 => ?_) (fun c2 => ?_)
  ·
    refine lv_iconst (v := nI 0) hx hb dX4_in_14 (by decide) ?_
    exact me_rets hx hb hr rfl hlocks (by simp only [m_in, if_pos c2]) dX4_in_15
  ·
    refine lv_iload_n hx hb dX4_in_5 rfl (lv_at hl 0 rfl) ?_
    refine lv_iload_n hx hb dX4_in_6 rfl (lv_at hl 2 rfl) ?_
    refine lv_icmp_gt (tgt := 14) hx hb dX4_in_7 (by decide) (fun c7 => ?_) (fun c7 => ?_)
    ·
      refine lv_iconst (v := nI 0) hx hb dX4_in_14 (by decide) ?_
      exact me_rets hx hb hr rfl hlocks (by simp only [m_in, if_neg c2, if_pos c7]) dX4_in_15
    ·
      refine lv_iconst (v := nI 1) hx hb dX4_in_10 (by decide) ?_
      refine lv_goto (tgt := 15) hx hb dX4_in_11 (by decide) ?_
      exact me_rets hx hb hr rfl hlocks (by simp only [m_in, if_neg c2, if_neg c7]) dX4_in_15

def m_thrown  (σ : me_M) : Int32 := σ 0 0
set_option maxRecDepth 100000 in
set_option maxHeartbeats 4000000 in
theorem c_X4_thrown (l : Launch) (D : va_G) (cy : Nat → ClassId) (ad : Nat → Nat) (xr : va_W)  (σ : me_M)  (sz : Nat) : me_Ci l yX4_thrown wsX4_thrown ({ frames := 0, cells := 0, slots := 0, locals := 0 }) D (me_T cy) (mm_W cy ad xr) [.ref (ad 0)] sz σ (m_thrown  σ, σ) := by
  refine Met.ofW (cc := cX4_thrown) (maxL := 1) (ret := (some .int)) (by decide) rfl ?_
  intro p e st m args below meth c s₁ B hml hv
  obtain ⟨rfl, hsz, hP, hK, hD0⟩ := hv
  have hx := B.exec
  have hb := B.bytes
  have hr := B.returns
  have hts := atoms_spec (ws := wsX4_thrown) B.pre
  have hown : st.vm.findClass RX4 = some m.cls := findClass_of_methodNamed B.named
  have hlocks := B.notSynchronized
  have in4 : ∀ w ∈ u_ws RX4 TX4 29, w ∈ wsX4_thrown := by decide +kernel
  have k75 := hts (.fieldLink RX4 75 "TwinWritesModel" "thrown" "I") (by decide +kernel)
  subst hsz
  have hD := hD0.self (sz := st.heap.size)
  have hA : ∀ q : Nat, st.heap.size ≤ q → va_A ((mm_W cy ad xr) σ) st.heap.size q := fun q h => Or.inr h
  have hS : va_S (va_A ((mm_W cy ad xr) σ) st.heap.size) st.heap st.heap [] := va_S.rf
  generalize va_A ((mm_W cy ad xr) σ) st.heap.size = A at hD hA hS ⊢
  have hl := lv_entry ([.ref (ad 0)]) (n := 1) (Nat.le_of_ble_eq_true rfl)
  rw [lg_entry_eq]
  generalize (lg_sl ([.ref (ad 0)]) ++ List.replicate (1 - (lg_sl ([.ref (ad 0)])).length) Slot.unset).toArray = ls at hl ⊢
  have hl : lv_has ls 1 [(0, .ref (ad 0))] := hl
  refine lv_aload_n hx hb dX4_thrown_0 rfl (lv_at hl 0 rfl) ?_
  refine va_get (D := D) (ci := 4) (v := .int (σ 0 0)) (C := RX4) (T := TX4) (N := 29) hx hb hts in4 hown hK hP 0 (me_get (by omega) (mm_0 cy ad _)) rfl 0 (by decide) k75 (fun _ h9 => h9) rfl dX4_thrown_1 ?_
  exact me_retr hx hb hr rfl hlocks hK hP hD hS (by simp only [m_thrown]) dX4_thrown_4

def m_room  (σ : me_M) : Int32 := ((σ 0 10) + (nI 12)) - (σ 0 17)
set_option maxRecDepth 100000 in
set_option maxHeartbeats 4000000 in
theorem c_X4_room (l : Launch) (D : va_G) (cy : Nat → ClassId) (ad : Nat → Nat) (xr : va_W)  (σ : me_M)  (sz : Nat) : me_Ci l yX4_room wsX4_room ({ frames := 0, cells := 0, slots := 0, locals := 0 }) D (me_T cy) (mm_W cy ad xr) [.ref (ad 0)] sz σ (m_room  σ, σ) := by
  refine Met.ofW (cc := cX4_room) (maxL := 1) (ret := (some .int)) (by decide) rfl ?_
  intro p e st m args below meth c s₁ B hml hv
  obtain ⟨rfl, hsz, hP, hK, hD0⟩ := hv
  have hx := B.exec
  have hb := B.bytes
  have hr := B.returns
  have hts := atoms_spec (ws := wsX4_room) B.pre
  have hown : st.vm.findClass RX4 = some m.cls := findClass_of_methodNamed B.named
  have hlocks := B.notSynchronized
  have in4 : ∀ w ∈ u_ws RX4 TX4 29, w ∈ wsX4_room := by decide +kernel
  have k37 := hts (.fieldLink RX4 37 "TwinWritesModel" "mark" "I") (by decide +kernel)
  have k57 := hts (.fieldLink RX4 57 "TwinWritesModel" "next" "I") (by decide +kernel)
  subst hsz
  have hD := hD0.self (sz := st.heap.size)
  have hA : ∀ q : Nat, st.heap.size ≤ q → va_A ((mm_W cy ad xr) σ) st.heap.size q := fun q h => Or.inr h
  have hS : va_S (va_A ((mm_W cy ad xr) σ) st.heap.size) st.heap st.heap [] := va_S.rf
  generalize va_A ((mm_W cy ad xr) σ) st.heap.size = A at hD hA hS ⊢
  have hl := lv_entry ([.ref (ad 0)]) (n := 1) (Nat.le_of_ble_eq_true rfl)
  rw [lg_entry_eq]
  generalize (lg_sl ([.ref (ad 0)]) ++ List.replicate (1 - (lg_sl ([.ref (ad 0)])).length) Slot.unset).toArray = ls at hl ⊢
  have hl : lv_has ls 1 [(0, .ref (ad 0))] := hl
  refine lv_aload_n hx hb dX4_room_0 rfl (lv_at hl 0 rfl) ?_
  refine va_get (D := D) (ci := 4) (v := .int (σ 0 10)) (C := RX4) (T := TX4) (N := 29) hx hb hts in4 hown hK hP 0 (me_get (by omega) (mm_0 cy ad _)) rfl 10 (by decide) k37 (fun _ h9 => h9) rfl dX4_room_1 ?_
  refine lv_bipush (v := nI 12) hx hb dX4_room_4 (by decide) ?_
  refine lv_iadd hx hb dX4_room_6 ?_
  refine lv_aload_n hx hb dX4_room_7 rfl (lv_at hl 0 rfl) ?_
  refine va_get (D := D) (ci := 4) (v := .int (σ 0 17)) (C := RX4) (T := TX4) (N := 29) hx hb hts in4 hown hK hP 0 (me_get (by omega) (mm_0 cy ad _)) rfl 17 (by decide) k57 (fun _ h9 => h9) rfl dX4_room_8 ?_
  refine lv_isub hx hb dX4_room_11 ?_
  exact me_retr hx hb hr rfl hlocks hK hP hD hS (by simp only [m_room]) dX4_room_12

def m_got  (σ : me_M) : Int32 × me_M := let s2 := me_st σ 0 0 (nI 0); (s2 0 23, s2)
set_option maxRecDepth 100000 in
set_option maxHeartbeats 4000000 in
theorem c_X4_got (l : Launch) (D : va_G) (cy : Nat → ClassId) (ad : Nat → Nat) (xr : va_W)  (σ : me_M)  (sz : Nat) : me_Ci l yX4_got wsX4_got ({ frames := 0, cells := 0, slots := 0, locals := 0 }) D (me_T cy) (mm_W cy ad xr) [.ref (ad 0)] sz σ (m_got  σ) := by
  refine Met.ofW (cc := cX4_got) (maxL := 1) (ret := (some .int)) (by decide) rfl ?_
  intro p e st m args below meth c s₁ B hml hv
  obtain ⟨rfl, hsz, hP, hK, hD0⟩ := hv
  have hx := B.exec
  have hb := B.bytes
  have hr := B.returns
  have hts := atoms_spec (ws := wsX4_got) B.pre
  have hown : st.vm.findClass RX4 = some m.cls := findClass_of_methodNamed B.named
  have hlocks := B.notSynchronized
  have in4 : ∀ w ∈ u_ws RX4 TX4 29, w ∈ wsX4_got := by decide +kernel
  have k75 := hts (.fieldLink RX4 75 "TwinWritesModel" "thrown" "I") (by decide +kernel)
  have k135 := hts (.fieldLink RX4 135 "TwinWritesModel" "got" "I") (by decide +kernel)
  subst hsz
  have hD := hD0.self (sz := st.heap.size)
  have hA : ∀ q : Nat, st.heap.size ≤ q → va_A ((mm_W cy ad xr) σ) st.heap.size q := fun q h => Or.inr h
  have hS : va_S (va_A ((mm_W cy ad xr) σ) st.heap.size) st.heap st.heap [] := va_S.rf
  generalize va_A ((mm_W cy ad xr) σ) st.heap.size = A at hD hA hS ⊢
  have hl := lv_entry ([.ref (ad 0)]) (n := 1) (Nat.le_of_ble_eq_true rfl)
  rw [lg_entry_eq]
  generalize (lg_sl ([.ref (ad 0)]) ++ List.replicate (1 - (lg_sl ([.ref (ad 0)])).length) Slot.unset).toArray = ls at hl ⊢
  have hl : lv_has ls 1 [(0, .ref (ad 0))] := hl
  refine lv_aload_n hx hb dX4_got_0 rfl (lv_at hl 0 rfl) ?_
  refine lv_iconst (v := nI 0) hx hb dX4_got_1 (by decide) ?_
  refine me_put (ty := .int) (ci := 4) (C := RX4) (T := TX4) (M := 29) hx hb hts in4 tyX4 tyX4_ok nmX4 hown hK hP hD hS 0 (by omega) (mm_0 cy ad _) rfl 0 (by decide) k75 (fun _ h9 => h9) rfl (by decide +kernel) rfl rfl (Nat.le_of_ble_eq_true rfl) (mm_0 cy ad _) dX4_got_2 (fun s2 H locs e2 hP hD hS => ?_)
  refine lv_aload_n hx hb dX4_got_5 rfl (lv_at hl 0 rfl) ?_
  refine va_get (D := D) (ci := 4) (v := .int (s2 0 23)) (C := RX4) (T := TX4) (N := 29) hx hb hts in4 hown hK hP 0 (me_get (by omega) (mm_0 cy ad _)) rfl 23 (by decide) k135 (fun _ h9 => h9) rfl dX4_got_6 ?_
  exact me_reti hx hb hr rfl hlocks hK hP hD hS (by simp only [m_got, e2]) dX4_got_9

def m_ref (x : Int32) (y : Int32) (σ : me_M) : Int32 × me_M := if (σ 0 0) = 0 then (if x = 0 then (if (σ 0 0) ≤ 0 then ((nI 0, σ)) else ((nI 1, σ))) else (let s13 := me_st σ 0 0 y; if (s13 0 0) ≤ 0 then ((nI 0, s13)) else ((nI 1, s13)))) else (if (σ 0 0) ≤ 0 then ((nI 0, σ)) else ((nI 1, σ)))
set_option maxRecDepth 100000 in
set_option maxHeartbeats 4000000 in
theorem c_X4_refuses (l : Launch) (D : va_G) (cy : Nat → ClassId) (ad : Nat → Nat) (xr : va_W) (x : Int32) (y : Int32) (σ : me_M)  (sz : Nat) : me_Ci l yX4_refuses wsX4_refuses ({ frames := 0, cells := 0, slots := 0, locals := 0 }) D (me_T cy) (mm_W cy ad xr) [.ref (ad 0), .int x, .int y] sz σ (m_ref x y σ) := by
  refine Met.ofW (cc := cX4_refuses) (maxL := 3) (ret := (some .boolean)) (by decide) rfl ?_
  intro p e st m args below meth c s₁ B hml hv
  obtain ⟨rfl, hsz, hP, hK, hD0⟩ := hv
  have hx := B.exec
  have hb := B.bytes
  have hr := B.returns
  have hts := atoms_spec (ws := wsX4_refuses) B.pre
  have hown : st.vm.findClass RX4 = some m.cls := findClass_of_methodNamed B.named
  have hlocks := B.notSynchronized
  have in4 : ∀ w ∈ u_ws RX4 TX4 29, w ∈ wsX4_refuses := by decide +kernel
  have k75 := hts (.fieldLink RX4 75 "TwinWritesModel" "thrown" "I") (by decide +kernel)
  subst hsz
  have hD := hD0.self (sz := st.heap.size)
  have hA : ∀ q : Nat, st.heap.size ≤ q → va_A ((mm_W cy ad xr) σ) st.heap.size q := fun q h => Or.inr h
  have hS : va_S (va_A ((mm_W cy ad xr) σ) st.heap.size) st.heap st.heap [] := va_S.rf
  generalize va_A ((mm_W cy ad xr) σ) st.heap.size = A at hD hA hS ⊢
  have hl := lv_entry ([.ref (ad 0), .int x, .int y]) (n := 3) (Nat.le_of_ble_eq_true rfl)
  rw [lg_entry_eq]
  generalize (lg_sl ([.ref (ad 0), .int x, .int y]) ++ List.replicate (3 - (lg_sl ([.ref (ad 0), .int x, .int y])).length) Slot.unset).toArray = ls at hl ⊢
  have hl : lv_has ls 3 [(0, .ref (ad 0)), (1, .int x), (2, .int y)] := hl
  refine lv_aload_n hx hb dX4_refuses_0 rfl (lv_at hl 0 rfl) ?_
  refine va_get (D := D) (ci := 4) (v := .int (σ 0 0)) (C := RX4) (T := TX4) (N := 29) hx hb hts in4 hown hK hP 0 (me_get (by omega) (mm_0 cy ad _)) rfl 0 (by decide) k75 (fun _ h9 => h9) rfl dX4_refuses_1 ?_
  refine lv_if_ne (tgt := 16) hx hb dX4_refuses_4 (by decide) (fun c4 => ?_) (fun c4 => ?_)
  ·
    refine lv_aload_n hx hb dX4_refuses_16 rfl (lv_at hl 0 rfl) ?_
    refine va_get (D := D) (ci := 4) (v := .int (σ 0 0)) (C := RX4) (T := TX4) (N := 29) hx hb hts in4 hown hK hP 0 (me_get (by omega) (mm_0 cy ad _)) rfl 0 (by decide) k75 (fun _ h9 => h9) rfl dX4_refuses_17 ?_
    refine lv_if_le (tgt := 27) hx hb dX4_refuses_20 (by decide) (fun c20 => ?_) (fun c20 => ?_)
    ·
      refine lv_iconst (v := nI 0) hx hb dX4_refuses_27 (by decide) ?_
      exact me_reti hx hb hr rfl hlocks hK hP hD hS (by simp only [m_ref, if_neg c4, if_pos c20]) dX4_refuses_28
    ·
      refine lv_iconst (v := nI 1) hx hb dX4_refuses_23 (by decide) ?_
      refine lv_goto (tgt := 28) hx hb dX4_refuses_24 (by decide) ?_
      exact me_reti hx hb hr rfl hlocks hK hP hD hS (by simp only [m_ref, if_neg c4, if_neg c20]) dX4_refuses_28
  ·
    refine lv_iload_n hx hb dX4_refuses_7 rfl (lv_at hl 1 rfl) ?_
    refine lv_if_eq (tgt := 16) hx hb dX4_refuses_8 (by decide) (fun c8 => ?_) (fun c8 => ?_)
    ·
      refine lv_aload_n hx hb dX4_refuses_16 rfl (lv_at hl 0 rfl) ?_
      refine va_get (D := D) (ci := 4) (v := .int (σ 0 0)) (C := RX4) (T := TX4) (N := 29) hx hb hts in4 hown hK hP 0 (me_get (by omega) (mm_0 cy ad _)) rfl 0 (by decide) k75 (fun _ h9 => h9) rfl dX4_refuses_17 ?_
      refine lv_if_le (tgt := 27) hx hb dX4_refuses_20 (by decide) (fun c20 => ?_) (fun c20 => ?_)
      ·
        refine lv_iconst (v := nI 0) hx hb dX4_refuses_27 (by decide) ?_
        exact me_reti hx hb hr rfl hlocks hK hP hD hS (by simp only [m_ref, if_pos c4, if_pos c8, if_pos c20]) dX4_refuses_28
      ·
        refine lv_iconst (v := nI 1) hx hb dX4_refuses_23 (by decide) ?_
        refine lv_goto (tgt := 28) hx hb dX4_refuses_24 (by decide) ?_
        exact me_reti hx hb hr rfl hlocks hK hP hD hS (by simp only [m_ref, if_pos c4, if_pos c8, if_neg c20]) dX4_refuses_28
    ·
      refine lv_aload_n hx hb dX4_refuses_11 rfl (lv_at hl 0 rfl) ?_
      refine lv_iload_n hx hb dX4_refuses_12 rfl (lv_at hl 2 rfl) ?_
      refine me_put (ty := .int) (ci := 4) (C := RX4) (T := TX4) (M := 29) hx hb hts in4 tyX4 tyX4_ok nmX4 hown hK hP hD hS 0 (by omega) (mm_0 cy ad _) rfl 0 (by decide) k75 (fun _ h9 => h9) rfl (by decide +kernel) rfl rfl (Nat.le_of_ble_eq_true rfl) (mm_0 cy ad _) dX4_refuses_13 (fun s13 H locs e13 hP hD hS => ?_)
      refine lv_aload_n hx hb dX4_refuses_16 rfl (lv_at hl 0 rfl) ?_
      refine va_get (D := D) (ci := 4) (v := .int (s13 0 0)) (C := RX4) (T := TX4) (N := 29) hx hb hts in4 hown hK hP 0 (me_get (by omega) (mm_0 cy ad _)) rfl 0 (by decide) k75 (fun _ h9 => h9) rfl dX4_refuses_17 ?_
      refine lv_if_le (tgt := 27) hx hb dX4_refuses_20 (by decide) (fun c20 => ?_) (fun c20 => ?_)
      ·
        refine lv_iconst (v := nI 0) hx hb dX4_refuses_27 (by decide) ?_
        exact me_reti hx hb hr rfl hlocks hK hP hD hS (by simp only [m_ref, if_pos c4, if_neg c8, e13, if_pos c20]) dX4_refuses_28
      ·
        refine lv_iconst (v := nI 1) hx hb dX4_refuses_23 (by decide) ?_
        refine lv_goto (tgt := 28) hx hb dX4_refuses_24 (by decide) ?_
        exact me_reti hx hb hr rfl hlocks hK hP hD hS (by simp only [m_ref, if_pos c4, if_neg c8, e13, if_neg c20]) dX4_refuses_28

def m_down_17 : Nat → Nat → me_M → me_M
  | 0, i, s => (s)
  | n + 1, i, s => if nI 4 ≤ (nI i) then ((s)) else (let s28 := me_st s 10 i ((-1)); let s35 := me_st s28 12 i (nI 0); m_down_17 n  (i + 1) s35)
def m_down  (σ : me_M) : me_M := let s2 := me_st σ 0 24 ((-1)); let s7 := me_st s2 0 25 (nI 1); let s12 := me_st s7 0 18 (nI 0); let s17 := m_down_17 5  0 s12; s17
set_option maxRecDepth 100000 in
set_option maxHeartbeats 4000000 in
theorem c_X4_goDown (l : Launch) (D : va_G) (cy : Nat → ClassId) (ad : Nat → Nat) (xr : va_W)  (σ : me_M)  (sz : Nat) : me_Cv l yX4_goDown wsX4_goDown ({ frames := 0, cells := 0, slots := 0, locals := 0 }) D (me_T cy) (mm_W cy ad xr) [.ref (ad 0)] sz σ (m_down  σ) := by
  refine Met.ofW (cc := cX4_goDown) (maxL := 2) (ret := none) (by decide) rfl ?_
  intro p e st m args below meth c s₁ B hml hv
  obtain ⟨rfl, hsz, hP, hK, hD0⟩ := hv
  have hx := B.exec
  have hb := B.bytes
  have hr := B.returns
  have hts := atoms_spec (ws := wsX4_goDown) B.pre
  have hown : st.vm.findClass RX4 = some m.cls := findClass_of_methodNamed B.named
  have hlocks := B.notSynchronized
  have in4 : ∀ w ∈ u_ws RX4 TX4 29, w ∈ wsX4_goDown := by decide +kernel
  have k41 := hts (.fieldLink RX4 41 "TwinWritesModel" "framePage" "[I") (by decide +kernel)
  have k47 := hts (.fieldLink RX4 47 "TwinWritesModel" "isDirty" "[Z") (by decide +kernel)
  have k72 := hts (.fieldLink RX4 72 "TwinWritesModel" "power" "I") (by decide +kernel)
  have k78 := hts (.fieldLink RX4 78 "TwinWritesModel" "isDown" "Z") (by decide +kernel)
  have k82 := hts (.fieldLink RX4 82 "TwinWritesModel" "waiting" "I") (by decide +kernel)
  subst hsz
  have hD := hD0.self (sz := st.heap.size)
  have hA : ∀ q : Nat, st.heap.size ≤ q → va_A ((mm_W cy ad xr) σ) st.heap.size q := fun q h => Or.inr h
  have hS : va_S (va_A ((mm_W cy ad xr) σ) st.heap.size) st.heap st.heap [] := va_S.rf
  generalize va_A ((mm_W cy ad xr) σ) st.heap.size = A at hD hA hS ⊢
  have hl := lv_entry ([.ref (ad 0)]) (n := 2) (Nat.le_of_ble_eq_true rfl)
  rw [lg_entry_eq]
  generalize (lg_sl ([.ref (ad 0)]) ++ List.replicate (2 - (lg_sl ([.ref (ad 0)])).length) Slot.unset).toArray = ls at hl ⊢
  have hl : lv_has ls 2 [(0, .ref (ad 0))] := hl
  refine lv_aload_n hx hb dX4_goDown_0 rfl (lv_at hl 0 rfl) ?_
  refine lv_iconst (v := (-1)) hx hb dX4_goDown_1 (by decide) ?_
  refine me_put (ty := .int) (ci := 4) (C := RX4) (T := TX4) (M := 29) hx hb hts in4 tyX4 tyX4_ok nmX4 hown hK hP hD hS 0 (by omega) (mm_0 cy ad _) rfl 24 (by decide) k72 (fun _ h9 => h9) rfl (by decide +kernel) rfl rfl (Nat.le_of_ble_eq_true rfl) (mm_0 cy ad _) dX4_goDown_2 (fun s2 H locs e2 hP hD hS => ?_)
  refine lv_aload_n hx hb dX4_goDown_5 rfl (lv_at hl 0 rfl) ?_
  refine lv_iconst (v := nI 1) hx hb dX4_goDown_6 (by decide) ?_
  refine me_put (ty := .boolean) (ci := 4) (C := RX4) (T := TX4) (M := 29) hx hb hts in4 tyX4 tyX4_ok nmX4 hown hK hP hD hS 0 (by omega) (mm_0 cy ad _) rfl 25 (by decide) k78 (fun _ h9 => h9) rfl (by decide +kernel) rfl rfl (Nat.le_of_ble_eq_true rfl) (mm_0 cy ad _) dX4_goDown_7 (fun s7 H locs e7 hP hD hS => ?_)
  refine lv_aload_n hx hb dX4_goDown_10 rfl (lv_at hl 0 rfl) ?_
  refine lv_iconst (v := nI 0) hx hb dX4_goDown_11 (by decide) ?_
  refine me_put (ty := .int) (ci := 4) (C := RX4) (T := TX4) (M := 29) hx hb hts in4 tyX4 tyX4_ok nmX4 hown hK hP hD hS 0 (by omega) (mm_0 cy ad _) rfl 18 (by decide) k82 (fun _ h9 => h9) rfl (by decide +kernel) rfl rfl (Nat.le_of_ble_eq_true rfl) (mm_0 cy ad _) dX4_goDown_12 (fun s12 H locs e12 hP hD hS => ?_)
  refine lv_iconst (v := nI 0) hx hb dX4_goDown_15 (by decide) ?_
  refine lv_istore_n (lv' := [(1, .int (nI 0)), (0, .ref (ad 0))]) hx hb dX4_goDown_16 rfl hl (by decide) rfl (fun ls hl => ?_)
  have J17 : ∀ (n : Nat) (i : Nat) (s : me_M) (H : Heap) (locs : List Loc) (hP : va_P D vwCl ((mm_W cy ad xr) s) H) (hD : va_D A ((mm_W cy ad xr) s)) (hS : va_S A st.heap H locs) (ls : Array Slot) (hl : lv_has ls 2 [(1, .int (nI i)), (0, .ref (ad 0))]), ∀ (hi : i ≤ 4), ∀ (hn : 5 ≤ i + n), (∀  (s' : me_M) (H : Heap) (locs : List Loc) (hP : va_P D vwCl ((mm_W cy ad xr) s') H) (hD : va_D A ((mm_W cy ad xr) s')) (hS : va_S A st.heap H locs) (ls : Array Slot) (hl : lv_has ls 2 [(0, .ref (ad 0))]) (eJ : m_down_17 n  i s = (s')) , W p l e (headSpec wsX4_goDown ({ frames := 0, cells := 0, slots := 0, locals := 0 })).room st m ([.ref (ad 0)] : List Value).toArray below meth c H locs 0 0 (MQ below (va_Qv (fun σ' => σ' = m_down  σ) (me_B D (me_T cy) A (mm_W cy ad xr)) A) ([.ref (ad 0)] : List Value).toArray st 0 0 A) (F0 m 42 ls [])) → W p l e (headSpec wsX4_goDown ({ frames := 0, cells := 0, slots := 0, locals := 0 })).room st m ([.ref (ad 0)] : List Value).toArray below meth c H locs 0 0 (MQ below (va_Qv (fun σ' => σ' = m_down  σ) (me_B D (me_T cy) A (mm_W cy ad xr)) A) ([.ref (ad 0)] : List Value).toArray st 0 0 A) (F0 m 17 ls []) := by
    intro n
    induction n with
    | zero => intro i s H locs hP hD hS ls hl hi hn kk17; exfalso; omega
    | succ n ih =>
      intro i s H locs hP hD hS ls hl hi hn kk17
      refine lv_iload_n hx hb dX4_goDown_17 rfl (lv_at hl 0 rfl) ?_
      refine lv_iconst (v := nI 4) hx hb dX4_goDown_18 (by decide) ?_
      refine lv_icmp_ge (tgt := 42) hx hb dX4_goDown_19 (by decide) (fun c19 => ?_) (fun c19 => ?_)
      ·
        try have h19 := (nI_leI (by omega) (by omega)).mp c19
        exact kk17  s _ _ hP hD hS ls (lv_sub hl [1] rfl) (by simp only [m_down_17, if_pos c19]) 
      ·
        try have h19 := (not_congr (nI_leI (by omega) (by omega))).mp c19
        refine lv_aload_n hx hb dX4_goDown_22 rfl (lv_at hl 1 rfl) ?_
        refine va_get (D := D) (ci := 4) (v := .ref (ad 10)) (C := RX4) (T := TX4) (N := 29) hx hb hts in4 hown hK hP 0 (me_get (by omega) (mm_0 cy ad _)) rfl 11 (by decide) k41 (fun _ h9 => h9) rfl dX4_goDown_23 ?_
        refine lv_iload_n hx hb dX4_goDown_26 rfl (lv_at hl 0 rfl) ?_
        refine lv_iconst (v := (-1)) hx hb dX4_goDown_27 (by decide) ?_
        refine me_iast hx hb hK hP hD hS 10 0 (by omega) (fun f => mm_10 cy ad f) rfl i rfl (by omega) (by decide) dX4_goDown_28 (fun s28 H locs e28 hP hD hS => ?_)
        refine lv_aload_n hx hb dX4_goDown_29 rfl (lv_at hl 1 rfl) ?_
        refine va_get (D := D) (ci := 4) (v := .ref (ad 12)) (C := RX4) (T := TX4) (N := 29) hx hb hts in4 hown hK hP 0 (me_get (by omega) (mm_0 cy ad _)) rfl 13 (by decide) k47 (fun _ h9 => h9) rfl dX4_goDown_30 ?_
        refine lv_iload_n hx hb dX4_goDown_33 rfl (lv_at hl 0 rfl) ?_
        refine lv_iconst (v := nI 0) hx hb dX4_goDown_34 (by decide) ?_
        refine me_zast hx hb hK hP hD hS 12 1 (by omega) (fun f => mm_12 cy ad f) rfl i rfl (by omega) (by decide) (by decide) dX4_goDown_35 (fun s35 H locs e35 hP hD hS => ?_)
        refine lv_iinc (v := nI (i + 1)) (lv' := [(1, .int (nI (i + 1))), (0, .ref (ad 0))]) hx hb dX4_goDown_36 hl (k := 0) rfl (me_inc _) (by decide) rfl (fun ls hl => ?_)
        refine lv_goto (tgt := 17) hx hb dX4_goDown_39 (by decide) ?_
        exact ih (i + 1) s35 _ _ hP hD hS ls (lv_sub hl [0, 1] rfl) (by omega) (by omega) (fun  s' H locs hP hD hS ls hl eJ  => kk17  s' H locs hP hD hS ls hl (by simp only [m_down_17, if_neg c19, e28, e35]; exact eJ) )
  refine J17 5 0 s12 _ _ hP hD hS ls (lv_sub hl [0, 1] rfl) (by omega) (by omega) (fun  s17 H locs hP hD hS ls hl e17  => ?_)
  exact me_retv hx hb hr hlocks hK hP hD hS (by simp only [m_down, e2, e7, e12, e17]) dX4_goDown_42

def m_mw  (σ : me_M) : Int32 × me_M := if (σ 0 24) = 0 then (let s8 := m_down σ; (nI 0, s8)) else (if (σ 0 24) ≤ 0 then (let s31 := me_st σ 0 24 ((σ 0 24) - (nI 0)); let s41 := me_st s31 0 26 ((s31 0 26) + (nI 1)); (nI 1, s41)) else (let s31 := me_st σ 0 24 ((σ 0 24) - (nI 1)); let s41 := me_st s31 0 26 ((s31 0 26) + (nI 1)); (nI 1, s41)))
set_option maxRecDepth 100000 in
set_option maxHeartbeats 4000000 in
theorem c_X4_mayWrite (l : Launch) (D : va_G) (cy : Nat → ClassId) (ad : Nat → Nat) (xr : va_W)  (σ : me_M)  (sz : Nat) : me_Ci l yX4_mayWrite wsX4_mayWrite ({ frames := 1, cells := 0, slots := 0, locals := 21 }) D (me_T cy) (mm_W cy ad xr) [.ref (ad 0)] sz σ (m_mw  σ) := by
  refine Met.ofW (cc := cX4_mayWrite) (maxL := 1) (ret := (some .boolean)) (by decide) rfl ?_
  intro p e st m args below meth c s₁ B hml hv
  obtain ⟨rfl, hsz, hP, hK, hD0⟩ := hv
  have hx := B.exec
  have hb := B.bytes
  have hr := B.returns
  have hts := atoms_spec (ws := wsX4_mayWrite) B.pre
  have hown : st.vm.findClass RX4 = some m.cls := findClass_of_methodNamed B.named
  have hlocks := B.notSynchronized
  have in4 : ∀ w ∈ u_ws RX4 TX4 29, w ∈ wsX4_mayWrite := by decide +kernel
  have k72 := hts (.fieldLink RX4 72 "TwinWritesModel" "power" "I") (by decide +kernel)
  have k88 := hts (.fieldLink RX4 88 "TwinWritesModel" "sectors" "I") (by decide +kernel)
  subst hsz
  have hD := hD0.self (sz := st.heap.size)
  have hA : ∀ q : Nat, st.heap.size ≤ q → va_A ((mm_W cy ad xr) σ) st.heap.size q := fun q h => Or.inr h
  have hS : va_S (va_A ((mm_W cy ad xr) σ) st.heap.size) st.heap st.heap [] := va_S.rf
  generalize va_A ((mm_W cy ad xr) σ) st.heap.size = A at hD hA hS ⊢
  have hl := lv_entry ([.ref (ad 0)]) (n := 1) (Nat.le_of_ble_eq_true rfl)
  rw [lg_entry_eq]
  generalize (lg_sl ([.ref (ad 0)]) ++ List.replicate (1 - (lg_sl ([.ref (ad 0)])).length) Slot.unset).toArray = ls at hl ⊢
  have hl : lv_has ls 1 [(0, .ref (ad 0))] := hl
  refine lv_aload_n hx hb dX4_mayWrite_0 rfl (lv_at hl 0 rfl) ?_
  refine va_get (D := D) (ci := 4) (v := .int (σ 0 24)) (C := RX4) (T := TX4) (N := 29) hx hb hts in4 hown hK hP 0 (me_get (by omega) (mm_0 cy ad _)) rfl 24 (by decide) k72 (fun _ h9 => h9) rfl dX4_mayWrite_1 ?_
  refine lv_if_ne (tgt := 13) hx hb dX4_mayWrite_4 (by decide) (fun c4 => ?_) (fun c4 => ?_)
  ·
    refine lv_aload_n hx hb dX4_mayWrite_13 rfl (lv_at hl 0 rfl) ?_
    refine lv_dup hx hb dX4_mayWrite_14 rfl ?_
    refine va_get (D := D) (ci := 4) (v := .int (σ 0 24)) (C := RX4) (T := TX4) (N := 29) hx hb hts in4 hown hK hP 0 (me_get (by omega) (mm_0 cy ad _)) rfl 24 (by decide) k72 (fun _ h9 => h9) rfl dX4_mayWrite_15 ?_
    refine lv_aload_n hx hb dX4_mayWrite_18 rfl (lv_at hl 0 rfl) ?_
    refine va_get (D := D) (ci := 4) (v := .int (σ 0 24)) (C := RX4) (T := TX4) (N := 29) hx hb hts in4 hown hK hP 0 (me_get (by omega) (mm_0 cy ad _)) rfl 24 (by decide) k72 (fun _ h9 => h9) rfl dX4_mayWrite_19 ?_
    refine lv_if_le (tgt := 29) hx hb dX4_mayWrite_22 (by decide) (fun c22 => ?_) (fun c22 => ?_)
    ·
      refine lv_iconst (v := nI 0) hx hb dX4_mayWrite_29 (by decide) ?_
      refine lv_isub hx hb dX4_mayWrite_30 ?_
      refine me_put (ty := .int) (ci := 4) (C := RX4) (T := TX4) (M := 29) hx hb hts in4 tyX4 tyX4_ok nmX4 hown hK hP hD hS 0 (by omega) (mm_0 cy ad _) rfl 24 (by decide) k72 (fun _ h9 => h9) rfl (by decide +kernel) rfl rfl (Nat.le_of_ble_eq_true rfl) (mm_0 cy ad _) dX4_mayWrite_31 (fun s31 H locs e31 hP hD hS => ?_)
      refine lv_aload_n hx hb dX4_mayWrite_34 rfl (lv_at hl 0 rfl) ?_
      refine lv_dup hx hb dX4_mayWrite_35 rfl ?_
      refine va_get (D := D) (ci := 4) (v := .int (s31 0 26)) (C := RX4) (T := TX4) (N := 29) hx hb hts in4 hown hK hP 0 (me_get (by omega) (mm_0 cy ad _)) rfl 26 (by decide) k88 (fun _ h9 => h9) rfl dX4_mayWrite_36 ?_
      refine lv_iconst (v := nI 1) hx hb dX4_mayWrite_39 (by decide) ?_
      refine lv_iadd hx hb dX4_mayWrite_40 ?_
      refine me_put (ty := .int) (ci := 4) (C := RX4) (T := TX4) (M := 29) hx hb hts in4 tyX4 tyX4_ok nmX4 hown hK hP hD hS 0 (by omega) (mm_0 cy ad _) rfl 26 (by decide) k88 (fun _ h9 => h9) rfl (by decide +kernel) rfl rfl (Nat.le_of_ble_eq_true rfl) (mm_0 cy ad _) dX4_mayWrite_41 (fun s41 H locs e41 hP hD hS => ?_)
      refine lv_iconst (v := nI 1) hx hb dX4_mayWrite_44 (by decide) ?_
      exact me_reti hx hb hr rfl hlocks hK hP hD hS (by simp only [m_mw, if_neg c4, if_pos c22, e31, e41]) dX4_mayWrite_45
    ·
      refine lv_iconst (v := nI 1) hx hb dX4_mayWrite_25 (by decide) ?_
      refine lv_goto (tgt := 30) hx hb dX4_mayWrite_26 (by decide) ?_
      refine lv_isub hx hb dX4_mayWrite_30 ?_
      refine me_put (ty := .int) (ci := 4) (C := RX4) (T := TX4) (M := 29) hx hb hts in4 tyX4 tyX4_ok nmX4 hown hK hP hD hS 0 (by omega) (mm_0 cy ad _) rfl 24 (by decide) k72 (fun _ h9 => h9) rfl (by decide +kernel) rfl rfl (Nat.le_of_ble_eq_true rfl) (mm_0 cy ad _) dX4_mayWrite_31 (fun s31 H locs e31 hP hD hS => ?_)
      refine lv_aload_n hx hb dX4_mayWrite_34 rfl (lv_at hl 0 rfl) ?_
      refine lv_dup hx hb dX4_mayWrite_35 rfl ?_
      refine va_get (D := D) (ci := 4) (v := .int (s31 0 26)) (C := RX4) (T := TX4) (N := 29) hx hb hts in4 hown hK hP 0 (me_get (by omega) (mm_0 cy ad _)) rfl 26 (by decide) k88 (fun _ h9 => h9) rfl dX4_mayWrite_36 ?_
      refine lv_iconst (v := nI 1) hx hb dX4_mayWrite_39 (by decide) ?_
      refine lv_iadd hx hb dX4_mayWrite_40 ?_
      refine me_put (ty := .int) (ci := 4) (C := RX4) (T := TX4) (M := 29) hx hb hts in4 tyX4 tyX4_ok nmX4 hown hK hP hD hS 0 (by omega) (mm_0 cy ad _) rfl 26 (by decide) k88 (fun _ h9 => h9) rfl (by decide +kernel) rfl rfl (Nat.le_of_ble_eq_true rfl) (mm_0 cy ad _) dX4_mayWrite_41 (fun s41 H locs e41 hP hD hS => ?_)
      refine lv_iconst (v := nI 1) hx hb dX4_mayWrite_44 (by decide) ?_
      exact me_reti hx hb hr rfl hlocks hK hP hD hS (by simp only [m_mw, if_neg c4, if_neg c22, e31, e41]) dX4_mayWrite_45
  ·
    refine lv_aload_n hx hb dX4_mayWrite_7 rfl (lv_at hl 0 rfl) ?_
    refine me_callv (f := m_down σ) (w := (mm_W cy ad xr)) (σ := σ) (As := []) (rest := []) ⟨hx, hb, hml, hown, hts⟩ (fun sz => c_X4_goDown l D cy ad xr  σ  sz) (cwV 0 hts gX4_mayWrite_X4_goDown rfl rfl rfl (by decide +kernel) ⟨Nat.le_of_ble_eq_true rfl, Nat.le_of_ble_eq_true rfl⟩) (va_recv hK hP (ci := 4) (q0 := 0) rfl (me_get (by omega) (mm_0 cy ad _))) hK hP hD hS hA rfl hl.1 rfl (Nat.le_of_ble_eq_true rfl) dX4_mayWrite_8 ⟨Nat.zero_le _, Nat.zero_le _⟩ (fun s8 H locs e8 hP hD hS => ?_)
    refine lv_iconst (v := nI 0) hx hb dX4_mayWrite_11 (by decide) ?_
    exact me_reti hx hb hr rfl hlocks hK hP hD hS (by simp only [m_mw, if_pos c4, e8]) dX4_mayWrite_12
end
section
def m_wh_36 : Nat → Nat → Int32 → Nat → Int32 → Nat → Nat → me_M → me_M
  | 0, a, y, b, o, i, t, s => (s)
  | n + 1, a, y, b, o, i, t, s => if nI (4 * i + 4) ≤ (nI t) then ((s)) else (if o = 0 then (let s90 := me_st s 2 (16 * a + t) (s 5 (16 * b + t)); m_wh_36 n a y b o i (t + 1) s90) else (let s90 := me_st s 2 (16 * a + t) (s 14 (16 * b + t)); m_wh_36 n a y b o i (t + 1) s90))
def m_wh_3 : Nat → Nat → Int32 → Nat → Int32 → Nat → me_M → Int32 × me_M
  | 0, a, y, b, o, i, s => (0, s)
  | n + 1, a, y, b, o, i, s => if nI 4 ≤ (nI i) then ((nI 1, s)) else (let q10 := m_mw s; let r10 := q10.1; let s10 := q10.2; if r10 = 0 then ((nI 0, s10)) else (let s29 := me_st s10 1 (4 * a + i) y; let s36 := m_wh_36 5 a y b o i (4 * i) s29; m_wh_3 n a y b o (i + 1) s36))
def m_wh (a : Nat) (y : Int32) (b : Nat) (o : Int32) (σ : me_M) : Int32 × me_M := m_wh_3 5 a y b o 0 σ
set_option maxRecDepth 100000 in
set_option maxHeartbeats 4000000 in
theorem c_X4_writeHome (l : Launch) (D : va_G) (cy : Nat → ClassId) (ad : Nat → Nat) (xr : va_W) (a : Nat) (y : Int32) (b : Nat) (o : Int32) (σ : me_M) (ha : a < 12) (hb4 : b < 4) (sz : Nat) : me_Ci l yX4_writeHome wsX4_writeHome ({ frames := 2, cells := 0, slots := 0, locals := 41 }) D (me_T cy) (mm_W cy ad xr) [.ref (ad 0), .int (nI a), .int y, .int (nI b), .int o] sz σ (m_wh a y b o σ) := by
  refine Met.ofW (cc := cX4_writeHome) (maxL := 7) (ret := (some .boolean)) (by decide) rfl ?_
  intro p e st m args below meth c s₁ B hml hv
  obtain ⟨rfl, hsz, hP, hK, hD0⟩ := hv
  have hx := B.exec
  have hb := B.bytes
  have hr := B.returns
  have hts := atoms_spec (ws := wsX4_writeHome) B.pre
  have hown : st.vm.findClass RX4 = some m.cls := findClass_of_methodNamed B.named
  have hlocks := B.notSynchronized
  have in4 : ∀ w ∈ u_ws RX4 TX4 29, w ∈ wsX4_writeHome := by decide +kernel
  have k7 := hts (.fieldLink RX4 7 "TwinWritesModel" "homeStamp" "[I") (by decide +kernel)
  have k13 := hts (.fieldLink RX4 13 "TwinWritesModel" "homeWord" "[I") (by decide +kernel)
  have k22 := hts (.fieldLink RX4 22 "TwinWritesModel" "besideWord" "[I") (by decide +kernel)
  have k54 := hts (.fieldLink RX4 54 "TwinWritesModel" "frameWord" "[I") (by decide +kernel)
  subst hsz
  have hD := hD0.self (sz := st.heap.size)
  have hA : ∀ q : Nat, st.heap.size ≤ q → va_A ((mm_W cy ad xr) σ) st.heap.size q := fun q h => Or.inr h
  have hS : va_S (va_A ((mm_W cy ad xr) σ) st.heap.size) st.heap st.heap [] := va_S.rf
  generalize va_A ((mm_W cy ad xr) σ) st.heap.size = A at hD hA hS ⊢
  have hl := lv_entry ([.ref (ad 0), .int (nI a), .int y, .int (nI b), .int o]) (n := 7) (Nat.le_of_ble_eq_true rfl)
  rw [lg_entry_eq]
  generalize (lg_sl ([.ref (ad 0), .int (nI a), .int y, .int (nI b), .int o]) ++ List.replicate (7 - (lg_sl ([.ref (ad 0), .int (nI a), .int y, .int (nI b), .int o])).length) Slot.unset).toArray = ls at hl ⊢
  have hl : lv_has ls 7 [(0, .ref (ad 0)), (1, .int (nI a)), (2, .int y), (3, .int (nI b)), (4, .int o)] := hl
  refine lv_iconst (v := nI 0) hx hb dX4_writeHome_0 (by decide) ?_
  refine lv_istore (lv' := [(5, .int (nI 0)), (0, .ref (ad 0)), (1, .int (nI a)), (2, .int y), (3, .int (nI b)), (4, .int o)]) hx hb dX4_writeHome_1 hl (by decide) rfl (fun ls hl => ?_)
  have J3 : ∀ (n : Nat) (i : Nat) (s : me_M) (H : Heap) (locs : List Loc) (hP : va_P D vwCl ((mm_W cy ad xr) s) H) (hD : va_D A ((mm_W cy ad xr) s)) (hS : va_S A st.heap H locs) (ls : Array Slot) (hl : lv_has ls 7 [(5, .int (nI i)), (0, .ref (ad 0)), (1, .int (nI a)), (2, .int y), (3, .int (nI b)), (4, .int o)]), ∀ (hi : i ≤ 4), ∀ (hn : 5 ≤ i + n), m_wh a y b o σ = m_wh_3 n a y b o i s → W p l e (headSpec wsX4_writeHome ({ frames := 2, cells := 0, slots := 0, locals := 41 })).room st m ([.ref (ad 0), .int (nI a), .int y, .int (nI b), .int o] : List Value).toArray below meth c H locs 0 0 (MQ below (va_Qi (fun r σ' => (r, σ') = m_wh a y b o σ) (me_B D (me_T cy) A (mm_W cy ad xr)) A) ([.ref (ad 0), .int (nI a), .int y, .int (nI b), .int o] : List Value).toArray st 0 0 A) (F0 m 3 ls []) := by
    intro n
    induction n with
    | zero => intro i s H locs hP hD hS ls hl hi hn hf3; exfalso; omega
    | succ n ih =>
      intro i s H locs hP hD hS ls hl hi hn hf3
      refine lv_iload hx hb dX4_writeHome_3 (lv_at hl 0 rfl) ?_
      refine lv_iconst (v := nI 4) hx hb dX4_writeHome_5 (by decide) ?_
      refine lv_icmp_ge (tgt := 103) hx hb dX4_writeHome_6 (by decide) (fun c6 => ?_) (fun c6 => ?_)
      ·
        try have h6 := (nI_leI (by omega) (by omega)).mp c6
        refine lv_iconst (v := nI 1) hx hb dX4_writeHome_103 (by decide) ?_
        exact me_reti hx hb hr rfl hlocks hK hP hD hS (by rw [hf3]; simp only [m_wh_3, if_pos c6]) dX4_writeHome_104
      ·
        try have h6 := (not_congr (nI_leI (by omega) (by omega))).mp c6
        refine lv_aload_n hx hb dX4_writeHome_9 rfl (lv_at hl 1 rfl) ?_
        refine me_calli (f := m_mw s) (w := (mm_W cy ad xr)) (σ := s) (As := []) (rest := []) ⟨hx, hb, hml, hown, hts⟩ (fun sz => c_X4_mayWrite l D cy ad xr  s  sz) (cwV 0 hts gX4_writeHome_X4_mayWrite rfl rfl rfl (by decide +kernel) ⟨Nat.le_of_ble_eq_true rfl, Nat.le_of_ble_eq_true rfl⟩) (va_recv hK hP (ci := 4) (q0 := 0) rfl (me_get (by omega) (mm_0 cy ad _))) hK hP hD hS hA rfl hl.1 rfl (Nat.le_of_ble_eq_true rfl) dX4_writeHome_10 ⟨Nat.zero_le _, Nat.zero_le _⟩ (fun r10 s10 H locs e10 hP hD hS => ?_)
        refine lv_if_ne (tgt := 18) hx hb dX4_writeHome_13 (by decide) (fun c13 => ?_) (fun c13 => ?_)
        ·
          refine lv_aload_n hx hb dX4_writeHome_18 rfl (lv_at hl 1 rfl) ?_
          refine va_get (D := D) (ci := 4) (v := .ref (ad 1)) (C := RX4) (T := TX4) (N := 29) hx hb hts in4 hown hK hP 0 (me_get (by omega) (mm_0 cy ad _)) rfl 1 (by decide) k7 (fun _ h9 => h9) rfl dX4_writeHome_19 ?_
          refine lv_iconst (v := nI 4) hx hb dX4_writeHome_22 (by decide) ?_
          refine lv_iload_n hx hb dX4_writeHome_23 rfl (lv_at hl 2 rfl) ?_
          refine lv_imul hx hb dX4_writeHome_24 ?_
          refine me_top (pk_mul _ _) ?_
          refine lv_iload hx hb dX4_writeHome_25 (lv_at hl 0 rfl) ?_
          refine lv_iadd hx hb dX4_writeHome_27 ?_
          refine me_top (nI_add _ _) ?_
          refine lv_iload_n hx hb dX4_writeHome_28 rfl (lv_at hl 3 rfl) ?_
          refine me_iast hx hb hK hP hD hS 1 0 (by omega) (fun f => mm_1 cy ad f) rfl (4 * a + i) rfl (by omega) (by decide) dX4_writeHome_29 (fun s29 H locs e29 hP hD hS => ?_)
          refine lv_iconst (v := nI 4) hx hb dX4_writeHome_30 (by decide) ?_
          refine lv_iload hx hb dX4_writeHome_31 (lv_at hl 0 rfl) ?_
          refine lv_imul hx hb dX4_writeHome_33 ?_
          refine me_top (pk_mul _ _) ?_
          refine lv_istore (lv' := [(6, .int (nI (4 * i))), (5, .int (nI i)), (0, .ref (ad 0)), (1, .int (nI a)), (2, .int y), (3, .int (nI b)), (4, .int o)]) hx hb dX4_writeHome_34 hl (by decide) rfl (fun ls hl => ?_)
          have J36 : ∀ (n : Nat) (i : Nat) (t : Nat) (s : me_M) (H : Heap) (locs : List Loc) (hP : va_P D vwCl ((mm_W cy ad xr) s) H) (hD : va_D A ((mm_W cy ad xr) s)) (hS : va_S A st.heap H locs) (ls : Array Slot) (hl : lv_has ls 7 [(6, .int (nI t)), (5, .int (nI i)), (0, .ref (ad 0)), (1, .int (nI a)), (2, .int y), (3, .int (nI b)), (4, .int o)]), ∀ (hi : i < 4), ∀ (ht : 4 * i ≤ t ∧ t ≤ 4 * i + 4), ∀ (hn : 4 * i + 5 ≤ t + n), (∀  (s' : me_M) (H : Heap) (locs : List Loc) (hP : va_P D vwCl ((mm_W cy ad xr) s') H) (hD : va_D A ((mm_W cy ad xr) s')) (hS : va_S A st.heap H locs) (ls : Array Slot) (hl : lv_has ls 7 [(5, .int (nI i)), (0, .ref (ad 0)), (1, .int (nI a)), (2, .int y), (3, .int (nI b)), (4, .int o)]) (eJ : m_wh_36 n a y b o i t s = (s')) , W p l e (headSpec wsX4_writeHome ({ frames := 2, cells := 0, slots := 0, locals := 41 })).room st m ([.ref (ad 0), .int (nI a), .int y, .int (nI b), .int o] : List Value).toArray below meth c H locs 0 0 (MQ below (va_Qi (fun r σ' => (r, σ') = m_wh a y b o σ) (me_B D (me_T cy) A (mm_W cy ad xr)) A) ([.ref (ad 0), .int (nI a), .int y, .int (nI b), .int o] : List Value).toArray st 0 0 A) (F0 m 97 ls [])) → W p l e (headSpec wsX4_writeHome ({ frames := 2, cells := 0, slots := 0, locals := 41 })).room st m ([.ref (ad 0), .int (nI a), .int y, .int (nI b), .int o] : List Value).toArray below meth c H locs 0 0 (MQ below (va_Qi (fun r σ' => (r, σ') = m_wh a y b o σ) (me_B D (me_T cy) A (mm_W cy ad xr)) A) ([.ref (ad 0), .int (nI a), .int y, .int (nI b), .int o] : List Value).toArray st 0 0 A) (F0 m 36 ls []) := by
            intro n
            induction n with
            | zero => intro i t s H locs hP hD hS ls hl hi ht hn kk36; exfalso; omega
            | succ n ih =>
              intro i t s H locs hP hD hS ls hl hi ht hn kk36
              refine lv_iload hx hb dX4_writeHome_36 (lv_at hl 0 rfl) ?_
              refine lv_iconst (v := nI 4) hx hb dX4_writeHome_38 (by decide) ?_
              refine lv_iload hx hb dX4_writeHome_39 (lv_at hl 1 rfl) ?_
              refine lv_imul hx hb dX4_writeHome_41 ?_
              refine me_top (pk_mul _ _) ?_
              refine lv_iconst (v := nI 4) hx hb dX4_writeHome_42 (by decide) ?_
              refine lv_iadd hx hb dX4_writeHome_43 ?_
              refine me_top (nI_add _ _) ?_
              refine lv_icmp_ge (tgt := 97) hx hb dX4_writeHome_44 (by decide) (fun c44 => ?_) (fun c44 => ?_)
              ·
                try have h44 := (nI_leI (by omega) (by omega)).mp c44
                exact kk36  s _ _ hP hD hS ls (lv_sub hl [1, 2, 3, 4, 5, 6] rfl) (by simp only [m_wh_36, if_pos c44]) 
              ·
                try have h44 := (not_congr (nI_leI (by omega) (by omega))).mp c44
                refine lv_aload_n hx hb dX4_writeHome_47 rfl (lv_at hl 2 rfl) ?_
                refine va_get (D := D) (ci := 4) (v := .ref (ad 2)) (C := RX4) (T := TX4) (N := 29) hx hb hts in4 hown hK hP 0 (me_get (by omega) (mm_0 cy ad _)) rfl 2 (by decide) k13 (fun _ h9 => h9) rfl dX4_writeHome_48 ?_
                refine lv_bipush (v := nI 16) hx hb dX4_writeHome_51 (by decide) ?_
                refine lv_iload_n hx hb dX4_writeHome_53 rfl (lv_at hl 3 rfl) ?_
                refine lv_imul hx hb dX4_writeHome_54 ?_
                refine me_top (pk_mul _ _) ?_
                refine lv_iload hx hb dX4_writeHome_55 (lv_at hl 0 rfl) ?_
                refine lv_iadd hx hb dX4_writeHome_57 ?_
                refine me_top (nI_add _ _) ?_
                refine lv_iload hx hb dX4_writeHome_58 (lv_at hl 6 rfl) ?_
                refine lv_if_eq (tgt := 78) hx hb dX4_writeHome_60 (by decide) (fun c60 => ?_) (fun c60 => ?_)
                ·
                  refine lv_aload_n hx hb dX4_writeHome_78 rfl (lv_at hl 2 rfl) ?_
                  refine va_get (D := D) (ci := 4) (v := .ref (ad 5)) (C := RX4) (T := TX4) (N := 29) hx hb hts in4 hown hK hP 0 (me_get (by omega) (mm_0 cy ad _)) rfl 5 (by decide) k22 (fun _ h9 => h9) rfl dX4_writeHome_79 ?_
                  refine lv_bipush (v := nI 16) hx hb dX4_writeHome_82 (by decide) ?_
                  refine lv_iload_n hx hb dX4_writeHome_84 rfl (lv_at hl 5 rfl) ?_
                  refine lv_imul hx hb dX4_writeHome_85 ?_
                  refine me_top (pk_mul _ _) ?_
                  refine lv_iload hx hb dX4_writeHome_86 (lv_at hl 0 rfl) ?_
                  refine lv_iadd hx hb dX4_writeHome_88 ?_
                  refine me_top (nI_add _ _) ?_
                  refine me_iald hx hb hK hP 5 0 (by omega) (fun f => mm_5 cy ad f) rfl (16 * b + t) rfl (by omega) (by decide) dX4_writeHome_89 ?_
                  refine me_iast hx hb hK hP hD hS 2 0 (by omega) (fun f => mm_2 cy ad f) rfl (16 * a + t) rfl (by omega) (by decide) dX4_writeHome_90 (fun s90 H locs e90 hP hD hS => ?_)
                  refine lv_iinc (v := nI (t + 1)) (lv' := [(6, .int (nI (t + 1))), (5, .int (nI i)), (0, .ref (ad 0)), (1, .int (nI a)), (2, .int y), (3, .int (nI b)), (4, .int o)]) hx hb dX4_writeHome_91 hl (k := 0) rfl (me_inc _) (by decide) rfl (fun ls hl => ?_)
                  refine lv_goto (tgt := 36) hx hb dX4_writeHome_94 (by decide) ?_
                  exact ih i (t + 1) s90 _ _ hP hD hS ls (lv_sub hl [0, 1, 2, 3, 4, 5, 6] rfl) (by omega) (by omega) (by omega) (fun  s' H locs hP hD hS ls hl eJ  => kk36  s' H locs hP hD hS ls hl (by simp only [m_wh_36, if_neg c44, if_pos c60, e90]; exact eJ) )
                ·
                  refine lv_aload_n hx hb dX4_writeHome_63 rfl (lv_at hl 2 rfl) ?_
                  refine va_get (D := D) (ci := 4) (v := .ref (ad 14)) (C := RX4) (T := TX4) (N := 29) hx hb hts in4 hown hK hP 0 (me_get (by omega) (mm_0 cy ad _)) rfl 15 (by decide) k54 (fun _ h9 => h9) rfl dX4_writeHome_64 ?_
                  refine lv_bipush (v := nI 16) hx hb dX4_writeHome_67 (by decide) ?_
                  refine lv_iload_n hx hb dX4_writeHome_69 rfl (lv_at hl 5 rfl) ?_
                  refine lv_imul hx hb dX4_writeHome_70 ?_
                  refine me_top (pk_mul _ _) ?_
                  refine lv_iload hx hb dX4_writeHome_71 (lv_at hl 0 rfl) ?_
                  refine lv_iadd hx hb dX4_writeHome_73 ?_
                  refine me_top (nI_add _ _) ?_
                  refine me_iald hx hb hK hP 14 0 (by omega) (fun f => mm_14 cy ad f) rfl (16 * b + t) rfl (by omega) (by decide) dX4_writeHome_74 ?_
                  refine lv_goto (tgt := 90) hx hb dX4_writeHome_75 (by decide) ?_
                  refine me_iast hx hb hK hP hD hS 2 0 (by omega) (fun f => mm_2 cy ad f) rfl (16 * a + t) rfl (by omega) (by decide) dX4_writeHome_90 (fun s90 H locs e90 hP hD hS => ?_)
                  refine lv_iinc (v := nI (t + 1)) (lv' := [(6, .int (nI (t + 1))), (5, .int (nI i)), (0, .ref (ad 0)), (1, .int (nI a)), (2, .int y), (3, .int (nI b)), (4, .int o)]) hx hb dX4_writeHome_91 hl (k := 0) rfl (me_inc _) (by decide) rfl (fun ls hl => ?_)
                  refine lv_goto (tgt := 36) hx hb dX4_writeHome_94 (by decide) ?_
                  exact ih i (t + 1) s90 _ _ hP hD hS ls (lv_sub hl [0, 1, 2, 3, 4, 5, 6] rfl) (by omega) (by omega) (by omega) (fun  s' H locs hP hD hS ls hl eJ  => kk36  s' H locs hP hD hS ls hl (by simp only [m_wh_36, if_neg c44, if_neg c60, e90]; exact eJ) )
          refine J36 5 i (4 * i) s29 _ _ hP hD hS ls (lv_sub hl [0, 1, 2, 3, 4, 5, 6] rfl) (by omega) (by omega) (by omega) (fun  s36 H locs hP hD hS ls hl e36  => ?_)
          refine lv_iinc (v := nI (i + 1)) (lv' := [(5, .int (nI (i + 1))), (0, .ref (ad 0)), (1, .int (nI a)), (2, .int y), (3, .int (nI b)), (4, .int o)]) hx hb dX4_writeHome_97 hl (k := 0) rfl (me_inc _) (by decide) rfl (fun ls hl => ?_)
          refine lv_goto (tgt := 3) hx hb dX4_writeHome_100 (by decide) ?_
          exact ih (i + 1) s36 _ _ hP hD hS ls (lv_sub hl [0, 1, 2, 3, 4, 5] rfl) (by omega) (by omega) (by rw [hf3]; simp only [m_wh_3, if_neg c6, e10, if_neg c13, e29, e36])
        ·
          refine lv_iconst (v := nI 0) hx hb dX4_writeHome_16 (by decide) ?_
          exact me_reti hx hb hr rfl hlocks hK hP hD hS (by rw [hf3]; simp only [m_wh_3, if_neg c6, e10, if_pos c13]) dX4_writeHome_17
  exact J3 5 0 σ _ _ hP hD hS ls (lv_sub hl [0, 1, 2, 3, 4, 5] rfl) (by omega) (by omega) (by simp only [m_wh])

def m_wb_60 : Nat → Nat → Nat → Nat → Nat → me_M → me_M
  | 0, a, b, i, t, s => (s)
  | n + 1, a, b, i, t, s => if nI (4 * i + 4) ≤ (nI t) then ((s)) else (let s94 := me_st s 5 (16 * a + t) (s 14 (16 * b + t)); m_wb_60 n a b i (t + 1) s94)
def m_wb_10 : Nat → Nat → Nat → Int32 → Nat → me_M → Int32 × me_M
  | 0, a, b, x, i, s => (0, s)
  | n + 1, a, b, x, i, s => if nI 4 ≤ (nI i) then ((nI 1, s)) else (let q17 := m_mw s; let r17 := q17.1; let s17 := q17.2; if r17 = 0 then ((nI 0, s17)) else (let s41 := me_st s17 3 (4 * a + i) (s17 11 b); let s53 := me_st s41 4 (4 * a + i) x; let s60 := m_wb_60 5 a b i (4 * i) s53; m_wb_10 n a b x (i + 1) s60))
def m_wb (a : Nat) (b : Nat) (σ : me_M) : Int32 × me_M := m_wb_10 5 a b (σ 10 b) 0 σ
set_option maxRecDepth 100000 in
set_option maxHeartbeats 4000000 in
theorem c_X4_writeBeside (l : Launch) (D : va_G) (cy : Nat → ClassId) (ad : Nat → Nat) (xr : va_W) (a : Nat) (b : Nat) (σ : me_M) (ha : a < 4) (hb4 : b < 4) (sz : Nat) : me_Ci l yX4_writeBeside wsX4_writeBeside ({ frames := 2, cells := 0, slots := 0, locals := 41 }) D (me_T cy) (mm_W cy ad xr) [.ref (ad 0), .int (nI a), .int (nI b)] sz σ (m_wb a b σ) := by
  refine Met.ofW (cc := cX4_writeBeside) (maxL := 6) (ret := (some .boolean)) (by decide) rfl ?_
  intro p e st m args below meth c s₁ B hml hv
  obtain ⟨rfl, hsz, hP, hK, hD0⟩ := hv
  have hx := B.exec
  have hb := B.bytes
  have hr := B.returns
  have hts := atoms_spec (ws := wsX4_writeBeside) B.pre
  have hown : st.vm.findClass RX4 = some m.cls := findClass_of_methodNamed B.named
  have hlocks := B.notSynchronized
  have in4 : ∀ w ∈ u_ws RX4 TX4 29, w ∈ wsX4_writeBeside := by decide +kernel
  have k16 := hts (.fieldLink RX4 16 "TwinWritesModel" "besideStamp" "[I") (by decide +kernel)
  have k19 := hts (.fieldLink RX4 19 "TwinWritesModel" "besidePage" "[I") (by decide +kernel)
  have k22 := hts (.fieldLink RX4 22 "TwinWritesModel" "besideWord" "[I") (by decide +kernel)
  have k41 := hts (.fieldLink RX4 41 "TwinWritesModel" "framePage" "[I") (by decide +kernel)
  have k44 := hts (.fieldLink RX4 44 "TwinWritesModel" "frameStamp" "[I") (by decide +kernel)
  have k54 := hts (.fieldLink RX4 54 "TwinWritesModel" "frameWord" "[I") (by decide +kernel)
  subst hsz
  have hD := hD0.self (sz := st.heap.size)
  have hA : ∀ q : Nat, st.heap.size ≤ q → va_A ((mm_W cy ad xr) σ) st.heap.size q := fun q h => Or.inr h
  have hS : va_S (va_A ((mm_W cy ad xr) σ) st.heap.size) st.heap st.heap [] := va_S.rf
  generalize va_A ((mm_W cy ad xr) σ) st.heap.size = A at hD hA hS ⊢
  have hl := lv_entry ([.ref (ad 0), .int (nI a), .int (nI b)]) (n := 6) (Nat.le_of_ble_eq_true rfl)
  rw [lg_entry_eq]
  generalize (lg_sl ([.ref (ad 0), .int (nI a), .int (nI b)]) ++ List.replicate (6 - (lg_sl ([.ref (ad 0), .int (nI a), .int (nI b)])).length) Slot.unset).toArray = ls at hl ⊢
  have hl : lv_has ls 6 [(0, .ref (ad 0)), (1, .int (nI a)), (2, .int (nI b))] := hl
  refine lv_aload_n hx hb dX4_writeBeside_0 rfl (lv_at hl 0 rfl) ?_
  refine va_get (D := D) (ci := 4) (v := .ref (ad 10)) (C := RX4) (T := TX4) (N := 29) hx hb hts in4 hown hK hP 0 (me_get (by omega) (mm_0 cy ad _)) rfl 11 (by decide) k41 (fun _ h9 => h9) rfl dX4_writeBeside_1 ?_
  refine lv_iload_n hx hb dX4_writeBeside_4 rfl (lv_at hl 2 rfl) ?_
  refine me_iald hx hb hK hP 10 0 (by omega) (fun f => mm_10 cy ad f) rfl b rfl (by omega) (by decide) dX4_writeBeside_5 ?_
  refine lv_istore_n (lv' := [(3, .int (σ 10 b)), (0, .ref (ad 0)), (1, .int (nI a)), (2, .int (nI b))]) hx hb dX4_writeBeside_6 rfl hl (by decide) rfl (fun ls hl => ?_)
  refine lv_iconst (v := nI 0) hx hb dX4_writeBeside_7 (by decide) ?_
  refine lv_istore (lv' := [(4, .int (nI 0)), (3, .int (σ 10 b)), (0, .ref (ad 0)), (1, .int (nI a)), (2, .int (nI b))]) hx hb dX4_writeBeside_8 hl (by decide) rfl (fun ls hl => ?_)
  have J10 : ∀ (n : Nat) (x : Int32) (i : Nat) (s : me_M) (H : Heap) (locs : List Loc) (hP : va_P D vwCl ((mm_W cy ad xr) s) H) (hD : va_D A ((mm_W cy ad xr) s)) (hS : va_S A st.heap H locs) (ls : Array Slot) (hl : lv_has ls 6 [(4, .int (nI i)), (3, .int x), (0, .ref (ad 0)), (1, .int (nI a)), (2, .int (nI b))]), ∀ (hi : i ≤ 4), ∀ (hn : 5 ≤ i + n), m_wb a b σ = m_wb_10 n a b x i s → W p l e (headSpec wsX4_writeBeside ({ frames := 2, cells := 0, slots := 0, locals := 41 })).room st m ([.ref (ad 0), .int (nI a), .int (nI b)] : List Value).toArray below meth c H locs 0 0 (MQ below (va_Qi (fun r σ' => (r, σ') = m_wb a b σ) (me_B D (me_T cy) A (mm_W cy ad xr)) A) ([.ref (ad 0), .int (nI a), .int (nI b)] : List Value).toArray st 0 0 A) (F0 m 10 ls []) := by
    intro n
    induction n with
    | zero => intro x i s H locs hP hD hS ls hl hi hn hf10; exfalso; omega
    | succ n ih =>
      intro x i s H locs hP hD hS ls hl hi hn hf10
      refine lv_iload hx hb dX4_writeBeside_10 (lv_at hl 0 rfl) ?_
      refine lv_iconst (v := nI 4) hx hb dX4_writeBeside_12 (by decide) ?_
      refine lv_icmp_ge (tgt := 107) hx hb dX4_writeBeside_13 (by decide) (fun c13 => ?_) (fun c13 => ?_)
      ·
        try have h13 := (nI_leI (by omega) (by omega)).mp c13
        refine lv_iconst (v := nI 1) hx hb dX4_writeBeside_107 (by decide) ?_
        exact me_reti hx hb hr rfl hlocks hK hP hD hS (by rw [hf10]; simp only [m_wb_10, if_pos c13]) dX4_writeBeside_108
      ·
        try have h13 := (not_congr (nI_leI (by omega) (by omega))).mp c13
        refine lv_aload_n hx hb dX4_writeBeside_16 rfl (lv_at hl 2 rfl) ?_
        refine me_calli (f := m_mw s) (w := (mm_W cy ad xr)) (σ := s) (As := []) (rest := []) ⟨hx, hb, hml, hown, hts⟩ (fun sz => c_X4_mayWrite l D cy ad xr  s  sz) (cwV 0 hts gX4_writeBeside_X4_mayWrite rfl rfl rfl (by decide +kernel) ⟨Nat.le_of_ble_eq_true rfl, Nat.le_of_ble_eq_true rfl⟩) (va_recv hK hP (ci := 4) (q0 := 0) rfl (me_get (by omega) (mm_0 cy ad _))) hK hP hD hS hA rfl hl.1 rfl (Nat.le_of_ble_eq_true rfl) dX4_writeBeside_17 ⟨Nat.zero_le _, Nat.zero_le _⟩ (fun r17 s17 H locs e17 hP hD hS => ?_)
        refine lv_if_ne (tgt := 25) hx hb dX4_writeBeside_20 (by decide) (fun c20 => ?_) (fun c20 => ?_)
        ·
          refine lv_aload_n hx hb dX4_writeBeside_25 rfl (lv_at hl 2 rfl) ?_
          refine va_get (D := D) (ci := 4) (v := .ref (ad 3)) (C := RX4) (T := TX4) (N := 29) hx hb hts in4 hown hK hP 0 (me_get (by omega) (mm_0 cy ad _)) rfl 3 (by decide) k16 (fun _ h9 => h9) rfl dX4_writeBeside_26 ?_
          refine lv_iconst (v := nI 4) hx hb dX4_writeBeside_29 (by decide) ?_
          refine lv_iload_n hx hb dX4_writeBeside_30 rfl (lv_at hl 3 rfl) ?_
          refine lv_imul hx hb dX4_writeBeside_31 ?_
          refine me_top (pk_mul _ _) ?_
          refine lv_iload hx hb dX4_writeBeside_32 (lv_at hl 0 rfl) ?_
          refine lv_iadd hx hb dX4_writeBeside_34 ?_
          refine me_top (nI_add _ _) ?_
          refine lv_aload_n hx hb dX4_writeBeside_35 rfl (lv_at hl 2 rfl) ?_
          refine va_get (D := D) (ci := 4) (v := .ref (ad 11)) (C := RX4) (T := TX4) (N := 29) hx hb hts in4 hown hK hP 0 (me_get (by omega) (mm_0 cy ad _)) rfl 12 (by decide) k44 (fun _ h9 => h9) rfl dX4_writeBeside_36 ?_
          refine lv_iload_n hx hb dX4_writeBeside_39 rfl (lv_at hl 4 rfl) ?_
          refine me_iald hx hb hK hP 11 0 (by omega) (fun f => mm_11 cy ad f) rfl b rfl (by omega) (by decide) dX4_writeBeside_40 ?_
          refine me_iast hx hb hK hP hD hS 3 0 (by omega) (fun f => mm_3 cy ad f) rfl (4 * a + i) rfl (by omega) (by decide) dX4_writeBeside_41 (fun s41 H locs e41 hP hD hS => ?_)
          refine lv_aload_n hx hb dX4_writeBeside_42 rfl (lv_at hl 2 rfl) ?_
          refine va_get (D := D) (ci := 4) (v := .ref (ad 4)) (C := RX4) (T := TX4) (N := 29) hx hb hts in4 hown hK hP 0 (me_get (by omega) (mm_0 cy ad _)) rfl 4 (by decide) k19 (fun _ h9 => h9) rfl dX4_writeBeside_43 ?_
          refine lv_iconst (v := nI 4) hx hb dX4_writeBeside_46 (by decide) ?_
          refine lv_iload_n hx hb dX4_writeBeside_47 rfl (lv_at hl 3 rfl) ?_
          refine lv_imul hx hb dX4_writeBeside_48 ?_
          refine me_top (pk_mul _ _) ?_
          refine lv_iload hx hb dX4_writeBeside_49 (lv_at hl 0 rfl) ?_
          refine lv_iadd hx hb dX4_writeBeside_51 ?_
          refine me_top (nI_add _ _) ?_
          refine lv_iload_n hx hb dX4_writeBeside_52 rfl (lv_at hl 1 rfl) ?_
          refine me_iast hx hb hK hP hD hS 4 0 (by omega) (fun f => mm_4 cy ad f) rfl (4 * a + i) rfl (by omega) (by decide) dX4_writeBeside_53 (fun s53 H locs e53 hP hD hS => ?_)
          refine lv_iconst (v := nI 4) hx hb dX4_writeBeside_54 (by decide) ?_
          refine lv_iload hx hb dX4_writeBeside_55 (lv_at hl 0 rfl) ?_
          refine lv_imul hx hb dX4_writeBeside_57 ?_
          refine me_top (pk_mul _ _) ?_
          refine lv_istore (lv' := [(5, .int (nI (4 * i))), (4, .int (nI i)), (3, .int x), (0, .ref (ad 0)), (1, .int (nI a)), (2, .int (nI b))]) hx hb dX4_writeBeside_58 hl (by decide) rfl (fun ls hl => ?_)
          have J60 : ∀ (n : Nat) (i : Nat) (t : Nat) (s : me_M) (H : Heap) (locs : List Loc) (hP : va_P D vwCl ((mm_W cy ad xr) s) H) (hD : va_D A ((mm_W cy ad xr) s)) (hS : va_S A st.heap H locs) (ls : Array Slot) (hl : lv_has ls 6 [(5, .int (nI t)), (4, .int (nI i)), (3, .int x), (0, .ref (ad 0)), (1, .int (nI a)), (2, .int (nI b))]), ∀ (hi : i < 4), ∀ (ht : 4 * i ≤ t ∧ t ≤ 4 * i + 4), ∀ (hn : 4 * i + 5 ≤ t + n), (∀  (s' : me_M) (H : Heap) (locs : List Loc) (hP : va_P D vwCl ((mm_W cy ad xr) s') H) (hD : va_D A ((mm_W cy ad xr) s')) (hS : va_S A st.heap H locs) (ls : Array Slot) (hl : lv_has ls 6 [(4, .int (nI i)), (3, .int x), (0, .ref (ad 0)), (1, .int (nI a)), (2, .int (nI b))]) (eJ : m_wb_60 n a b i t s = (s')) , W p l e (headSpec wsX4_writeBeside ({ frames := 2, cells := 0, slots := 0, locals := 41 })).room st m ([.ref (ad 0), .int (nI a), .int (nI b)] : List Value).toArray below meth c H locs 0 0 (MQ below (va_Qi (fun r σ' => (r, σ') = m_wb a b σ) (me_B D (me_T cy) A (mm_W cy ad xr)) A) ([.ref (ad 0), .int (nI a), .int (nI b)] : List Value).toArray st 0 0 A) (F0 m 101 ls [])) → W p l e (headSpec wsX4_writeBeside ({ frames := 2, cells := 0, slots := 0, locals := 41 })).room st m ([.ref (ad 0), .int (nI a), .int (nI b)] : List Value).toArray below meth c H locs 0 0 (MQ below (va_Qi (fun r σ' => (r, σ') = m_wb a b σ) (me_B D (me_T cy) A (mm_W cy ad xr)) A) ([.ref (ad 0), .int (nI a), .int (nI b)] : List Value).toArray st 0 0 A) (F0 m 60 ls []) := by
            intro n
            induction n with
            | zero => intro i t s H locs hP hD hS ls hl hi ht hn kk60; exfalso; omega
            | succ n ih =>
              intro i t s H locs hP hD hS ls hl hi ht hn kk60
              refine lv_iload hx hb dX4_writeBeside_60 (lv_at hl 0 rfl) ?_
              refine lv_iconst (v := nI 4) hx hb dX4_writeBeside_62 (by decide) ?_
              refine lv_iload hx hb dX4_writeBeside_63 (lv_at hl 1 rfl) ?_
              refine lv_imul hx hb dX4_writeBeside_65 ?_
              refine me_top (pk_mul _ _) ?_
              refine lv_iconst (v := nI 4) hx hb dX4_writeBeside_66 (by decide) ?_
              refine lv_iadd hx hb dX4_writeBeside_67 ?_
              refine me_top (nI_add _ _) ?_
              refine lv_icmp_ge (tgt := 101) hx hb dX4_writeBeside_68 (by decide) (fun c68 => ?_) (fun c68 => ?_)
              ·
                try have h68 := (nI_leI (by omega) (by omega)).mp c68
                exact kk60  s _ _ hP hD hS ls (lv_sub hl [1, 2, 3, 4, 5] rfl) (by simp only [m_wb_60, if_pos c68]) 
              ·
                try have h68 := (not_congr (nI_leI (by omega) (by omega))).mp c68
                refine lv_aload_n hx hb dX4_writeBeside_71 rfl (lv_at hl 3 rfl) ?_
                refine va_get (D := D) (ci := 4) (v := .ref (ad 5)) (C := RX4) (T := TX4) (N := 29) hx hb hts in4 hown hK hP 0 (me_get (by omega) (mm_0 cy ad _)) rfl 5 (by decide) k22 (fun _ h9 => h9) rfl dX4_writeBeside_72 ?_
                refine lv_bipush (v := nI 16) hx hb dX4_writeBeside_75 (by decide) ?_
                refine lv_iload_n hx hb dX4_writeBeside_77 rfl (lv_at hl 4 rfl) ?_
                refine lv_imul hx hb dX4_writeBeside_78 ?_
                refine me_top (pk_mul _ _) ?_
                refine lv_iload hx hb dX4_writeBeside_79 (lv_at hl 0 rfl) ?_
                refine lv_iadd hx hb dX4_writeBeside_81 ?_
                refine me_top (nI_add _ _) ?_
                refine lv_aload_n hx hb dX4_writeBeside_82 rfl (lv_at hl 3 rfl) ?_
                refine va_get (D := D) (ci := 4) (v := .ref (ad 14)) (C := RX4) (T := TX4) (N := 29) hx hb hts in4 hown hK hP 0 (me_get (by omega) (mm_0 cy ad _)) rfl 15 (by decide) k54 (fun _ h9 => h9) rfl dX4_writeBeside_83 ?_
                refine lv_bipush (v := nI 16) hx hb dX4_writeBeside_86 (by decide) ?_
                refine lv_iload_n hx hb dX4_writeBeside_88 rfl (lv_at hl 5 rfl) ?_
                refine lv_imul hx hb dX4_writeBeside_89 ?_
                refine me_top (pk_mul _ _) ?_
                refine lv_iload hx hb dX4_writeBeside_90 (lv_at hl 0 rfl) ?_
                refine lv_iadd hx hb dX4_writeBeside_92 ?_
                refine me_top (nI_add _ _) ?_
                refine me_iald hx hb hK hP 14 0 (by omega) (fun f => mm_14 cy ad f) rfl (16 * b + t) rfl (by omega) (by decide) dX4_writeBeside_93 ?_
                refine me_iast hx hb hK hP hD hS 5 0 (by omega) (fun f => mm_5 cy ad f) rfl (16 * a + t) rfl (by omega) (by decide) dX4_writeBeside_94 (fun s94 H locs e94 hP hD hS => ?_)
                refine lv_iinc (v := nI (t + 1)) (lv' := [(5, .int (nI (t + 1))), (4, .int (nI i)), (3, .int x), (0, .ref (ad 0)), (1, .int (nI a)), (2, .int (nI b))]) hx hb dX4_writeBeside_95 hl (k := 0) rfl (me_inc _) (by decide) rfl (fun ls hl => ?_)
                refine lv_goto (tgt := 60) hx hb dX4_writeBeside_98 (by decide) ?_
                exact ih i (t + 1) s94 _ _ hP hD hS ls (lv_sub hl [0, 1, 2, 3, 4, 5] rfl) (by omega) (by omega) (by omega) (fun  s' H locs hP hD hS ls hl eJ  => kk60  s' H locs hP hD hS ls hl (by simp only [m_wb_60, if_neg c68, e94]; exact eJ) )
          refine J60 5 i (4 * i) s53 _ _ hP hD hS ls (lv_sub hl [0, 1, 2, 3, 4, 5] rfl) (by omega) (by omega) (by omega) (fun  s60 H locs hP hD hS ls hl e60  => ?_)
          refine lv_iinc (v := nI (i + 1)) (lv' := [(4, .int (nI (i + 1))), (3, .int x), (0, .ref (ad 0)), (1, .int (nI a)), (2, .int (nI b))]) hx hb dX4_writeBeside_101 hl (k := 0) rfl (me_inc _) (by decide) rfl (fun ls hl => ?_)
          refine lv_goto (tgt := 10) hx hb dX4_writeBeside_104 (by decide) ?_
          exact ih x (i + 1) s60 _ _ hP hD hS ls (lv_sub hl [0, 1, 2, 3, 4] rfl) (by omega) (by omega) (by rw [hf10]; simp only [m_wb_10, if_neg c13, e17, if_neg c20, e41, e53, e60])
        ·
          refine lv_iconst (v := nI 0) hx hb dX4_writeBeside_23 (by decide) ?_
          exact me_reti hx hb hr rfl hlocks hK hP hD hS (by rw [hf10]; simp only [m_wb_10, if_neg c13, e17, if_pos c20]) dX4_writeBeside_24
  exact J10 5 (σ 10 b) 0 σ _ _ hP hD hS ls (lv_sub hl [0, 1, 2, 3, 4] rfl) (by omega) (by omega) (by simp only [m_wb])

def m_ihw (a : Nat) (σ : me_M) : Int32 := if (σ 1 (4 * a)) = σ 1 (4 * a + 1) then (if (σ 1 (4 * a)) = σ 1 (4 * a + 2) then (if (σ 1 (4 * a)) = σ 1 (4 * a + 3) then (nI 1) else (nI 0)) else (nI 0)) else (nI 0)
set_option maxRecDepth 100000 in
set_option maxHeartbeats 4000000 in
theorem c_X4_isHomeWhole (l : Launch) (D : va_G) (cy : Nat → ClassId) (ad : Nat → Nat) (xr : va_W) (a : Nat) (σ : me_M) (ha : a < 12) (sz : Nat) : me_Ci l yX4_isHomeWhole wsX4_isHomeWhole ({ frames := 0, cells := 0, slots := 0, locals := 0 }) D (me_T cy) (mm_W cy ad xr) [.ref (ad 0), .int (nI a)] sz σ (m_ihw a σ, σ) := by
  refine Met.ofW (cc := cX4_isHomeWhole) (maxL := 3) (ret := (some .boolean)) (by decide) rfl ?_
  intro p e st m args below meth c s₁ B hml hv
  obtain ⟨rfl, hsz, hP, hK, hD0⟩ := hv
  have hx := B.exec
  have hb := B.bytes
  have hr := B.returns
  have hts := atoms_spec (ws := wsX4_isHomeWhole) B.pre
  have hown : st.vm.findClass RX4 = some m.cls := findClass_of_methodNamed B.named
  have hlocks := B.notSynchronized
  have in4 : ∀ w ∈ u_ws RX4 TX4 29, w ∈ wsX4_isHomeWhole := by decide +kernel
  have k7 := hts (.fieldLink RX4 7 "TwinWritesModel" "homeStamp" "[I") (by decide +kernel)
  subst hsz
  have hD := hD0.self (sz := st.heap.size)
  have hA : ∀ q : Nat, st.heap.size ≤ q → va_A ((mm_W cy ad xr) σ) st.heap.size q := fun q h => Or.inr h
  have hS : va_S (va_A ((mm_W cy ad xr) σ) st.heap.size) st.heap st.heap [] := va_S.rf
  generalize va_A ((mm_W cy ad xr) σ) st.heap.size = A at hD hA hS ⊢
  have hl := lv_entry ([.ref (ad 0), .int (nI a)]) (n := 3) (Nat.le_of_ble_eq_true rfl)
  rw [lg_entry_eq]
  generalize (lg_sl ([.ref (ad 0), .int (nI a)]) ++ List.replicate (3 - (lg_sl ([.ref (ad 0), .int (nI a)])).length) Slot.unset).toArray = ls at hl ⊢
  have hl : lv_has ls 3 [(0, .ref (ad 0)), (1, .int (nI a))] := hl
  refine lv_iconst (v := nI 4) hx hb dX4_isHomeWhole_0 (by decide) ?_
  refine lv_iload_n hx hb dX4_isHomeWhole_1 rfl (lv_at hl 1 rfl) ?_
  refine lv_imul hx hb dX4_isHomeWhole_2 ?_
  refine me_top (pk_mul _ _) ?_
  refine lv_istore_n (lv' := [(2, .int (nI (4 * a))), (0, .ref (ad 0)), (1, .int (nI a))]) hx hb dX4_isHomeWhole_3 rfl hl (by decide) rfl (fun ls hl => ?_)
  refine lv_aload_n hx hb dX4_isHomeWhole_4 rfl (lv_at hl 1 rfl) ?_
  refine va_get (D := D) (ci := 4) (v := .ref (ad 1)) (C := RX4) (T := TX4) (N := 29) hx hb hts in4 hown hK hP 0 (me_get (by omega) (mm_0 cy ad _)) rfl 1 (by decide) k7 (fun _ h9 => h9) rfl dX4_isHomeWhole_5 ?_
  refine lv_iload_n hx hb dX4_isHomeWhole_8 rfl (lv_at hl 0 rfl) ?_
  refine me_iald hx hb hK hP 1 0 (by omega) (fun f => mm_1 cy ad f) rfl (4 * a) rfl (by omega) (by decide) dX4_isHomeWhole_9 ?_
  refine lv_aload_n hx hb dX4_isHomeWhole_10 rfl (lv_at hl 1 rfl) ?_
  refine va_get (D := D) (ci := 4) (v := .ref (ad 1)) (C := RX4) (T := TX4) (N := 29) hx hb hts in4 hown hK hP 0 (me_get (by omega) (mm_0 cy ad _)) rfl 1 (by decide) k7 (fun _ h9 => h9) rfl dX4_isHomeWhole_11 ?_
  refine lv_iload_n hx hb dX4_isHomeWhole_14 rfl (lv_at hl 0 rfl) ?_
  refine lv_iconst (v := nI 1) hx hb dX4_isHomeWhole_15 (by decide) ?_
  refine lv_iadd hx hb dX4_isHomeWhole_16 ?_
  refine me_top (nI_add _ _) ?_
  refine me_iald hx hb hK hP 1 0 (by omega) (fun f => mm_1 cy ad f) rfl (4 * a + 1) rfl (by omega) (by decide) dX4_isHomeWhole_17 ?_
  refine lv_icmp_ne (tgt := 59) hx hb dX4_isHomeWhole_18 (by decide) (fun c18 => ?_) (fun c18 => ?_)
  ·
    refine lv_iconst (v := nI 0) hx hb dX4_isHomeWhole_59 (by decide) ?_
    exact me_retr hx hb hr rfl hlocks hK hP hD hS (by simp only [m_ihw, if_neg c18]) dX4_isHomeWhole_60
  ·
    refine lv_aload_n hx hb dX4_isHomeWhole_21 rfl (lv_at hl 1 rfl) ?_
    refine va_get (D := D) (ci := 4) (v := .ref (ad 1)) (C := RX4) (T := TX4) (N := 29) hx hb hts in4 hown hK hP 0 (me_get (by omega) (mm_0 cy ad _)) rfl 1 (by decide) k7 (fun _ h9 => h9) rfl dX4_isHomeWhole_22 ?_
    refine lv_iload_n hx hb dX4_isHomeWhole_25 rfl (lv_at hl 0 rfl) ?_
    refine me_iald hx hb hK hP 1 0 (by omega) (fun f => mm_1 cy ad f) rfl (4 * a) rfl (by omega) (by decide) dX4_isHomeWhole_26 ?_
    refine lv_aload_n hx hb dX4_isHomeWhole_27 rfl (lv_at hl 1 rfl) ?_
    refine va_get (D := D) (ci := 4) (v := .ref (ad 1)) (C := RX4) (T := TX4) (N := 29) hx hb hts in4 hown hK hP 0 (me_get (by omega) (mm_0 cy ad _)) rfl 1 (by decide) k7 (fun _ h9 => h9) rfl dX4_isHomeWhole_28 ?_
    refine lv_iload_n hx hb dX4_isHomeWhole_31 rfl (lv_at hl 0 rfl) ?_
    refine lv_iconst (v := nI 2) hx hb dX4_isHomeWhole_32 (by decide) ?_
    refine lv_iadd hx hb dX4_isHomeWhole_33 ?_
    refine me_top (nI_add _ _) ?_
    refine me_iald hx hb hK hP 1 0 (by omega) (fun f => mm_1 cy ad f) rfl (4 * a + 2) rfl (by omega) (by decide) dX4_isHomeWhole_34 ?_
    refine lv_icmp_ne (tgt := 59) hx hb dX4_isHomeWhole_35 (by decide) (fun c35 => ?_) (fun c35 => ?_)
    ·
      refine lv_iconst (v := nI 0) hx hb dX4_isHomeWhole_59 (by decide) ?_
      exact me_retr hx hb hr rfl hlocks hK hP hD hS (by simp only [m_ihw, if_pos c18, if_neg c35]) dX4_isHomeWhole_60
    ·
      refine lv_aload_n hx hb dX4_isHomeWhole_38 rfl (lv_at hl 1 rfl) ?_
      refine va_get (D := D) (ci := 4) (v := .ref (ad 1)) (C := RX4) (T := TX4) (N := 29) hx hb hts in4 hown hK hP 0 (me_get (by omega) (mm_0 cy ad _)) rfl 1 (by decide) k7 (fun _ h9 => h9) rfl dX4_isHomeWhole_39 ?_
      refine lv_iload_n hx hb dX4_isHomeWhole_42 rfl (lv_at hl 0 rfl) ?_
      refine me_iald hx hb hK hP 1 0 (by omega) (fun f => mm_1 cy ad f) rfl (4 * a) rfl (by omega) (by decide) dX4_isHomeWhole_43 ?_
      refine lv_aload_n hx hb dX4_isHomeWhole_44 rfl (lv_at hl 1 rfl) ?_
      refine va_get (D := D) (ci := 4) (v := .ref (ad 1)) (C := RX4) (T := TX4) (N := 29) hx hb hts in4 hown hK hP 0 (me_get (by omega) (mm_0 cy ad _)) rfl 1 (by decide) k7 (fun _ h9 => h9) rfl dX4_isHomeWhole_45 ?_
      refine lv_iload_n hx hb dX4_isHomeWhole_48 rfl (lv_at hl 0 rfl) ?_
      refine lv_iconst (v := nI 3) hx hb dX4_isHomeWhole_49 (by decide) ?_
      refine lv_iadd hx hb dX4_isHomeWhole_50 ?_
      refine me_top (nI_add _ _) ?_
      refine me_iald hx hb hK hP 1 0 (by omega) (fun f => mm_1 cy ad f) rfl (4 * a + 3) rfl (by omega) (by decide) dX4_isHomeWhole_51 ?_
      refine lv_icmp_ne (tgt := 59) hx hb dX4_isHomeWhole_52 (by decide) (fun c52 => ?_) (fun c52 => ?_)
      ·
        refine lv_iconst (v := nI 0) hx hb dX4_isHomeWhole_59 (by decide) ?_
        exact me_retr hx hb hr rfl hlocks hK hP hD hS (by simp only [m_ihw, if_pos c18, if_pos c35, if_neg c52]) dX4_isHomeWhole_60
      ·
        refine lv_iconst (v := nI 1) hx hb dX4_isHomeWhole_55 (by decide) ?_
        refine lv_goto (tgt := 60) hx hb dX4_isHomeWhole_56 (by decide) ?_
        exact me_retr hx hb hr rfl hlocks hK hP hD hS (by simp only [m_ihw, if_pos c18, if_pos c35, if_pos c52]) dX4_isHomeWhole_60

def m_isw_4 : Nat → Nat → Int32 → Nat → me_M → Int32
  | 0, a, v, i, s => (0)
  | n + 1, a, v, i, s => if nI 4 ≤ (nI i) then ((v)) else (if v = 0 then (m_isw_4 n a (nI 0) (i + 1) s) else (if (s 3 (4 * a + i)) = s 3 (4 * a) then (if (s 4 (4 * a + i)) = s 4 (4 * a) then (m_isw_4 n a (nI 1) (i + 1) s) else (m_isw_4 n a (nI 0) (i + 1) s)) else (m_isw_4 n a (nI 0) (i + 1) s)))
def m_isw (a : Nat) (σ : me_M) : Int32 := let v4 := m_isw_4 4 a (nI 1) 1 σ; v4
set_option maxRecDepth 100000 in
set_option maxHeartbeats 4000000 in
theorem c_X4_isSlotWhole (l : Launch) (D : va_G) (cy : Nat → ClassId) (ad : Nat → Nat) (xr : va_W) (a : Nat) (σ : me_M) (ha : a < 4) (sz : Nat) : me_Ci l yX4_isSlotWhole wsX4_isSlotWhole ({ frames := 0, cells := 0, slots := 0, locals := 0 }) D (me_T cy) (mm_W cy ad xr) [.ref (ad 0), .int (nI a)] sz σ (m_isw a σ, σ) := by
  refine Met.ofW (cc := cX4_isSlotWhole) (maxL := 4) (ret := (some .boolean)) (by decide) rfl ?_
  intro p e st m args below meth c s₁ B hml hv
  obtain ⟨rfl, hsz, hP, hK, hD0⟩ := hv
  have hx := B.exec
  have hb := B.bytes
  have hr := B.returns
  have hts := atoms_spec (ws := wsX4_isSlotWhole) B.pre
  have hown : st.vm.findClass RX4 = some m.cls := findClass_of_methodNamed B.named
  have hlocks := B.notSynchronized
  have in4 : ∀ w ∈ u_ws RX4 TX4 29, w ∈ wsX4_isSlotWhole := by decide +kernel
  have k16 := hts (.fieldLink RX4 16 "TwinWritesModel" "besideStamp" "[I") (by decide +kernel)
  have k19 := hts (.fieldLink RX4 19 "TwinWritesModel" "besidePage" "[I") (by decide +kernel)
  subst hsz
  have hD := hD0.self (sz := st.heap.size)
  have hA : ∀ q : Nat, st.heap.size ≤ q → va_A ((mm_W cy ad xr) σ) st.heap.size q := fun q h => Or.inr h
  have hS : va_S (va_A ((mm_W cy ad xr) σ) st.heap.size) st.heap st.heap [] := va_S.rf
  generalize va_A ((mm_W cy ad xr) σ) st.heap.size = A at hD hA hS ⊢
  have hl := lv_entry ([.ref (ad 0), .int (nI a)]) (n := 4) (Nat.le_of_ble_eq_true rfl)
  rw [lg_entry_eq]
  generalize (lg_sl ([.ref (ad 0), .int (nI a)]) ++ List.replicate (4 - (lg_sl ([.ref (ad 0), .int (nI a)])).length) Slot.unset).toArray = ls at hl ⊢
  have hl : lv_has ls 4 [(0, .ref (ad 0)), (1, .int (nI a))] := hl
  refine lv_iconst (v := nI 1) hx hb dX4_isSlotWhole_0 (by decide) ?_
  refine lv_istore_n (lv' := [(2, .int (nI 1)), (0, .ref (ad 0)), (1, .int (nI a))]) hx hb dX4_isSlotWhole_1 rfl hl (by decide) rfl (fun ls hl => ?_)
  refine lv_iconst (v := nI 1) hx hb dX4_isSlotWhole_2 (by decide) ?_
  refine lv_istore_n (lv' := [(3, .int (nI 1)), (2, .int (nI 1)), (0, .ref (ad 0)), (1, .int (nI a))]) hx hb dX4_isSlotWhole_3 rfl hl (by decide) rfl (fun ls hl => ?_)
  have J4 : ∀ (n : Nat) (v : Int32) (i : Nat) (H : Heap) (locs : List Loc) (hP : va_P D vwCl ((mm_W cy ad xr) σ) H) (hD : va_D A ((mm_W cy ad xr) σ)) (hS : va_S A st.heap H locs) (ls : Array Slot) (hl : lv_has ls 4 [(3, .int (nI i)), (2, .int v), (0, .ref (ad 0)), (1, .int (nI a))]), ∀ (hv : v = nI 0 ∨ v = nI 1), ∀ (hi : 1 ≤ i ∧ i ≤ 4), ∀ (hn : 5 ≤ i + n), (∀ (v' : Int32) (H : Heap) (locs : List Loc) (hP : va_P D vwCl ((mm_W cy ad xr) σ) H) (hD : va_D A ((mm_W cy ad xr) σ)) (hS : va_S A st.heap H locs) (ls : Array Slot) (hl : lv_has ls 4 [(2, .int v'), (0, .ref (ad 0)), (1, .int (nI a))]) (eJ : m_isw_4 n a v i σ = (v')) (hv : v' = nI 0 ∨ v' = nI 1), W p l e (headSpec wsX4_isSlotWhole ({ frames := 0, cells := 0, slots := 0, locals := 0 })).room st m ([.ref (ad 0), .int (nI a)] : List Value).toArray below meth c H locs 0 0 (MQ below (va_Qi (fun r σ' => (r, σ') = (m_isw a σ, σ)) (me_B D (me_T cy) A (mm_W cy ad xr)) A) ([.ref (ad 0), .int (nI a)] : List Value).toArray st 0 0 A) (F0 m 67 ls [])) → W p l e (headSpec wsX4_isSlotWhole ({ frames := 0, cells := 0, slots := 0, locals := 0 })).room st m ([.ref (ad 0), .int (nI a)] : List Value).toArray below meth c H locs 0 0 (MQ below (va_Qi (fun r σ' => (r, σ') = (m_isw a σ, σ)) (me_B D (me_T cy) A (mm_W cy ad xr)) A) ([.ref (ad 0), .int (nI a)] : List Value).toArray st 0 0 A) (F0 m 4 ls []) := by
    intro n
    induction n with
    | zero => intro v i H locs hP hD hS ls hl hv hi hn kk4; exfalso; omega
    | succ n ih =>
      intro v i H locs hP hD hS ls hl hv hi hn kk4
      refine lv_iload_n hx hb dX4_isSlotWhole_4 rfl (lv_at hl 0 rfl) ?_
      refine lv_iconst (v := nI 4) hx hb dX4_isSlotWhole_5 (by decide) ?_
      refine lv_icmp_ge (tgt := 67) hx hb dX4_isSlotWhole_6 (by decide) (fun c6 => ?_) (fun c6 => ?_)
      ·
        try have h6 := (nI_leI (by omega) (by omega)).mp c6
        exact kk4 v _ _ hP hD hS ls (lv_sub hl [1, 2, 3] rfl) (by simp only [m_isw_4, if_pos c6]) (hv)
      ·
        try have h6 := (not_congr (nI_leI (by omega) (by omega))).mp c6
        refine lv_iload_n hx hb dX4_isSlotWhole_9 rfl (lv_at hl 1 rfl) ?_
        refine lv_if_eq (tgt := 59) hx hb dX4_isSlotWhole_10 (by decide) (fun c10 => ?_) (fun c10 => ?_)
        ·
          refine lv_iconst (v := nI 0) hx hb dX4_isSlotWhole_59 (by decide) ?_
          refine lv_istore_n (lv' := [(2, .int (nI 0)), (3, .int (nI i)), (0, .ref (ad 0)), (1, .int (nI a))]) hx hb dX4_isSlotWhole_60 rfl hl (by decide) rfl (fun ls hl => ?_)
          refine lv_iinc (v := nI (i + 1)) (lv' := [(3, .int (nI (i + 1))), (2, .int (nI 0)), (0, .ref (ad 0)), (1, .int (nI a))]) hx hb dX4_isSlotWhole_61 hl (k := 1) rfl (me_inc _) (by decide) rfl (fun ls hl => ?_)
          refine lv_goto (tgt := 4) hx hb dX4_isSlotWhole_64 (by decide) ?_
          exact ih (nI 0) (i + 1) _ _ hP hD hS ls (lv_sub hl [0, 1, 2, 3] rfl) (by first | exact hv | exact Or.inl rfl | exact Or.inr rfl) (by omega) (by omega) (fun v' H locs hP hD hS ls hl eJ hv => kk4 v' H locs hP hD hS ls hl (by simp only [m_isw_4, if_neg c6, if_pos c10]; exact eJ) hv)
        ·
          refine lv_aload_n hx hb dX4_isSlotWhole_13 rfl (lv_at hl 2 rfl) ?_
          refine va_get (D := D) (ci := 4) (v := .ref (ad 3)) (C := RX4) (T := TX4) (N := 29) hx hb hts in4 hown hK hP 0 (me_get (by omega) (mm_0 cy ad _)) rfl 3 (by decide) k16 (fun _ h9 => h9) rfl dX4_isSlotWhole_14 ?_
          refine lv_iconst (v := nI 4) hx hb dX4_isSlotWhole_17 (by decide) ?_
          refine lv_iload_n hx hb dX4_isSlotWhole_18 rfl (lv_at hl 3 rfl) ?_
          refine lv_imul hx hb dX4_isSlotWhole_19 ?_
          refine me_top (pk_mul _ _) ?_
          refine lv_iload_n hx hb dX4_isSlotWhole_20 rfl (lv_at hl 0 rfl) ?_
          refine lv_iadd hx hb dX4_isSlotWhole_21 ?_
          refine me_top (nI_add _ _) ?_
          refine me_iald hx hb hK hP 3 0 (by omega) (fun f => mm_3 cy ad f) rfl (4 * a + i) rfl (by omega) (by decide) dX4_isSlotWhole_22 ?_
          refine lv_aload_n hx hb dX4_isSlotWhole_23 rfl (lv_at hl 2 rfl) ?_
          refine va_get (D := D) (ci := 4) (v := .ref (ad 3)) (C := RX4) (T := TX4) (N := 29) hx hb hts in4 hown hK hP 0 (me_get (by omega) (mm_0 cy ad _)) rfl 3 (by decide) k16 (fun _ h9 => h9) rfl dX4_isSlotWhole_24 ?_
          refine lv_iconst (v := nI 4) hx hb dX4_isSlotWhole_27 (by decide) ?_
          refine lv_iload_n hx hb dX4_isSlotWhole_28 rfl (lv_at hl 3 rfl) ?_
          refine lv_imul hx hb dX4_isSlotWhole_29 ?_
          refine me_top (pk_mul _ _) ?_
          refine me_iald hx hb hK hP 3 0 (by omega) (fun f => mm_3 cy ad f) rfl (4 * a) rfl (by omega) (by decide) dX4_isSlotWhole_30 ?_
          refine lv_icmp_ne (tgt := 59) hx hb dX4_isSlotWhole_31 (by decide) (fun c31 => ?_) (fun c31 => ?_)
          ·
            refine lv_iconst (v := nI 0) hx hb dX4_isSlotWhole_59 (by decide) ?_
            refine lv_istore_n (lv' := [(2, .int (nI 0)), (3, .int (nI i)), (0, .ref (ad 0)), (1, .int (nI a))]) hx hb dX4_isSlotWhole_60 rfl hl (by decide) rfl (fun ls hl => ?_)
            refine lv_iinc (v := nI (i + 1)) (lv' := [(3, .int (nI (i + 1))), (2, .int (nI 0)), (0, .ref (ad 0)), (1, .int (nI a))]) hx hb dX4_isSlotWhole_61 hl (k := 1) rfl (me_inc _) (by decide) rfl (fun ls hl => ?_)
            refine lv_goto (tgt := 4) hx hb dX4_isSlotWhole_64 (by decide) ?_
            exact ih (nI 0) (i + 1) _ _ hP hD hS ls (lv_sub hl [0, 1, 2, 3] rfl) (by first | exact hv | exact Or.inl rfl | exact Or.inr rfl) (by omega) (by omega) (fun v' H locs hP hD hS ls hl eJ hv => kk4 v' H locs hP hD hS ls hl (by simp only [m_isw_4, if_neg c6, if_neg c10, if_neg c31]; exact eJ) hv)
          ·
            refine lv_aload_n hx hb dX4_isSlotWhole_34 rfl (lv_at hl 2 rfl) ?_
            refine va_get (D := D) (ci := 4) (v := .ref (ad 4)) (C := RX4) (T := TX4) (N := 29) hx hb hts in4 hown hK hP 0 (me_get (by omega) (mm_0 cy ad _)) rfl 4 (by decide) k19 (fun _ h9 => h9) rfl dX4_isSlotWhole_35 ?_
            refine lv_iconst (v := nI 4) hx hb dX4_isSlotWhole_38 (by decide) ?_
            refine lv_iload_n hx hb dX4_isSlotWhole_39 rfl (lv_at hl 3 rfl) ?_
            refine lv_imul hx hb dX4_isSlotWhole_40 ?_
            refine me_top (pk_mul _ _) ?_
            refine lv_iload_n hx hb dX4_isSlotWhole_41 rfl (lv_at hl 0 rfl) ?_
            refine lv_iadd hx hb dX4_isSlotWhole_42 ?_
            refine me_top (nI_add _ _) ?_
            refine me_iald hx hb hK hP 4 0 (by omega) (fun f => mm_4 cy ad f) rfl (4 * a + i) rfl (by omega) (by decide) dX4_isSlotWhole_43 ?_
            refine lv_aload_n hx hb dX4_isSlotWhole_44 rfl (lv_at hl 2 rfl) ?_
            refine va_get (D := D) (ci := 4) (v := .ref (ad 4)) (C := RX4) (T := TX4) (N := 29) hx hb hts in4 hown hK hP 0 (me_get (by omega) (mm_0 cy ad _)) rfl 4 (by decide) k19 (fun _ h9 => h9) rfl dX4_isSlotWhole_45 ?_
            refine lv_iconst (v := nI 4) hx hb dX4_isSlotWhole_48 (by decide) ?_
            refine lv_iload_n hx hb dX4_isSlotWhole_49 rfl (lv_at hl 3 rfl) ?_
            refine lv_imul hx hb dX4_isSlotWhole_50 ?_
            refine me_top (pk_mul _ _) ?_
            refine me_iald hx hb hK hP 4 0 (by omega) (fun f => mm_4 cy ad f) rfl (4 * a) rfl (by omega) (by decide) dX4_isSlotWhole_51 ?_
            refine lv_icmp_ne (tgt := 59) hx hb dX4_isSlotWhole_52 (by decide) (fun c52 => ?_) (fun c52 => ?_)
            ·
              refine lv_iconst (v := nI 0) hx hb dX4_isSlotWhole_59 (by decide) ?_
              refine lv_istore_n (lv' := [(2, .int (nI 0)), (3, .int (nI i)), (0, .ref (ad 0)), (1, .int (nI a))]) hx hb dX4_isSlotWhole_60 rfl hl (by decide) rfl (fun ls hl => ?_)
              refine lv_iinc (v := nI (i + 1)) (lv' := [(3, .int (nI (i + 1))), (2, .int (nI 0)), (0, .ref (ad 0)), (1, .int (nI a))]) hx hb dX4_isSlotWhole_61 hl (k := 1) rfl (me_inc _) (by decide) rfl (fun ls hl => ?_)
              refine lv_goto (tgt := 4) hx hb dX4_isSlotWhole_64 (by decide) ?_
              exact ih (nI 0) (i + 1) _ _ hP hD hS ls (lv_sub hl [0, 1, 2, 3] rfl) (by first | exact hv | exact Or.inl rfl | exact Or.inr rfl) (by omega) (by omega) (fun v' H locs hP hD hS ls hl eJ hv => kk4 v' H locs hP hD hS ls hl (by simp only [m_isw_4, if_neg c6, if_neg c10, if_pos c31, if_neg c52]; exact eJ) hv)
            ·
              refine lv_iconst (v := nI 1) hx hb dX4_isSlotWhole_55 (by decide) ?_
              refine lv_goto (tgt := 60) hx hb dX4_isSlotWhole_56 (by decide) ?_
              refine lv_istore_n (lv' := [(2, .int (nI 1)), (3, .int (nI i)), (0, .ref (ad 0)), (1, .int (nI a))]) hx hb dX4_isSlotWhole_60 rfl hl (by decide) rfl (fun ls hl => ?_)
              refine lv_iinc (v := nI (i + 1)) (lv' := [(3, .int (nI (i + 1))), (2, .int (nI 1)), (0, .ref (ad 0)), (1, .int (nI a))]) hx hb dX4_isSlotWhole_61 hl (k := 1) rfl (me_inc _) (by decide) rfl (fun ls hl => ?_)
              refine lv_goto (tgt := 4) hx hb dX4_isSlotWhole_64 (by decide) ?_
              exact ih (nI 1) (i + 1) _ _ hP hD hS ls (lv_sub hl [0, 1, 2, 3] rfl) (by first | exact hv | exact Or.inl rfl | exact Or.inr rfl) (by omega) (by omega) (fun v' H locs hP hD hS ls hl eJ hv => kk4 v' H locs hP hD hS ls hl (by simp only [m_isw_4, if_neg c6, if_neg c10, if_pos c31, if_pos c52]; exact eJ) hv)
  refine J4 4 (nI 1) 1 _ _ hP hD hS ls (lv_sub hl [0, 1, 2, 3] rfl) (Or.inr rfl) (by omega) (by omega) (fun v4 H locs hP hD hS ls hl e4 hv4 => ?_)
  refine lv_iload_n hx hb dX4_isSlotWhole_67 rfl (lv_at hl 0 rfl) ?_
  exact me_retr hx hb hr (me_nar hv4) hlocks hK hP hD hS (by simp only [m_isw, e4]) dX4_isSlotWhole_68
end
section
/-! PURE M1: the reference's memory; what its methods need so that no index leaves its row -/
def m_I (τ : me_M) : Prop := vp_in (τ 0 18) 13 ∧ (∀ i, i < 16 → vp_in (τ 15 i) 200000 ∧ vp_in (τ 16 i) 12 ∧ vp_in (τ 17 i) 16) ∧ (∀ f, f < 4 → ¬ τ 12 f = 0 → vp_in (τ 10 f) 12) ∧ (∀ r, r < 12 → vp_in (τ 7 r) 12 ∧ vp_in (τ 8 r) 16) ∧ vp_in (τ 0 10) 100000 ∧ vp_in (τ 0 17) 100000 ∧ (τ 0 18).toNatClampNeg + (τ 0 10).toNatClampNeg ≤ (τ 0 17).toNatClampNeg
theorem pu_mI_of {s s' : me_M} (h0 : ∀ k, k = 10 ∨ k = 17 ∨ k = 18 → s' 0 k = s 0 k) (hu : ∀ u, u = 7 ∨ u = 8 ∨ u = 10 ∨ u = 12 ∨ u = 15 ∨ u = 16 ∨ u = 17 → s' u = s u) (hI : m_I s) : m_I s' := by
  obtain ⟨i1, i2, i3, i4, i5, i6, i7⟩ := hI
  refine ⟨?_, fun i hi => ?_, fun f hf hd => ?_, fun r hr => ?_, ?_, ?_, ?_⟩
  · rw [h0 18 (by omega)]; exact i1
  · rw [hu 15 (by omega), hu 16 (by omega), hu 17 (by omega)]; exact i2 i hi
  · rw [hu 12 (by omega)] at hd; rw [hu 10 (by omega)]; exact i3 f hf hd
  · rw [hu 7 (by omega), hu 8 (by omega)]; exact i4 r hr
  · rw [h0 10 (by omega)]; exact i5
  · rw [h0 17 (by omega)]; exact i6
  · rw [h0 18 (by omega), h0 10 (by omega), h0 17 (by omega)]; exact i7
theorem pu_md17 : ∀ (n i : Nat) (s : me_M), i ≤ 4 → 5 ≤ i + n → (∀ u, u ≠ 10 → u ≠ 12 → m_down_17 n i s u = s u) ∧ (∀ f, f < i → m_down_17 n i s 10 f = s 10 f ∧ m_down_17 n i s 12 f = s 12 f) ∧ (∀ f, i ≤ f → f < 4 → m_down_17 n i s 10 f = (-1) ∧ m_down_17 n i s 12 f = nI 0) ∧ (∀ f, 4 ≤ f → m_down_17 n i s 10 f = s 10 f ∧ m_down_17 n i s 12 f = s 12 f) := by
  intro n
  induction n with
  | zero => intro i s h1 h2; omega
  | succ n ih =>
    intro i s h1 h2
    simp only [m_down_17]
    split
    · rename_i c1
      have hi := (nI_leI (a := 4) (b := i) (by omega) (by omega)).mp c1
      exact ⟨fun _ _ _ => rfl, fun _ _ => ⟨rfl, rfl⟩, fun f h1 h2 => by omega, fun _ _ => ⟨rfl, rfl⟩⟩
    · rename_i c1
      have hi := (not_congr (nI_leI (a := 4) (b := i) (by omega) (by omega))).mp c1
      obtain ⟨g1, g2, g3, g4⟩ := ih (i + 1) (me_st (me_st s 10 i (-1)) 12 i (nI 0)) (by omega) (by omega)
      have e10 : ∀ f, me_st (me_st s 10 i (-1)) 12 i (nI 0) 10 f = if f = i then (-1) else s 10 f := fun f => by
        rw [me_st_c _ _ _ (by decide), me_st_eq]; simp
      have e12 : ∀ f, me_st (me_st s 10 i (-1)) 12 i (nI 0) 12 f = if f = i then nI 0 else s 12 f := fun f => by
        rw [me_st_eq]
        by_cases hf : f = i
        · simp [hf]
        · simp only [hf, and_false, if_false]; rw [me_st_c _ _ _ (by decide)]
      refine ⟨fun u h10 h12 => by rw [g1 u h10 h12, me_st_c _ _ _ h12, me_st_c _ _ _ h10], fun f hf => ?_, fun f h3 h4 => ?_, fun f hf => ?_⟩
      · rw [(g2 f (by omega)).1, (g2 f (by omega)).2, e10, e12, if_neg (by omega), if_neg (by omega)]; exact ⟨rfl, rfl⟩
      · by_cases hfi : f = i
        · subst hfi
          rw [(g2 f (by omega)).1, (g2 f (by omega)).2, e10, e12, if_pos rfl, if_pos rfl]; exact ⟨rfl, rfl⟩
        · exact g3 f (by omega) h4
      · rw [(g4 f hf).1, (g4 f hf).2, e10, e12, if_neg (by omega), if_neg (by omega)]; exact ⟨rfl, rfl⟩
theorem pu_md (s : me_M) : (∀ u, u ≠ 0 → u ≠ 10 → u ≠ 12 → m_down s u = s u) ∧ (∀ k, k ≠ 18 → k ≠ 24 → k ≠ 25 → m_down s 0 k = s 0 k) ∧ m_down s 0 18 = nI 0 ∧ m_down s 0 24 = (-1) ∧ m_down s 0 25 = nI 1 ∧ (∀ f, f < 4 → m_down s 10 f = (-1) ∧ m_down s 12 f = nI 0) := by
  obtain ⟨g1, -, g3, -⟩ := pu_md17 5 0 (me_st (me_st (me_st s 0 24 (-1)) 0 25 (nI 1)) 0 18 (nI 0)) (by omega) (by omega)
  have e : m_down s = m_down_17 5 0 (me_st (me_st (me_st s 0 24 (-1)) 0 25 (nI 1)) 0 18 (nI 0)) := rfl
  rw [e]
  refine ⟨fun u h0 h10 h12 => ?_, fun k h18 h24 h25 => ?_, ?_, ?_, ?_, fun f hf => g3 f (Nat.zero_le _) hf⟩
  · rw [g1 u h10 h12, me_st_c _ _ _ h0, me_st_c _ _ _ h0, me_st_c _ _ _ h0]
  · rw [g1 0 (by decide) (by decide), me_st_s _ _ _ h18, me_st_s _ _ _ h25, me_st_s _ _ _ h24]
  · rw [g1 0 (by decide) (by decide), me_st_self]
  · rw [g1 0 (by decide) (by decide), me_st_s _ _ _ (by decide), me_st_s _ _ _ (by decide), me_st_self]
  · rw [g1 0 (by decide) (by decide), me_st_s _ _ _ (by decide), me_st_self]
theorem pu_md_I {s : me_M} (hI : m_I s) : m_I (m_down s) := by
  obtain ⟨g1, g2, g3, g4, g5, g6⟩ := pu_md s
  obtain ⟨i1, i2, i3, i4, i5, i6, i7⟩ := hI
  refine ⟨?_, fun i hi => ?_, fun f hf hd => ?_, fun r hr => ?_, ?_, ?_, ?_⟩
  · rw [g3]; exact vp_in_nI (by decide) (by decide)
  · rw [g1 15 (by decide) (by decide) (by decide), g1 16 (by decide) (by decide) (by decide), g1 17 (by decide) (by decide) (by decide)]; exact i2 i hi
  · rw [(g6 f hf).2] at hd; exact absurd nI_0 hd
  · rw [g1 7 (by decide) (by decide) (by decide), g1 8 (by decide) (by decide) (by decide)]; exact i4 r hr
  · rw [g2 10 (by decide) (by decide) (by decide)]; exact i5
  · rw [g2 17 (by decide) (by decide) (by decide)]; exact i6
  · rw [g3, g2 10 (by decide) (by decide) (by decide), g2 17 (by decide) (by decide) (by decide), nI_clamp (by decide)]; omega
theorem pu_mw {s s' : me_M} {r : Int32} (h : m_mw s = (r, s')) : (r = nI 0 ∧ s 0 24 = 0 ∧ s' = m_down s) ∨ (r = nI 1 ∧ ¬ s 0 24 = 0 ∧ (∀ u, u ≠ 0 → s' u = s u) ∧ (∀ k, k ≠ 24 → k ≠ 26 → s' 0 k = s 0 k) ∧ s' 0 24 = (if s 0 24 ≤ 0 then s 0 24 else s 0 24 - nI 1) ∧ s' 0 26 = s 0 26 + nI 1) := by
  simp only [m_mw] at h
  split at h
  · rename_i c0
    obtain ⟨e8, e9⟩ := Prod.mk.inj h
    exact Or.inl ⟨e8.symm, c0, e9.symm⟩
  · rename_i c0
    split at h
    · rename_i c1
      obtain ⟨e8, e9⟩ := Prod.mk.inj h
      subst e9
      refine Or.inr ⟨e8.symm, c0, fun u hu => by rw [me_st_c _ _ _ hu, me_st_c _ _ _ hu], fun k h4 h6 => by rw [me_st_s _ _ _ h6, me_st_s _ _ _ h4], ?_, ?_⟩
      · rw [me_st_s _ _ _ (by decide), me_st_self, if_pos c1, nI_0, Int32.sub_zero]
      · rw [me_st_self, me_st_s _ _ _ (by decide)]
    · rename_i c1
      obtain ⟨e8, e9⟩ := Prod.mk.inj h
      subst e9
      refine Or.inr ⟨e8.symm, c0, fun u hu => by rw [me_st_c _ _ _ hu, me_st_c _ _ _ hu], fun k h4 h6 => by rw [me_st_s _ _ _ h6, me_st_s _ _ _ h4], ?_, ?_⟩
      · rw [me_st_s _ _ _ (by decide), me_st_self, if_neg c1]
      · rw [me_st_self, me_st_s _ _ _ (by decide)]
theorem pu_mw_I {s s' : me_M} {r : Int32} (h : m_mw s = (r, s')) (hI : m_I s) : m_I s' := by
  rcases pu_mw h with ⟨-, -, rfl⟩ | ⟨-, -, g1, g2, -, -⟩
  · exact pu_md_I hI
  · exact pu_mI_of (fun k hk => g2 k (by omega) (by omega)) (fun u hu => g1 u (by omega)) hI
theorem pu_wh36 : ∀ (n a : Nat) (y : Int32) (b : Nat) (o : Int32) (i t : Nat) (s : me_M) (u : Nat), u ≠ 2 → m_wh_36 n a y b o i t s u = s u := by
  intro n
  induction n with
  | zero => intros; rfl
  | succ n ih =>
    intro a y b o i t s u hu
    simp only [m_wh_36]
    split
    · rfl
    · split
      · rw [ih _ _ _ _ _ _ _ _ hu, me_st_c _ _ _ hu]
      · rw [ih _ _ _ _ _ _ _ _ hu, me_st_c _ _ _ hu]
theorem pu_wh3 : ∀ (n a : Nat) (y : Int32) (b : Nat) (o : Int32) (i : Nat) (s s' : me_M) (r : Int32), m_wh_3 n a y b o i s = (r, s') → m_I s → m_I s' := by
  intro n
  induction n with
  | zero => intro a y b o i s s' r h hI; cases h; exact hI
  | succ n ih =>
    intro a y b o i s s' r h hI
    simp only [m_wh_3] at h
    split at h
    · cases h; exact hI
    · generalize e : m_mw s = q at h
      obtain ⟨r1, s1⟩ := q
      have g := pu_mw_I e hI
      split at h
      · cases h; exact g
      · refine ih _ _ _ _ _ _ _ _ h (pu_mI_of (fun k _ => ?_) (fun u hu => ?_) g)
        · rw [pu_wh36 _ _ _ _ _ _ _ _ _ (by omega), me_st_c _ _ _ (by decide)]
        · rw [pu_wh36 _ _ _ _ _ _ _ _ _ (by omega), me_st_c _ _ _ (by omega)]
theorem pu_wh_I {a b : Nat} {y o r : Int32} {s s' : me_M} (h : m_wh a y b o s = (r, s')) (hI : m_I s) : m_I s' := pu_wh3 _ _ _ _ _ _ _ _ _ h hI
theorem pu_wb60 : ∀ (n a b i t : Nat) (s : me_M) (u : Nat), u ≠ 5 → m_wb_60 n a b i t s u = s u := by
  intro n
  induction n with
  | zero => intros; rfl
  | succ n ih =>
    intro a b i t s u hu
    simp only [m_wb_60]
    split
    · rfl
    · rw [ih _ _ _ _ _ _ hu, me_st_c _ _ _ hu]
theorem pu_wb10 : ∀ (n a b : Nat) (x : Int32) (i : Nat) (s s' : me_M) (r : Int32), m_wb_10 n a b x i s = (r, s') → m_I s → m_I s' := by
  intro n
  induction n with
  | zero => intro a b x i s s' r h hI; cases h; exact hI
  | succ n ih =>
    intro a b x i s s' r h hI
    simp only [m_wb_10] at h
    split at h
    · cases h; exact hI
    · generalize e : m_mw s = q at h
      obtain ⟨r1, s1⟩ := q
      have g := pu_mw_I e hI
      split at h
      · cases h; exact g
      · refine ih _ _ _ _ _ _ _ h (pu_mI_of (fun k _ => ?_) (fun u hu => ?_) g)
        · rw [pu_wb60 _ _ _ _ _ _ _ (by omega), me_st_c _ _ _ (by decide), me_st_c _ _ _ (by decide)]
        · rw [pu_wb60 _ _ _ _ _ _ _ (by omega), me_st_c _ _ _ (by omega), me_st_c _ _ _ (by omega)]
theorem pu_wb_I {a b : Nat} {r : Int32} {s s' : me_M} (h : m_wb a b s = (r, s')) (hI : m_I s) : m_I s' := pu_wb10 _ _ _ _ _ _ _ _ h hI
/-- one record is written -/
theorem pu_mlw_st {s1 s2 s3 s4 s5 : me_M} {r i : Nat} {v w : Int32} (e1 : me_st s1 6 r v = s2) (e2 : me_st s2 7 r (s2 16 i) = s3) (e3 : me_st s3 8 r (s3 17 i) = s4) (e4 : me_st s4 9 r w = s5) (hr : r < 12) (hi : i < 16) (hI : m_I s1) : m_I s5 := by
  subst e4; subst e3; subst e2; subst e1
  obtain ⟨i1, i2, i3, i4, i5, i6, i7⟩ := hI
  refine ⟨?_, fun j hj => ?_, fun f hf hd => ?_, fun q hq => ?_, ?_, ?_, ?_⟩
  · rw [me_st_c _ _ _ (by decide), me_st_c _ _ _ (by decide), me_st_c _ _ _ (by decide), me_st_c _ _ _ (by decide)]; exact i1
  · simp only [me_st_eq]; simpa using i2 j hj
  · simp only [me_st_eq] at hd ⊢; simp at hd ⊢; exact i3 f hf hd
  · simp only [me_st_eq]
    simp
    by_cases hq2 : q = r
    · simp only [hq2, if_true]; exact ⟨(i2 i hi).2.1, (i2 i hi).2.2⟩
    · simp only [hq2, if_false]; exact i4 q hq
  · rw [me_st_c _ _ _ (by decide), me_st_c _ _ _ (by decide), me_st_c _ _ _ (by decide), me_st_c _ _ _ (by decide)]; exact i5
  · rw [me_st_c _ _ _ (by decide), me_st_c _ _ _ (by decide), me_st_c _ _ _ (by decide), me_st_c _ _ _ (by decide)]; exact i6
  · rw [me_st_c _ _ _ (by decide), me_st_c _ _ _ (by decide), me_st_c _ _ _ (by decide), me_st_c _ _ _ (by decide)]; exact i7
end
section
def m_lw_2 : Nat → Nat → me_M → Int32 × me_M
  | 0, i, s => (0, s)
  | n + 1, i, s => if nI ((s 0 18).toNatClampNeg) ≤ (nI i) then (let s85 := me_st s 0 18 (nI 0); (nI 1, s85)) else (let q11 := m_mw s; let r11 := q11.1; let s11 := q11.2; if r11 = 0 then ((nI 0, s11)) else (let s40 := me_st s11 6 (((s11 15 i).toNatClampNeg) % 12) (s11 15 i); let s52 := me_st s40 7 (((s11 15 i).toNatClampNeg) % 12) (s40 16 i); let s64 := me_st s52 8 (((s11 15 i).toNatClampNeg) % 12) (s52 17 i); let s76 := me_st s64 9 (((s11 15 i).toNatClampNeg) % 12) (s64 18 i); m_lw_2 n  (i + 1) s76))
def m_lw  (σ : me_M) : Int32 × me_M := m_lw_2 14  0 σ
set_option maxRecDepth 100000 in
set_option maxHeartbeats 4000000 in
theorem c_X4_logWaiting (l : Launch) (D : va_G) (cy : Nat → ClassId) (ad : Nat → Nat) (xr : va_W)  (σ : me_M) (hI : m_I σ) (sz : Nat) : me_Ci l yX4_logWaiting wsX4_logWaiting ({ frames := 2, cells := 0, slots := 0, locals := 41 }) D (me_T cy) (mm_W cy ad xr) [.ref (ad 0)] sz σ (m_lw  σ) := by
  refine Met.ofW (cc := cX4_logWaiting) (maxL := 3) (ret := (some .boolean)) (by decide) rfl ?_
  intro p e st m args below meth c s₁ B hml hv
  obtain ⟨rfl, hsz, hP, hK, hD0⟩ := hv
  have hx := B.exec
  have hb := B.bytes
  have hr := B.returns
  have hts := atoms_spec (ws := wsX4_logWaiting) B.pre
  have hown : st.vm.findClass RX4 = some m.cls := findClass_of_methodNamed B.named
  have hlocks := B.notSynchronized
  have in4 : ∀ w ∈ u_ws RX4 TX4 29, w ∈ wsX4_logWaiting := by decide +kernel
  have k25 := hts (.fieldLink RX4 25 "TwinWritesModel" "logNumber" "[I") (by decide +kernel)
  have k28 := hts (.fieldLink RX4 28 "TwinWritesModel" "logPage" "[I") (by decide +kernel)
  have k31 := hts (.fieldLink RX4 31 "TwinWritesModel" "logWhich" "[I") (by decide +kernel)
  have k34 := hts (.fieldLink RX4 34 "TwinWritesModel" "logWord" "[I") (by decide +kernel)
  have k60 := hts (.fieldLink RX4 60 "TwinWritesModel" "waitNumber" "[I") (by decide +kernel)
  have k63 := hts (.fieldLink RX4 63 "TwinWritesModel" "waitPage" "[I") (by decide +kernel)
  have k66 := hts (.fieldLink RX4 66 "TwinWritesModel" "waitWhich" "[I") (by decide +kernel)
  have k69 := hts (.fieldLink RX4 69 "TwinWritesModel" "waitWord" "[I") (by decide +kernel)
  have k82 := hts (.fieldLink RX4 82 "TwinWritesModel" "waiting" "I") (by decide +kernel)
  subst hsz
  have hD := hD0.self (sz := st.heap.size)
  have hA : ∀ q : Nat, st.heap.size ≤ q → va_A ((mm_W cy ad xr) σ) st.heap.size q := fun q h => Or.inr h
  have hS : va_S (va_A ((mm_W cy ad xr) σ) st.heap.size) st.heap st.heap [] := va_S.rf
  generalize va_A ((mm_W cy ad xr) σ) st.heap.size = A at hD hA hS ⊢
  have hl := lv_entry ([.ref (ad 0)]) (n := 3) (Nat.le_of_ble_eq_true rfl)
  rw [lg_entry_eq]
  generalize (lg_sl ([.ref (ad 0)]) ++ List.replicate (3 - (lg_sl ([.ref (ad 0)])).length) Slot.unset).toArray = ls at hl ⊢
  have hl : lv_has ls 3 [(0, .ref (ad 0))] := hl
  refine lv_iconst (v := nI 0) hx hb dX4_logWaiting_0 (by decide) ?_
  refine lv_istore_n (lv' := [(1, .int (nI 0)), (0, .ref (ad 0))]) hx hb dX4_logWaiting_1 rfl hl (by decide) rfl (fun ls hl => ?_)
  have J2 : ∀ (n : Nat) (i : Nat) (s : me_M) (H : Heap) (locs : List Loc) (hP : va_P D vwCl ((mm_W cy ad xr) s) H) (hD : va_D A ((mm_W cy ad xr) s)) (hS : va_S A st.heap H locs) (ls : Array Slot) (hl : lv_has ls 3 [(1, .int (nI i)), (0, .ref (ad 0))]), ∀ (hi : i ≤ 13), ∀ (hn : 14 ≤ i + n), ∀ (hI : m_I s), m_lw  σ = m_lw_2 n  i s → W p l e (headSpec wsX4_logWaiting ({ frames := 2, cells := 0, slots := 0, locals := 41 })).room st m ([.ref (ad 0)] : List Value).toArray below meth c H locs 0 0 (MQ below (va_Qi (fun r σ' => (r, σ') = m_lw  σ) (me_B D (me_T cy) A (mm_W cy ad xr)) A) ([.ref (ad 0)] : List Value).toArray st 0 0 A) (F0 m 2 ls []) := by
    intro n
    induction n with
    | zero => intro i s H locs hP hD hS ls hl hi hn hI hf2; exfalso; omega
    | succ n ih =>
      intro i s H locs hP hD hS ls hl hi hn hI hf2
      refine lv_iload_n hx hb dX4_logWaiting_2 rfl (lv_at hl 0 rfl) ?_
      refine lv_aload_n hx hb dX4_logWaiting_3 rfl (lv_at hl 1 rfl) ?_
      refine va_get (D := D) (ci := 4) (v := .int (s 0 18)) (C := RX4) (T := TX4) (N := 29) hx hb hts in4 hown hK hP 0 (me_get (by omega) (mm_0 cy ad _)) rfl 18 (by decide) k82 (fun _ h9 => h9) rfl dX4_logWaiting_4 ?_
      have b4 := me_inb hI.1
      refine me_top (me_ine hI.1) ?_
      refine lv_icmp_ge (tgt := 83) hx hb dX4_logWaiting_7 (by decide) (fun c7 => ?_) (fun c7 => ?_)
      ·
        try have h7 := (nI_leI (by omega) (by omega)).mp c7
        refine lv_aload_n hx hb dX4_logWaiting_83 rfl (lv_at hl 1 rfl) ?_
        refine lv_iconst (v := nI 0) hx hb dX4_logWaiting_84 (by decide) ?_
        refine me_put (ty := .int) (ci := 4) (C := RX4) (T := TX4) (M := 29) hx hb hts in4 tyX4 tyX4_ok nmX4 hown hK hP hD hS 0 (by omega) (mm_0 cy ad _) rfl 18 (by decide) k82 (fun _ h9 => h9) rfl (by decide +kernel) rfl rfl (Nat.le_of_ble_eq_true rfl) (mm_0 cy ad _) dX4_logWaiting_85 (fun s85 H locs e85 hP hD hS => ?_)
        refine lv_iconst (v := nI 1) hx hb dX4_logWaiting_88 (by decide) ?_
        exact me_reti hx hb hr rfl hlocks hK hP hD hS (by rw [hf2]; simp only [m_lw_2, if_pos c7, e85]) dX4_logWaiting_89
      ·
        try have h7 := (not_congr (nI_leI (by omega) (by omega))).mp c7
        refine lv_aload_n hx hb dX4_logWaiting_10 rfl (lv_at hl 1 rfl) ?_
        refine me_calli (f := m_mw s) (w := (mm_W cy ad xr)) (σ := s) (As := []) (rest := []) ⟨hx, hb, hml, hown, hts⟩ (fun sz => c_X4_mayWrite l D cy ad xr  s  sz) (cwV 0 hts gX4_logWaiting_X4_mayWrite rfl rfl rfl (by decide +kernel) ⟨Nat.le_of_ble_eq_true rfl, Nat.le_of_ble_eq_true rfl⟩) (va_recv hK hP (ci := 4) (q0 := 0) rfl (me_get (by omega) (mm_0 cy ad _))) hK hP hD hS hA rfl hl.1 rfl (Nat.le_of_ble_eq_true rfl) dX4_logWaiting_11 ⟨Nat.zero_le _, Nat.zero_le _⟩ (fun r11 s11 H locs e11 hP hD hS => ?_)
        have hJ := pu_mw_I e11 hI
        refine lv_if_ne (tgt := 19) hx hb dX4_logWaiting_14 (by decide) (fun c14 => ?_) (fun c14 => ?_)
        ·
          refine lv_aload_n hx hb dX4_logWaiting_19 rfl (lv_at hl 1 rfl) ?_
          refine va_get (D := D) (ci := 4) (v := .ref (ad 15)) (C := RX4) (T := TX4) (N := 29) hx hb hts in4 hown hK hP 0 (me_get (by omega) (mm_0 cy ad _)) rfl 19 (by decide) k60 (fun _ h9 => h9) rfl dX4_logWaiting_20 ?_
          refine lv_iload_n hx hb dX4_logWaiting_23 rfl (lv_at hl 0 rfl) ?_
          refine me_iald hx hb hK hP 15 0 (by omega) (fun f => mm_15 cy ad f) rfl i rfl (by omega) (by decide) dX4_logWaiting_24 ?_
          have b24 := me_inb (hJ.2.1 i (by omega)).1
          refine me_top (me_ine (hJ.2.1 i (by omega)).1) ?_
          refine lv_bipush (v := nI 12) hx hb dX4_logWaiting_25 (by decide) ?_
          refine lv_irem hx hb dX4_logWaiting_27 (by decide) ?_
          refine me_top (pk_rem (by omega) (by omega) (by omega)) ?_
          refine lv_istore_n (lv' := [(2, .int (nI (((s11 15 i).toNatClampNeg) % 12))), (1, .int (nI i)), (0, .ref (ad 0))]) hx hb dX4_logWaiting_28 rfl hl (by decide) rfl (fun ls hl => ?_)
          refine lv_aload_n hx hb dX4_logWaiting_29 rfl (lv_at hl 2 rfl) ?_
          refine va_get (D := D) (ci := 4) (v := .ref (ad 6)) (C := RX4) (T := TX4) (N := 29) hx hb hts in4 hown hK hP 0 (me_get (by omega) (mm_0 cy ad _)) rfl 6 (by decide) k25 (fun _ h9 => h9) rfl dX4_logWaiting_30 ?_
          refine lv_iload_n hx hb dX4_logWaiting_33 rfl (lv_at hl 0 rfl) ?_
          refine lv_aload_n hx hb dX4_logWaiting_34 rfl (lv_at hl 2 rfl) ?_
          refine va_get (D := D) (ci := 4) (v := .ref (ad 15)) (C := RX4) (T := TX4) (N := 29) hx hb hts in4 hown hK hP 0 (me_get (by omega) (mm_0 cy ad _)) rfl 19 (by decide) k60 (fun _ h9 => h9) rfl dX4_logWaiting_35 ?_
          refine lv_iload_n hx hb dX4_logWaiting_38 rfl (lv_at hl 1 rfl) ?_
          refine me_iald hx hb hK hP 15 0 (by omega) (fun f => mm_15 cy ad f) rfl i rfl (by omega) (by decide) dX4_logWaiting_39 ?_
          refine me_iast hx hb hK hP hD hS 6 0 (by omega) (fun f => mm_6 cy ad f) rfl (((s11 15 i).toNatClampNeg) % 12) rfl (by omega) (by decide) dX4_logWaiting_40 (fun s40 H locs e40 hP hD hS => ?_)
          refine lv_aload_n hx hb dX4_logWaiting_41 rfl (lv_at hl 2 rfl) ?_
          refine va_get (D := D) (ci := 4) (v := .ref (ad 7)) (C := RX4) (T := TX4) (N := 29) hx hb hts in4 hown hK hP 0 (me_get (by omega) (mm_0 cy ad _)) rfl 7 (by decide) k28 (fun _ h9 => h9) rfl dX4_logWaiting_42 ?_
          refine lv_iload_n hx hb dX4_logWaiting_45 rfl (lv_at hl 0 rfl) ?_
          refine lv_aload_n hx hb dX4_logWaiting_46 rfl (lv_at hl 2 rfl) ?_
          refine va_get (D := D) (ci := 4) (v := .ref (ad 16)) (C := RX4) (T := TX4) (N := 29) hx hb hts in4 hown hK hP 0 (me_get (by omega) (mm_0 cy ad _)) rfl 20 (by decide) k63 (fun _ h9 => h9) rfl dX4_logWaiting_47 ?_
          refine lv_iload_n hx hb dX4_logWaiting_50 rfl (lv_at hl 1 rfl) ?_
          refine me_iald hx hb hK hP 16 0 (by omega) (fun f => mm_16 cy ad f) rfl i rfl (by omega) (by decide) dX4_logWaiting_51 ?_
          refine me_iast hx hb hK hP hD hS 7 0 (by omega) (fun f => mm_7 cy ad f) rfl (((s11 15 i).toNatClampNeg) % 12) rfl (by omega) (by decide) dX4_logWaiting_52 (fun s52 H locs e52 hP hD hS => ?_)
          refine lv_aload_n hx hb dX4_logWaiting_53 rfl (lv_at hl 2 rfl) ?_
          refine va_get (D := D) (ci := 4) (v := .ref (ad 8)) (C := RX4) (T := TX4) (N := 29) hx hb hts in4 hown hK hP 0 (me_get (by omega) (mm_0 cy ad _)) rfl 8 (by decide) k31 (fun _ h9 => h9) rfl dX4_logWaiting_54 ?_
          refine lv_iload_n hx hb dX4_logWaiting_57 rfl (lv_at hl 0 rfl) ?_
          refine lv_aload_n hx hb dX4_logWaiting_58 rfl (lv_at hl 2 rfl) ?_
          refine va_get (D := D) (ci := 4) (v := .ref (ad 17)) (C := RX4) (T := TX4) (N := 29) hx hb hts in4 hown hK hP 0 (me_get (by omega) (mm_0 cy ad _)) rfl 21 (by decide) k66 (fun _ h9 => h9) rfl dX4_logWaiting_59 ?_
          refine lv_iload_n hx hb dX4_logWaiting_62 rfl (lv_at hl 1 rfl) ?_
          refine me_iald hx hb hK hP 17 0 (by omega) (fun f => mm_17 cy ad f) rfl i rfl (by omega) (by decide) dX4_logWaiting_63 ?_
          refine me_iast hx hb hK hP hD hS 8 0 (by omega) (fun f => mm_8 cy ad f) rfl (((s11 15 i).toNatClampNeg) % 12) rfl (by omega) (by decide) dX4_logWaiting_64 (fun s64 H locs e64 hP hD hS => ?_)
          refine lv_aload_n hx hb dX4_logWaiting_65 rfl (lv_at hl 2 rfl) ?_
          refine va_get (D := D) (ci := 4) (v := .ref (ad 9)) (C := RX4) (T := TX4) (N := 29) hx hb hts in4 hown hK hP 0 (me_get (by omega) (mm_0 cy ad _)) rfl 9 (by decide) k34 (fun _ h9 => h9) rfl dX4_logWaiting_66 ?_
          refine lv_iload_n hx hb dX4_logWaiting_69 rfl (lv_at hl 0 rfl) ?_
          refine lv_aload_n hx hb dX4_logWaiting_70 rfl (lv_at hl 2 rfl) ?_
          refine va_get (D := D) (ci := 4) (v := .ref (ad 18)) (C := RX4) (T := TX4) (N := 29) hx hb hts in4 hown hK hP 0 (me_get (by omega) (mm_0 cy ad _)) rfl 22 (by decide) k69 (fun _ h9 => h9) rfl dX4_logWaiting_71 ?_
          refine lv_iload_n hx hb dX4_logWaiting_74 rfl (lv_at hl 1 rfl) ?_
          refine me_iald hx hb hK hP 18 0 (by omega) (fun f => mm_18 cy ad f) rfl i rfl (by omega) (by decide) dX4_logWaiting_75 ?_
          refine me_iast hx hb hK hP hD hS 9 0 (by omega) (fun f => mm_9 cy ad f) rfl (((s11 15 i).toNatClampNeg) % 12) rfl (by omega) (by decide) dX4_logWaiting_76 (fun s76 H locs e76 hP hD hS => ?_)
          refine lv_iinc (v := nI (i + 1)) (lv' := [(1, .int (nI (i + 1))), (2, .int (nI (((s11 15 i).toNatClampNeg) % 12))), (0, .ref (ad 0))]) hx hb dX4_logWaiting_77 hl (k := 1) rfl (me_inc _) (by decide) rfl (fun ls hl => ?_)
          refine lv_goto (tgt := 2) hx hb dX4_logWaiting_80 (by decide) ?_
          exact ih (i + 1) s76 _ _ hP hD hS ls (lv_sub hl [0, 2] rfl) (by omega) (by omega) (pu_mlw_st e40 e52 e64 e76 (by omega) (by omega) hJ) (by rw [hf2]; simp only [m_lw_2, if_neg c7, e11, if_neg c14, e40, e52, e64, e76])
        ·
          refine lv_iconst (v := nI 0) hx hb dX4_logWaiting_17 (by decide) ?_
          exact me_reti hx hb hr rfl hlocks hK hP hD hS (by rw [hf2]; simp only [m_lw_2, if_neg c7, e11, if_pos c14]) dX4_logWaiting_18
  exact J2 14 0 σ _ _ hP hD hS ls (lv_sub hl [0, 1] rfl) (by omega) (by omega) (hI) (by simp only [m_lw])
end
section
theorem zz_last : True := trivial
end
