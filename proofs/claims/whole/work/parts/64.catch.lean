/-! A THROW THAT A CALLEE LEFT, caught by a row of this method's table (the printed rows for it rest on what no round has: proved here anew, for rows that name a class) -/
def cx_A (s0 : State) (e : Env) (f : JFrame) (a : Addr) (cell : Cell) (xs : List ExceptionTableEntry) (pc : Nat) : Prop :=
  ∀ S : State, s0.WarmedH S.vm → S.heap[a]? = some cell → ∃ vm' : Vm, s0.WarmedH vm' ∧ ∀ (Q : Handler → Pre) (E : CtlPost) (d : Bool) (acts : List Action), wp (findHandler.go f a xs) Q E e d acts S ↔ Q (.found pc) d acts (S.setVm vm')
/-- a row that covers the place and names the class ct: taken or passed by whether the thrown can be assigned to it -/
theorem cx_row {s0 : State} {e : Env} {f : JFrame} {a : Addr} {cell : Cell} {x : ExceptionTableEntry} {t : List ExceptionTableEntry} {pc : Nat} {ct : ClassId} {b : Bool} (hx : covers x f.pc = true) (h0 : x.catchType ≠ 0) (hl : s0.vm.ClassLinks e.platform f.method.cls x.catchType ct)
    (hobj : cell.vm.isStatics = false) (hk : ∃ k, s0.vm.classes[cell.cls]? = some k) (hb : s0.vm.assignable cell.cls ct = b) (ht : b = true → x.handlerPc = pc) (hf : b = false → cx_A s0 e f a cell t pc) : cx_A s0 e f a cell (x :: t) pc := by
  intro S hW hcell
  obtain ⟨k0, hk0⟩ := hk
  obtain ⟨dk, _, _, kt, hd, _, _, _, _, hkt, _, hopen⟩ := hl.here
  have hl' := hW.classLinks hl
  have hal : S.vm.Alike (S.vm.noted f.method.cls x.catchType (.cls ct)) := (Vm.Alike.refl S.vm).noted _ _ _
  have hW2 : s0.WarmedH (S.vm.noted f.method.cls x.catchType (.cls ct)) := hW.noted hd hopen (State.rightAt_cls hl)
  obtain ⟨k1, hk1, -⟩ := hW2.alike.2.2 _ _ hk0
  obtain ⟨k2, hk2, -⟩ := hW2.alike.2.2 _ _ hkt
  have hb2 : (S.vm.noted f.method.cls x.catchType (.cls ct)).assignable cell.cls ct = b := by rw [hW2.alike.assignable]; exact hb
  obtain ⟨ha, hd2⟩ := (resolveClass_links e.toSetting hl').op (op := VmOp.resolveClass f.method.cls x.catchType) rfl
  have hns : ∀ k, cell.vm ≠ .statics k := VmData.ne_statics_of hobj
  simp only [covers] at hx
  cases hbb : b with
  | true =>
    rw [hbb] at hb2
    refine ⟨_, hW2, fun Q E d acts => ?_⟩
    rw [← ht hbb]
    simp [findHandler.go, hx, h0, ha, hd2, hcell, hns, hk1, hk2, hb2, VmOp.dirties, VmOp.acts]
  | false =>
    rw [hbb] at hb2
    obtain ⟨vm', hW3, hq⟩ := hf hbb (S.setVm (S.vm.noted f.method.cls x.catchType (.cls ct))) hW2 hcell
    refine ⟨vm', hW3, fun Q E d acts => ?_⟩
    rw [show S.setVm vm' = (S.setVm (S.vm.noted f.method.cls x.catchType (.cls ct))).setVm vm' from rfl, ← hq Q E d acts]
    simp [findHandler.go, hx, h0, ha, hd2, hcell, hns, hk1, hk2, hb2, VmOp.dirties, VmOp.acts]
section CXA
variable {p : Program} {l : Launch} {e : Env} {R : Room} {s : State} {m : MethodId} {args : Array Value} {below : List Frame} {meth : Method} {c : Code} {H : Heap} {locs : List Loc} {cells slots : Nat} {Q : State → Prop}
variable {pc : Nat} {ls : Array Slot} {rest : List Value}
theorem cx_caught {ce : Cell} {q : Addr} {hpc : Nat} (hcell : H[q]? = some ce) (hA : e.platform.magicAccessors = ({} : Platform).magicAccessors → cx_A s e (F0 m pc ls rest) q ce c.exceptionTable.toList hpc)
    (kk : W p l e R s m args below meth c H locs cells slots Q (F0 m hpc ls [.ref q])) : vx_W p l e R s m args below meth c H locs cells slots Q (F0 m pc ls rest) q := by
  intro T hT X
  have hpl : e.platform.magicAccessors = ({} : Platform).magicAccessors := by rw [X.admits.platform]
  obtain ⟨vm', hW', hq⟩ := hA hpl ((T.setTop (F0 m pc ls rest)).pushFrame (.throwing q)) X.warmed (by show T.heap[q]? = _; rw [hT]; exact hcell)
  obtain ⟨t, a1, b1⟩ := kk (T.setVm vm') hT (X.noted hW')
  refine ⟨t, ?_, b1⟩
  have h : At T (F0 m pc ls rest).method c below := X.here
  obtain ⟨hgo, hw⟩ := h.throwing q
  refine Steps.head hgo hw ?_
  obtain ⟨g0, hg0⟩ := Option.isSome_iff_exists.mp h.top
  obtain ⟨r, hr⟩ := State.topJava?_eq_some.mp hg0
  have hS : (stepThrowing e ((T.setTop (F0 m pc ls rest)).pushFrame (.throwing q)) q (.java (F0 m pc ls rest) :: T.frames.tail)).Is ((((T.setTop (F0 m pc ls rest)).pushFrame (.throwing q)).setVm vm').setFrames (.java { (F0 m pc ls rest) with pc := hpc, stack := [.ref q] } :: T.frames.tail)) [] := by
    simp only [stepThrowing, searchFrame, vmDo]
    generalize hres : Sem.go _ e false [] ((T.setTop (F0 m pc ls rest)).pushFrame (.throwing q)) = res
    obtain ⟨as, rfl, ha⟩ := Sem.eq_ok_of hres (a := Handler.found hpc) (s' := ((T.setTop (F0 m pc ls rest)).pushFrame (.throwing q)).setVm vm') (acts' := []) (by
      have hm : ((T.setTop (F0 m pc ls rest)).pushFrame (.throwing q)).vm.method? (F0 m pc ls rest).method = some meth := X.method'
      simp [_root_.Jvm.W.findHandler_eq hm X.code, hq _ _ _ _])
    exact ⟨rfl, ha⟩
  rw [stepThread_throwing (frames_entered h.top _), hS.1]
  have hr' : (T.setVm vm').frames = .java g0 :: r := hr
  have e1 : (((T.setTop (F0 m pc ls rest)).pushFrame (.throwing q)).setVm vm').setFrames (.java { (F0 m pc ls rest) with pc := hpc, stack := [.ref q] } :: T.frames.tail) = (T.setVm vm').setTop (F0 m hpc ls [.ref q]) := by
    rw [State.setTop_of_frames _ hr', hr, List.tail_cons, State.pushFrame, State.setTop_of_frames _ hr]
    have e2 : ∀ (u : State) (F G : List Frame), ((u.setFrames F).setVm vm').setFrames G = (u.setVm vm').setFrames G := fun u F G => by
      have e3 : (u.setFrames F).setVm vm' = (u.setVm vm').setFrames F := rfl
      rw [e3, State.setFrames_setFrames]
    rw [e2, e2]
  rw [e1]
  exact a1
theorem cx_yes {own name E : String} {ce : Cell} {q : Addr} {x : ExceptionTableEntry} {t : List ExceptionTableEntry} (hpl : e.platform.magicAccessors = ({} : Platform).magicAccessors) (hown : s.vm.findClass own = some m.cls) (hlink : (Cond.classLink own x.catchType name).before args s = true) (hcast : va_Nw (.castable E name) s) (hcl : s.vm.findClass E = some ce.cls) (hv : ce.vm = .none) (hx : covers x pc = true) (h0 : x.catchType ≠ 0) :
    cx_A s e (F0 m pc ls rest) q ce (x :: t) x.handlerPc := by
  obtain ⟨c5, hc5, hcl5⟩ := Cond.classLink_spec hown hlink e.platform hpl
  obtain ⟨c3, c4, hc3, hc4, hasg⟩ := Cond.castable_spec hcast
  cases Option.some.inj (hc3.symm.trans hcl)
  cases Option.some.inj (hc4.symm.trans hc5)
  exact cx_row hx h0 hcl5 (by rw [hv]; rfl) (by obtain ⟨k9, h9, -⟩ := Vm.findClass_spec hcl; exact ⟨k9, h9⟩) hasg (fun _ => rfl) (fun h => by cases h)
theorem cx_no {own name E : String} {ce : Cell} {q : Addr} {x : ExceptionTableEntry} {t : List ExceptionTableEntry} {hpc : Nat} (hpl : e.platform.magicAccessors = ({} : Platform).magicAccessors) (hown : s.vm.findClass own = some m.cls) (hlink : (Cond.classLink own x.catchType name).before args s = true) (hno : va_Nc E name s) (hcl : s.vm.findClass E = some ce.cls) (hv : ce.vm = .none) (hx : covers x pc = true) (h0 : x.catchType ≠ 0) (ht : cx_A s e (F0 m pc ls rest) q ce t hpc) :
    cx_A s e (F0 m pc ls rest) q ce (x :: t) hpc := by
  obtain ⟨c5, hc5, hcl5⟩ := Cond.classLink_spec hown hlink e.platform hpl
  obtain ⟨c3, c4, hc3, hc4, hasg⟩ := hno
  cases Option.some.inj (hc3.symm.trans hcl)
  cases Option.some.inj (hc4.symm.trans hc5)
  exact cx_row hx h0 hcl5 (by rw [hv]; rfl) (by obtain ⟨k9, h9, -⟩ := Vm.findClass_spec hcl; exact ⟨k9, h9⟩) hasg (fun h => by cases h) (fun _ => ht)
end CXA
