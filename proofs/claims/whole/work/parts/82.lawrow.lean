/-! THE LAW'S WORLD: the class's cells, out, the reference's cells; and how the calls go through it -/
abbrev lw_W (cy : Nat → ClassId) (ad bd : Nat → Nat) (ao : Nat) (σ τ : me_M) (o : Nat → Int64) : va_W := lh_W cy ad ao (mm_W cy bd [] τ) σ o
abbrev lw_V (cy : Nat → ClassId) (ad bd : Nat → Nat) (ao : Nat) (σ τ : me_M) (o : Nat → Int64) : va_W := mm_W cy bd (kk_W cy ad [lh_o cy ao o] σ) τ
theorem me_w_app {E : Nat → (Nat → Int32) → va_E} {ad : Nat → Nat} {n : Nat} (rest : va_W) {σ : me_M} : me_w E ad n rest σ = me_w E ad n [] σ ++ rest := by
  unfold me_w
  rw [List.append_nil]
theorem kk_app (cy : Nat → ClassId) (ad : Nat → Nat) (xr : va_W) (σ : me_M) : kk_W cy ad xr σ = kk_W cy ad [] σ ++ xr := me_w_app xr
theorem mm_app (cy : Nat → ClassId) (ad : Nat → Nat) (xr : va_W) (σ : me_M) : mm_W cy ad xr σ = mm_W cy ad [] σ ++ xr := me_w_app xr
theorem lw_WV {cy : Nat → ClassId} {ad bd : Nat → Nat} {ao : Nat} {σ τ : me_M} {o : Nat → Int64} : lw_W cy ad bd ao σ τ o = [] ++ kk_W cy ad [lh_o cy ao o] σ ++ mm_W cy bd [] τ := by
  rw [show lw_W cy ad bd ao σ τ o = kk_W cy ad (lh_o cy ao o :: mm_W cy bd [] τ) σ from rfl, kk_app cy ad (lh_o cy ao o :: mm_W cy bd [] τ), kk_app cy ad [lh_o cy ao o], List.nil_append, List.append_assoc]
  rfl
theorem lw_VW {cy : Nat → ClassId} {ad bd : Nat → Nat} {ao : Nat} {σ τ : me_M} {o : Nat → Int64} : lw_V cy ad bd ao σ τ o = [] ++ mm_W cy bd [] τ ++ kk_W cy ad [lh_o cy ao o] σ := by
  rw [show lw_V cy ad bd ao σ τ o = mm_W cy bd (kk_W cy ad [lh_o cy ao o] σ) τ from rfl, mm_app cy bd (kk_W cy ad [lh_o cy ao o] σ), List.nil_append]
theorem lw_toV {D : va_G} {cy : Nat → ClassId} {ad bd : Nat → Nat} {ao : Nat} {σ τ : me_M} {o : Nat → Int64} {H : Heap} (h : va_P D vwCl (lw_W cy ad bd ao σ τ o) H) : va_P D vwCl (lw_V cy ad bd ao σ τ o) H := by
  rw [lw_WV] at h
  rw [lw_VW]
  exact va_P.swap h
theorem lw_toW {D : va_G} {cy : Nat → ClassId} {ad bd : Nat → Nat} {ao : Nat} {σ τ : me_M} {o : Nat → Int64} {H : Heap} (h : va_P D vwCl (lw_V cy ad bd ao σ τ o) H) : va_P D vwCl (lw_W cy ad bd ao σ τ o) H := by
  rw [lw_VW] at h
  rw [lw_WV]
  exact va_P.swap h
theorem lw_toVD {A : Nat → Prop} {cy : Nat → ClassId} {ad bd : Nat → Nat} {ao : Nat} {σ τ : me_M} {o : Nat → Int64} (h : va_D A (lw_W cy ad bd ao σ τ o)) : va_D A (lw_V cy ad bd ao σ τ o) := by
  rw [lw_WV] at h
  rw [lw_VW]
  exact va_D.swap h
theorem lw_toWD {A : Nat → Prop} {cy : Nat → ClassId} {ad bd : Nat → Nat} {ao : Nat} {σ τ : me_M} {o : Nat → Int64} (h : va_D A (lw_V cy ad bd ao σ τ o)) : va_D A (lw_W cy ad bd ao σ τ o) := by
  rw [lw_VW] at h
  rw [lw_WV]
  exact va_D.swap h
theorem lh_blind {D : va_G} {tys : List (ClassId × FieldType)} {w : va_W} {sz : Nat} {av : List Value} {sa : Nat → Nat} : FrameBlind (va_Pc av (lh_P D tys w sz sa)) := fun a U g mk q => by
  obtain ⟨q0, q1, q2⟩ := q
  exact ⟨(me_blindE (D := D) (tys := tys) (w := w) (sz := sz) (av := av) (sa := sa) a U g mk ⟨q0, q1⟩).1, (me_blindE (D := D) (tys := tys) (w := w) (sz := sz) (av := av) (sa := sa) a U g mk ⟨q0, q1⟩).2, va_Nc.moved (u := U) (U := U.calling g mk a) (Vm.Alike.refl U.vm) q2⟩
theorem lh_pre {D : va_G} {tys : List (ClassId × FieldType)} {w : va_W} {av : List Value} {A : Nat → Prop} {s : State} {H : Heap} {locs : List Loc} {sa : Nat → Nat} (hK : va_K D vwCl tys s) (hP : va_P D vwCl w H) (hD : va_D A w) (hS : va_S A s.heap H locs) (hA : ∀ q, s.heap.size ≤ q → A q) (hE : ex_E sa A s s.heap) (hNc : va_Nc (ex_N 2) (ex_N 1) s) : ∀ U : State, U.heap = H → s.WarmedH U.vm → va_Pc av (lh_P D tys w H.size sa) av.toArray U :=
  fun U hU hW => ⟨rfl, (me_preE (av := av) hK hP hD hS hA hE U hU hW).2, hNc.moved hW.alike⟩
section LWA
variable {p : Program} {l : Launch} {e : Env} {R : Room} {s : State} {m : MethodId} {args : Array Value} {below : List Frame} {meth : Method} {c : Code} {H : Heap} {locs : List Loc} {cells slots : Nat} {Q : State → Prop}
variable {cc : ByteArray} {pc : Nat} {ls : Array Slot} {rest st : List Value} {D : va_G} {A : Nat → Prop} {tys : List (ClassId × FieldType)} {σ τ : me_M} {o : Nat → Int64} {w : me_M → (Nat → Int64) → va_W} {sa : Nat → Nat}
variable {y : MethodName} {bytes : ByteArray} {maxL nL n index : Nat} {ret : Option FieldType} {hh : List (Nat × Nat × Nat × Nat)} {ws : List Cond} {rm : Room} {Ts : List Cond} {own C : String} {As : List Value} {cy : Nat → ClassId} {ad bd : Nat → Nat} {ao : Nat}
/-- a call of one of the law's own steps -/
theorem lh_call {f : Int32 × me_M × (Nat → Int64)} (S : CallFix p m c cc nL s args Ts own) (hM : ∀ sz, lh_C l y ws rm D tys w As sz σ o sa f) (cw : vx_CSW R s args own index y bytes maxL ret hh ws rm 1 6 n)
    (hE : ex_E sa A s s.heap) (hNc : va_Nc (ex_N 2) (ex_N 1) s) (hK : va_K D vwCl tys s) (hP : va_P D vwCl (w σ o) H) (hD : va_D A (w σ o)) (hS : va_S A s.heap H locs) (hA : ∀ q, s.heap.size ≤ q → A q)
    (hn : As.length = n) (hsize : ls.size = nL) (hst : st = As.reverse ++ rest) (hW : (rest.map fun v => v.category).sum ≤ 8) (hdg : decode cc pc = .ok (.invokestatic index, 3)) (hf : cells + 1 ≤ R.cells ∧ slots + 6 ≤ R.slots)
    (kk : ∀ (H1 : Heap) (locs1 : List Loc), va_P D vwCl (w f.2.1 f.2.2) H1 → va_D A (w f.2.1 f.2.2) → va_S A s.heap H1 locs1 → W p l e R s m args below meth c H1 locs1 (cells + 1) (slots + 6) Q (F0 m (pc + 3) ls (.int f.1 :: rest))) : W p l e R s m args below meth c H locs cells slots Q (F0 m pc ls st) := by
  have hF := me_free hD hS hA
  refine va_calli (vx_runSW (As := As) (rest := rest) S (hM H.size) cw ⟨lh_blind, lh_pre hK hP hD hS hA hE hNc⟩ rfl hn hsize hst (by simpa using hW) hdg hf) hS (fun q _ h => hF q h) hF (fun r u t H1 locs1 ht hvm hw hB hz1 hk1 hS1 => ?_)
  obtain ⟨hP1, hK1, hD1⟩ := hB
  rw [ht] at hP1
  subst hw
  exact kk H1 locs1 hP1 (hD1.weaken (fun k q _ h => hF q.1 h)) hS1
theorem lw_mi {f : Int32 × me_M} (S : CallFix p m c cc nL s args Ts own) (hM : ∀ sz, me_Ci l y ws rm D (me_T cy) (mm_W cy bd (kk_W cy ad [lh_o cy ao o] σ)) (.ref (bd 0) :: As) sz τ f) (cw : CallW R s args own RX4 index y bytes maxL ret ws rm 0 0 n)
    (hK : va_K D vwCl (me_T cy) s) (hP : va_P D vwCl (lw_W cy ad bd ao σ τ o) H) (hD : va_D A (lw_W cy ad bd ao σ τ o)) (hS : va_S A s.heap H locs) (hA : ∀ q, s.heap.size ≤ q → A q)
    (hn : As.length = n) (hsize : ls.size = nL) (hst : st = As.reverse ++ .ref (bd 0) :: rest) (hW : (rest.map fun v => v.category).sum ≤ 8) (hdg : decode cc pc = .ok (.invokevirtual index, 3)) (hf : cells ≤ R.cells ∧ slots ≤ R.slots)
    (kk : ∀ (H1 : Heap) (locs1 : List Loc), va_P D vwCl (lw_W cy ad bd ao σ f.2 o) H1 → va_D A (lw_W cy ad bd ao σ f.2 o) → va_S A s.heap H1 locs1 → W p l e R s m args below meth c H1 locs1 cells slots Q (F0 m (pc + 3) ls (.int f.1 :: rest))) : W p l e R s m args below meth c H locs cells slots Q (F0 m pc ls st) := by
  refine me_calli S hM cw (va_recv hK (lw_toV hP) (ci := 4) (q0 := 0) rfl (me_get (by omega) (mm_0 cy bd _))) hK (lw_toV hP) (lw_toVD hD) hS hA hn hsize hst hW hdg hf (fun r σ1 H1 locs1 e1 hP1 hD1 hS1 => ?_)
  subst e1
  exact kk H1 locs1 (lw_toW hP1) (lw_toWD hD1) hS1
theorem lw_mv {f : me_M} (S : CallFix p m c cc nL s args Ts own) (hM : ∀ sz, me_Cv l y ws rm D (me_T cy) (mm_W cy bd (kk_W cy ad [lh_o cy ao o] σ)) (.ref (bd 0) :: As) sz τ f) (cw : CallW R s args own RX4 index y bytes maxL ret ws rm 0 0 n)
    (hK : va_K D vwCl (me_T cy) s) (hP : va_P D vwCl (lw_W cy ad bd ao σ τ o) H) (hD : va_D A (lw_W cy ad bd ao σ τ o)) (hS : va_S A s.heap H locs) (hA : ∀ q, s.heap.size ≤ q → A q)
    (hn : As.length = n) (hsize : ls.size = nL) (hst : st = As.reverse ++ .ref (bd 0) :: rest) (hW : (rest.map fun v => v.category).sum ≤ 8) (hdg : decode cc pc = .ok (.invokevirtual index, 3)) (hf : cells ≤ R.cells ∧ slots ≤ R.slots)
    (kk : ∀ (H1 : Heap) (locs1 : List Loc), va_P D vwCl (lw_W cy ad bd ao σ f o) H1 → va_D A (lw_W cy ad bd ao σ f o) → va_S A s.heap H1 locs1 → W p l e R s m args below meth c H1 locs1 cells slots Q (F0 m (pc + 3) ls rest)) : W p l e R s m args below meth c H locs cells slots Q (F0 m pc ls st) := by
  refine me_callv S hM cw (va_recv hK (lw_toV hP) (ci := 4) (q0 := 0) rfl (me_get (by omega) (mm_0 cy bd _))) hK (lw_toV hP) (lw_toVD hD) hS hA hn hsize hst hW hdg hf (fun σ1 H1 locs1 e1 hP1 hD1 hS1 => ?_)
  subst e1
  exact kk H1 locs1 (lw_toW hP1) (lw_toWD hD1) hS1
end LWA
theorem lg_cmp_self (x : Int64) : lg_cmp x x = 0 := by
  unfold lg_cmp
  simp
/-- what a step answers, against the reference: the number, the memory, out -/
theorem lh_r_1 (f : me_F) (c1 c2 : Int32) (o : Nat → Int64) : (lh_r f c1 c2 o).1 = (if f.1 = 0 then nI 0 else if f.1 = 1 then c1 else c2) ∧ (lh_r f c1 c2 o).2.1 = f.2.2 ∧ (f.1 = 0 → (lh_r f c1 c2 o).2.2 0 = f.2.1.toInt64) := by
  unfold lh_r
  by_cases h0 : f.1 = 0
  · simp [h0, vp_updL]
  · by_cases h1 : f.1 = 1
    · simp [h1]
    · simp [h0, h1]
theorem lh_v_1 (f : me_F) (c1 c2 : Int32) (o : Nat → Int64) : (lh_v f c1 c2 o).1 = (if f.1 = 0 then nI 0 else if f.1 = 1 then c1 else c2) ∧ (lh_v f c1 c2 o).2.1 = f.2.2 ∧ (lh_v f c1 c2 o).2.2 = o := by
  unfold lh_v
  by_cases h0 : f.1 = 0
  · simp [h0]
  · by_cases h1 : f.1 = 1
    · simp [h1]
    · simp [h0, h1]
