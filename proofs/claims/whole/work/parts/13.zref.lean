/-! METHODS THAT ANSWER A FRAME OR NONE: the frame's number is told as an int, z stands for none -/
def me_fv (ad : Nat → Nat) (z x : Int32) : Option Nat := if x = z then none else some (ad (94 + 2 * x.toNatClampNeg))
def me_pf (ad : Nat → Nat) (z : Int32) (f : Int32 × me_M) : Option Nat → me_M → Prop := fun r σ' => ∃ x : Int32, r = me_fv ad z x ∧ (x, σ') = f
def me_Cf (l : Launch) (y : MethodName) (ws : List Cond) (rm : Room) (D : va_G) (tys : List (ClassId × FieldType)) (w : me_M → va_W) (av : List Value) (sz : Nat) (σ : me_M) (ad : Nat → Nat) (z : Int32) (f : Int32 × me_M) : Prop :=
  Met l y ws rm (va_Pc av (me_P D tys (w σ) sz)) (va_Qq (me_pf ad z f) (me_B D tys (va_A (w σ) sz) w) (va_A (w σ) sz)) 0 0 (va_A (w σ) sz)
section MEF
variable {p : Program} {l : Launch} {e : Env} {R : Room} {s : State} {m : MethodId} {args : Array Value} {below : List Frame} {meth : Method} {c : Code} {H : Heap} {locs : List Loc} {cells slots : Nat} {Q : State → Prop}
variable {cc : ByteArray} {pc : Nat} {ls : Array Slot} {rest st : List Value} {D : va_G} {A : Nat → Prop} {b : Nat} {tys : List (ClassId × FieldType)} {ad : Nat → Nat} {σ : me_M} {w : me_M → va_W}
variable {y : MethodName} {bytes : ByteArray} {maxL nL n index : Nat} {ret : Option FieldType} {ws : List Cond} {rm : Room} {Ts : List Cond} {own C : String} {As : List Value}
theorem me_callf {f : Int32 × me_M} {z : Int32} (S : CallFix p m c cc nL s args Ts own) (hM : ∀ sz, me_Cf l y ws rm D tys w (.ref b :: As) sz σ ad z f) (cw : CallW R s args own C index y bytes maxL ret ws rm 0 0 n)
    (hrec : ∃ cell : Cell, H[b]? = some cell ∧ cell.vm.isStatics = false ∧ s.vm.findClass C = some cell.cls) (hK : va_K D vwCl tys s) (hP : va_P D vwCl (w σ) H) (hD : va_D A (w σ)) (hS : va_S A s.heap H locs) (hA : ∀ q, s.heap.size ≤ q → A q)
    (hn : As.length = n) (hsize : ls.size = nL) (hst : st = As.reverse ++ .ref b :: rest) (hW : (rest.map fun v => v.category).sum ≤ 8) (hdg : decode cc pc = .ok (.invokevirtual index, 3)) (hf : cells ≤ R.cells ∧ slots ≤ R.slots)
    (kn : ∀ (r : Int32) (σ1 : me_M) (H1 : Heap) (locs1 : List Loc), f = (r, σ1) → r = z → va_P D vwCl (w σ1) H1 → va_D A (w σ1) → va_S A s.heap H1 locs1 → W p l e R s m args below meth c H1 locs1 cells slots Q (F0 m (pc + 3) ls (.null :: rest)))
    (ks : ∀ (r : Int32) (σ1 : me_M) (H1 : Heap) (locs1 : List Loc), f = (r, σ1) → ¬ r = z → va_P D vwCl (w σ1) H1 → va_D A (w σ1) → va_S A s.heap H1 locs1 → W p l e R s m args below meth c H1 locs1 cells slots Q (F0 m (pc + 3) ls (.ref (ad (94 + 2 * r.toNatClampNeg)) :: rest))) : W p l e R s m args below meth c H locs cells slots Q (F0 m pc ls st) := by
  have hF := me_free hD hS hA
  refine va_callq (va_runV (As := As) (rest := rest) S (hM H.size) cw ⟨me_blind, hrec, me_pre hK hP hD⟩ rfl hn hsize hst (by simpa using hW) hdg hf) hS (fun q _ h => hF q h) hF (fun r u t H1 locs1 ht hvm hw hB hz1 hk1 hS1 => ?_)
  obtain ⟨hP1, hK1, hD1⟩ := hB
  rw [ht] at hP1
  have hD2 := hD1.weaken (fun k q _ h => hF q.1 h)
  obtain ⟨x, hr, hx⟩ := hw
  by_cases hc : x = z
  · have e9 : va_rf r = .null := by rw [hr]; unfold me_fv; rw [if_pos hc]; rfl
    rw [e9]
    exact kn _ _ H1 locs1 hx.symm hc hP1 hD2 hS1
  · have e9 : va_rf r = .ref (ad (94 + 2 * x.toNatClampNeg)) := by rw [hr]; unfold me_fv; rw [if_neg hc]; rfl
    rw [e9]
    exact ks _ _ H1 locs1 hx.symm hc hP1 hD2 hS1
theorem me_callg {f z : Int32} (S : CallFix p m c cc nL s args Ts own) (hM : ∀ sz, me_Cf l y ws rm D tys w (.ref b :: As) sz σ ad z (f, σ)) (cw : CallW R s args own C index y bytes maxL ret ws rm 0 0 n)
    (hrec : ∃ cell : Cell, H[b]? = some cell ∧ cell.vm.isStatics = false ∧ s.vm.findClass C = some cell.cls) (hK : va_K D vwCl tys s) (hP : va_P D vwCl (w σ) H) (hD : va_D A (w σ)) (hS : va_S A s.heap H locs) (hA : ∀ q, s.heap.size ≤ q → A q)
    (hn : As.length = n) (hsize : ls.size = nL) (hst : st = As.reverse ++ .ref b :: rest) (hW : (rest.map fun v => v.category).sum ≤ 8) (hdg : decode cc pc = .ok (.invokevirtual index, 3)) (hf : cells ≤ R.cells ∧ slots ≤ R.slots)
    (kn : ∀ (r : Int32) (H1 : Heap) (locs1 : List Loc), f = r → r = z → va_P D vwCl (w σ) H1 → va_D A (w σ) → va_S A s.heap H1 locs1 → W p l e R s m args below meth c H1 locs1 cells slots Q (F0 m (pc + 3) ls (.null :: rest)))
    (ks : ∀ (r : Int32) (H1 : Heap) (locs1 : List Loc), f = r → ¬ r = z → va_P D vwCl (w σ) H1 → va_D A (w σ) → va_S A s.heap H1 locs1 → W p l e R s m args below meth c H1 locs1 cells slots Q (F0 m (pc + 3) ls (.ref (ad (94 + 2 * r.toNatClampNeg)) :: rest))) : W p l e R s m args below meth c H locs cells slots Q (F0 m pc ls st) := by
  refine me_callf S hM cw hrec hK hP hD hS hA hn hsize hst hW hdg hf (fun r σ1 H1 locs1 he hc hP1 hD1 hS1 => ?_) (fun r σ1 H1 locs1 he hc hP1 hD1 hS1 => ?_)
  · obtain ⟨h1, h2⟩ := Prod.mk.inj he
    rw [← h2] at hP1 hD1
    exact kn r H1 locs1 h1 hc hP1 hD1 hS1
  · obtain ⟨h1, h2⟩ := Prod.mk.inj he
    rw [← h2] at hP1 hD1
    exact ks r H1 locs1 h1 hc hP1 hD1 hS1
theorem me_retn {f : Int32 × me_M} {z : Int32} (hexec : p.tables.exec = Jvm.exec) (hb : c.code = cc) {C0 : String} (hr : meth.sig.returnType = some (.object C0)) (hlocks : meth.locks = false) (hK : va_K D vwCl tys s) (hP : va_P D vwCl (w σ) H) (hD : va_D A (w σ)) (hS : va_S A s.heap H locs) (hf : (z, σ) = f) (hdg : decode cc pc = .ok (.areturn, 1)) :
    W p l e R s m args below meth c H locs 0 0 (MQ below (va_Qq (me_pf ad z f) (me_B D tys A w) A) args s 0 0 A) (F0 m pc ls [.null]) :=
  W.aret (v := .null) hexec hb hr (Or.inl ⟨C0, rfl⟩) (Or.inl rfl) (fun t ht hW => ⟨⟨none, σ, rfl, ⟨z, by unfold me_fv; rw [if_pos rfl], hf⟩, by rw [ht]; exact hP, va_K.moved hW.alike hK, hD⟩, hS.F ht⟩) hS.2.2 hdg hlocks
theorem me_retk {f : Int32 × me_M} {z x : Int32} {k : Nat} (hexec : p.tables.exec = Jvm.exec) (hb : c.code = cc) {C0 : String} (hr : meth.sig.returnType = some (.object C0)) (hlocks : meth.locks = false) (hK : va_K D vwCl tys s) (hP : va_P D vwCl (w σ) H) (hD : va_D A (w σ)) (hS : va_S A s.heap H locs) (hv : vp_in x 4) (hk : x.toNatClampNeg = k) (hz : z < 0) (hf : (x, σ) = f) (hdg : decode cc pc = .ok (.areturn, 1)) :
    W p l e R s m args below meth c H locs 0 0 (MQ below (va_Qq (me_pf ad z f) (me_B D tys A w) A) args s 0 0 A) (F0 m pc ls [.ref (ad (94 + 2 * k))]) := by
  subst hk
  have hc : ¬ x = z := fun q => hv (Or.inl (by rw [q]; exact hz))
  exact W.aret (v := .ref (ad (94 + 2 * x.toNatClampNeg))) hexec hb hr (Or.inl ⟨C0, rfl⟩) (Or.inr ⟨_, rfl⟩) (fun t ht hW => ⟨⟨some (ad (94 + 2 * x.toNatClampNeg)), σ, rfl, ⟨x, by unfold me_fv; rw [if_neg hc], hf⟩, by rw [ht]; exact hP, va_K.moved hW.alike hK, hD⟩, hS.F ht⟩) hS.2.2 hdg hlocks
end MEF
theorem me_avf {l : Launch} {y : MethodName} {ws : List Cond} {rm : Room} {D : va_G} {tys : List (ClassId × FieldType)} {w : me_M → va_W} {av av' : List Value} {sz : Nat} {σ : me_M} {ad : Nat → Nat} {z : Int32} {f : Int32 × me_M} (h : av = av') (k : me_Cf l y ws rm D tys w av sz σ ad z f) : me_Cf l y ws rm D tys w av' sz σ ad z f := h ▸ k
/-- an index that is looked at and is in -/
theorem pu_isIn1 {x : Int32} {k : Nat} (hk : k < 2 ^ 31) (h : vp_in x k) : ¬ k_isIn x (nI k) = 0 := by
  have h0 : ¬ x < 0 := fun q => h (Or.inl q)
  have h1 := me_inb h
  obtain ⟨j, hj, rfl⟩ := nI_of h0
  rw [nI_clamp hj] at h1
  have h2 : ¬ nI k ≤ nI j := fun q => absurd ((nI_leI hk hj).mp q) (by omega)
  unfold k_isIn
  rw [if_neg h0, if_neg h2]
  decide
