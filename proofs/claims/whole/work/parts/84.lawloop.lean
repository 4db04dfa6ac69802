/-! THE LAW'S LOOP -/
theorem lw_sub6 {L : Nat} (hL : L ≤ 3072) : (nI L - nI 6).toInt = (L : Int) - 6 := by
  rw [Int32.toInt_sub, nI_toInt (by omega), nI_toInt (by decide)]
  simp only [Int.bmod]
  omega
theorem lw_gt {L i : Nat} (hL : L ≤ 3072) (hi : i ≤ 3078) : nI L - nI 6 < nI i ↔ L < i + 6 := by
  rw [Int32.lt_iff_toInt_lt, lw_sub6 hL, nI_toInt (by omega)]
  omega
section LWD
variable {p : Program} {l : Launch} {e : Env} {s : State} {m : MethodId} {below : List Frame} {meth : Method} {c : Code}
variable {D : va_G} {sa : Nat → Nat} {cy : Nat → ClassId} {ad bd : Nat → Nat} {ao b L : Nat} {xs : Nat → Int32}
set_option maxRecDepth 100000 in
set_option maxHeartbeats 4000000 in
theorem law_loop (C : lw_C p l s m c b L xs D cy sa) (hret : meth.sig.returnType = ret) (hlocks : meth.locks = false) : ∀ (n t : Nat) (σ τ : me_M) (o : Nat → Int64) (H : Heap) (locs : List Loc) (ls : Array Slot), L < 6 * t + 6 + n → 6 * t ≤ L → rl (1 + 40 * t) σ τ → va_P D vwCl (lw_W cy ad bd ao σ τ o) H → va_D (lw_A s) (lw_W cy ad bd ao σ τ o) → va_S (lw_A s) s.heap H locs → lv_has ls 7 (lw_L b ad bd ao (nI (6 * t))) → W p l e room_1 s m #[Value.ref b] below meth c H locs (122 + t) (1229 + 6 * t) (lw_Z below #[Value.ref b] s) (F0 m 23 ls []) := by
  intro n
  induction n with
  | zero =>
    intro t σ τ o H locs ls hn ht h hP hD hS hl
    obtain ⟨⟨hx, hb, hml, hown, hts⟩, ⟨hX, hbl, hL⟩, hln, hE, hNc, hK⟩ := C
    refine lv_iload hx hb dL_law_23 (lv_at hl 0 rfl) ?_
    refine lv_aload_n hx hb dL_law_25 rfl (lv_at hl 4 rfl) ?_
    refine va_slen hx hb hX hbl (by show ¬ s.heap.size ≤ b; omega) hS dL_law_26 ?_
    refine lv_bipush (v := nI 6) hx hb dL_law_27 (by decide) ?_
    refine lv_isub hx hb dL_law_29 ?_
    refine lv_icmp_gt (tgt := 707) hx hb dL_law_30 (by decide) (fun _ => ?_) (fun q => absurd ((lw_gt hL (by omega)).mpr (by omega)) q)
    refine lv_iconst (v := 1) hx hb dL_law_707 (by decide) ?_
    exact va_forget hS.2.2 (W.widen (by omega) (by omega) (lw_ret hx hb hret hlocks dL_law_708))
  | succ n ih =>
    intro t σ τ o H locs ls hn ht h hP hD hS hl
    have C0 := C
    obtain ⟨⟨hx, hb, hml, hown, hts⟩, ⟨hX, hbl, hL⟩, hln, hE, hNc, hK⟩ := C
    refine lv_iload hx hb dL_law_23 (lv_at hl 0 rfl) ?_
    refine lv_aload_n hx hb dL_law_25 rfl (lv_at hl 4 rfl) ?_
    refine va_slen hx hb hX hbl (by show ¬ s.heap.size ≤ b; omega) hS dL_law_26 ?_
    refine lv_bipush (v := nI 6) hx hb dL_law_27 (by decide) ?_
    refine lv_isub hx hb dL_law_29 ?_
    refine lv_icmp_gt (tgt := 707) hx hb dL_law_30 (by decide) (fun _ => ?_) (fun q => ?_)
    · refine lv_iconst (v := 1) hx hb dL_law_707 (by decide) ?_
      exact va_forget hS.2.2 (W.widen (by omega) (by omega) (lw_ret hx hb hret hlocks dL_law_708))
    have h6 : 6 * t + 6 ≤ L := by
      have := (not_congr (lw_gt (i := 6 * t) hL (by omega))).mp q
      omega
    have hB : 1 + 40 * t ≤ 80000 := by omega
    have hcs : (122 + t) + 1 ≤ 641281 ∧ (1229 + 6 * t) + 6 ≤ 7172261 := by omega
    have NX : ∀ (σ τ : me_M) (o : Nat → Int64) (H : Heap) (locs : List Loc) (ls : Array Slot), rl (1 + 40 * t + 40) σ τ → va_P D vwCl (lw_W cy ad bd ao σ τ o) H → va_D (lw_A s) (lw_W cy ad bd ao σ τ o) → va_S (lw_A s) s.heap H locs → lv_has ls 7 (lw_L b ad bd ao (nI (6 * t))) → W p l e room_1 s m #[Value.ref b] below meth c H locs (122 + t + 1) (1229 + 6 * t + 6) (lw_Z below #[Value.ref b] s) (F0 m 701 ls []) := by
      intro σ τ o H locs ls h hP hD hS hl
      refine lv_iinc (v := nI (6 * (t + 1))) (lv' := lw_L b ad bd ao (nI (6 * (t + 1)))) hx hb dL_law_701 hl (k := 0) rfl (by rw [show Int32.ofInt 6 = nI 6 by decide, nI_add, show 6 * t + 6 = 6 * (t + 1) by omega]) (by decide) rfl (fun ls hl => ?_)
      refine lv_goto (tgt := 23) hx hb dL_law_704 (by decide) ?_
      exact W.widen (by omega) (by omega) (ih (t + 1) σ τ o H locs ls (by omega) (by omega) (h.mono (by omega)) hP hD hS hl)
    refine lv_aload_n hx hb dL_law_33 rfl (lv_at hl 4 rfl) ?_
    refine lv_iload hx hb dL_law_34 (lv_at hl 0 rfl) ?_
    refine va_sld hx hb hX hbl (by show ¬ s.heap.size ≤ b; omega) hS (vp_in_nI (by omega) (by omega)) dL_law_36 ?_
    refine lv_bipush (v := nI 15) hx hb dL_law_37 (by decide) ?_
    refine lv_iand hx hb dL_law_39 ?_
    obtain ⟨j, hj, ej⟩ := pk_andE (xs (nI (6 * t)).toNatClampNeg) (m := nI 15) 4 (by decide)
    rw [ej]
    have hj : j < 16 := hj
    have go : ∀ (i tgt : Nat) (off : Int), i < 11 → (#[60, 164, 232, 245, 289, 333, 369, 413, 457, 537, 605] : Array Int)[i]? = some off → (40 : Int) + off = (tgt : Int) → W p l e room_1 s m #[Value.ref b] below meth c H locs (122 + t) (1229 + 6 * t) (lw_Z below #[Value.ref b] s) (F0 m tgt ls []) → W p l e room_1 s m #[Value.ref b] below meth c H locs (122 + t) (1229 + 6 * t) (lw_Z below #[Value.ref b] s) (F0 m 40 ls [.int (nI i)]) := by
      intro i tgt off hi ho htg k
      refine lv_tableIn (off := off) (tgt := tgt) hx hb dL_law_40 (by rw [nI_toInt (by omega)]; omega) (by rw [nI_toInt (by omega)]; omega) (by rw [nI_toInt (by omega), show ((i : Int) - 0).toNat = i by omega]; exact ho) htg k
    rcases (show j = 0 ∨ j = 1 ∨ j = 2 ∨ j = 3 ∨ j = 4 ∨ j = 5 ∨ j = 6 ∨ j = 7 ∨ j = 8 ∨ j = 9 ∨ j = 10 ∨ 11 ≤ j by omega) with rfl | rfl | rfl | rfl | rfl | rfl | rfl | rfl | rfl | rfl | rfl | h11
    · exact go 0 100 60 (by decide) rfl (by decide) (law_change C0 h6 hB hcs h hP hD hS hl NX)
    · exact go 1 204 164 (by decide) rfl (by decide) (law_read C0 h6 hB hcs h hP hD hS hl NX)
    · exact go 2 272 232 (by decide) rfl (by decide) (law_got C0 h6 hB hcs h hP hD hS hl NX)
    · exact go 3 285 245 (by decide) rfl (by decide) (law_sync C0 h6 hB hcs h hP hD hS hl NX)
    · exact go 4 329 289 (by decide) rfl (by decide) (law_checkpoint C0 h6 hB hcs h hP hD hS hl NX)
    · exact go 5 373 333 (by decide) rfl (by decide) (law_power C0 h6 hB hcs h hP hD hS hl NX)
    · exact go 6 409 369 (by decide) rfl (by decide) (law_recover C0 h6 hB hcs h hP hD hS hl NX)
    · exact go 7 453 413 (by decide) rfl (by decide) (law_cut C0 h6 hB hcs h hP hD hS hl NX)
    · exact go 8 497 457 (by decide) rfl (by decide) (law_disk C0 h6 hB hcs h hP hD hS hl NX)
    · exact go 9 577 537 (by decide) rfl (by decide) (law_frame C0 h6 hB hcs h hP hD hS hl NX)
    · exact go 10 645 605 (by decide) rfl (by decide) (law_count C0 h6 hB hcs h hP hD hS hl NX)
    · refine lv_tableOut (tgt := 701) hx hb dL_law_40 (Or.inr (by rw [nI_toInt (by omega)]; omega)) (by decide) ?_
      exact W.widen (Nat.le_succ _) (Nat.le_add_right _ 6) (NX σ τ o H locs ls (h.mono (by omega)) hP hD hS hl)
end LWD
