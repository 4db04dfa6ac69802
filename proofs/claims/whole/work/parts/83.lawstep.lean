/-! THE LAW'S STEPS: each from its own place to 701 -/
abbrev lw_A (s : State) : Nat → Prop := fun q => s.heap.size ≤ q
def lw_C (p : Program) (l : Launch) (s : State) (m : MethodId) (c : Code) (b L : Nat) (xs : Nat → Int32) (D : va_G) (cy : Nat → ClassId) (sa : Nat → Nat) : Prop :=
  CallFix p m c cL_law 7 s #[Value.ref b] wsL_law RL ∧ (va_X b L xs s s.heap ∧ b < s.heap.size ∧ L ≤ 3072) ∧ l.stackTraces = false ∧ ex_E sa (lw_A s) s s.heap ∧ va_Nc (ex_N 2) (ex_N 1) s ∧ va_K D vwCl (me_T cy) s
abbrev lw_L (b : Nat) (ad bd : Nat → Nat) (ao : Nat) (i : Int32) : List (Nat × Value) := [(4, .int i), (3, .ref ao), (2, .ref (bd 0)), (1, .ref (ad 0)), (0, .ref b)]
theorem lw_AA (s : State) : ∀ q, s.heap.size ≤ q → lw_A s q := fun _ h => h
theorem lw_fact {B : Nat} {f : me_F} {c1 c2 : Int32} {o : Nat → Int64} {q : Int32} {τ' : me_M} (h : r_ans B f c1 c2 q τ') (n1 : f.1 = 1 → ¬ c1 = 0) (n2 : ¬ f.1 = 0 → ¬ f.1 = 1 → ¬ c2 = 0) : rl B (lh_r f c1 c2 o).2.1 τ' ∧ τ' 0 0 = (lh_r f c1 c2 o).1 ∧ ((lh_r f c1 c2 o).1 = 0 → (lh_r f c1 c2 o).2.2 0 = q.toInt64) := by
  obtain ⟨h1, h2, h3⟩ := h
  obtain ⟨g1, g2, g3⟩ := lh_r_1 f c1 c2 o
  refine ⟨by rw [g2]; exact h1, h2.trans g1.symm, fun hv => ?_⟩
  have h0 : f.1 = 0 := by
    refine Classical.byContradiction fun hn => ?_
    rw [g1, if_neg hn] at hv
    by_cases k1 : f.1 = 1
    · rw [if_pos k1] at hv
      exact n1 k1 hv
    · rw [if_neg k1] at hv
      exact n2 hn k1 hv
  rw [g3 h0, h3 h0]
theorem lw_no1 {f : me_F} (hn : ∀ (r : Int32) (s1 : me_M), ¬ f = (1, r, s1)) (q : f.1 = 1) : False := hn f.2.1 f.2.2 (by rw [← q])
theorem lw_n1 : ¬ nI 1 = 0 := by decide
theorem lw_n2 : ¬ nI 2 = 0 := by decide
section LWB
variable {p : Program} {l : Launch} {e : Env} {s : State} {m : MethodId} {below : List Frame} {meth : Method} {c : Code} {H : Heap} {locs : List Loc} {cells slots : Nat} {Q : State → Prop}
variable {pc : Nat} {ls : Array Slot} {rest : List Value} {D : va_G} {σ τ : me_M} {o : Nat → Int64} {sa : Nat → Nat} {cy : Nat → ClassId} {ad bd : Nat → Nat} {ao b L t B : Nat} {xs : Nat → Int32}
/-- an argument out of the script -/
theorem lw_arg (C : lw_C p l s m c b L xs D cy sa) (hS : va_S (lw_A s) s.heap H locs) (h0 : ls[0]? = some (Slot.val (Value.ref b))) (h4 : ls[4]? = some (Slot.val (Value.int (nI (6 * t))))) (k : Nat) (hk : 6 * t + k < L) {n : Int} (hn : Int32.ofInt n = nI k)
    (d0 : decode cL_law pc = .ok (.aload_n 0, 1)) (d1 : decode cL_law (pc + 1) = .ok (.iload 4, 2)) (d2 : decode cL_law (pc + 1 + 2) = .ok (.iconst n, 1)) (d3 : decode cL_law (pc + 1 + 2 + 1) = .ok (.iadd, 1)) (d4 : decode cL_law (pc + 1 + 2 + 1 + 1) = .ok (.iaload, 1))
    (kk : W p l e room_1 s m #[Value.ref b] below meth c H locs cells slots Q (F0 m (pc + 6) ls (.int (xs (6 * t + k)) :: rest))) : W p l e room_1 s m #[Value.ref b] below meth c H locs cells slots Q (F0 m pc ls rest) := by
  obtain ⟨⟨hx, hb, hml, hown, hts⟩, ⟨hX, hbl, hL⟩, -⟩ := C
  refine lv_aload_n hx hb d0 rfl h0 ?_
  refine lv_iload hx hb d1 h4 ?_
  refine lv_iconst (v := nI k) hx hb d2 hn ?_
  refine lv_iadd hx hb d3 ?_
  rw [nI_add]
  refine va_sld hx hb hX hbl (by show ¬ s.heap.size ≤ b; omega) hS (vp_in_nI hk (by omega)) d4 ?_
  rw [nI_clamp (by omega)]
  exact kk
/-- the end of a step: what both threw, and if nothing, what both answered -/
theorem lw_tail (C : lw_C p l s m c b L xs D cy sa) (hcs : cells ≤ 641281 ∧ slots ≤ 7172261) {n : Nat} {off : Int} {i v q : Int32} (hP : va_P D vwCl (lw_W cy ad bd ao σ τ o) H) (hD : va_D (lw_A s) (lw_W cy ad bd ao σ τ o)) (hS : va_S (lw_A s) s.heap H locs)
    (hl : lv_has ls 7 ((6, .int q) :: (5, .int v) :: lw_L b ad bd ao i)) (hv : τ 0 0 = v) (hq : v = 0 → o 0 = q.toInt64)
    (d0 : decode cL_law n = .ok (.aload_n 2, 1)) (d1 : decode cL_law (n + 1) = .ok (.invokevirtual 59, 3)) (d2 : decode cL_law (n + 1 + 3) = .ok (.iload 5, 2)) (d3 : decode cL_law (n + 1 + 3 + 2) = .ok (.if_icmp .eq 5, 3)) (d4 : decode cL_law (n + 11) = .ok (.iload 5, 2)) (d5 : decode cL_law (n + 11 + 2) = .ok (.ifCond .ne 15, 3)) (d6 : decode cL_law (n + 11 + 2 + 3) = .ok (.aload_n 3, 1)) (d7 : decode cL_law (n + 11 + 2 + 3 + 1) = .ok (.iconst 0, 1)) (d8 : decode cL_law (n + 11 + 2 + 3 + 1 + 1) = .ok (.laload, 1)) (d9 : decode cL_law (n + 11 + 2 + 3 + 1 + 1 + 1) = .ok (.iload 6, 2)) (d10 : decode cL_law (n + 11 + 2 + 3 + 1 + 1 + 1 + 2) = .ok (.i2l, 1)) (d11 : decode cL_law (n + 11 + 2 + 3 + 1 + 1 + 1 + 2 + 1) = .ok (.lcmp, 1)) (d12 : decode cL_law (n + 11 + 2 + 3 + 1 + 1 + 1 + 2 + 1 + 1) = .ok (.ifCond .eq 5, 3)) (d13 : decode cL_law (n + 28) = .ok (.goto off, 3)) (ho : ((n + 28 : Nat) : Int) + off = ((701 : Nat) : Int))
    (kk : ∀ (H : Heap) (locs : List Loc), va_P D vwCl (lw_W cy ad bd ao σ τ o) H → va_D (lw_A s) (lw_W cy ad bd ao σ τ o) → va_S (lw_A s) s.heap H locs → lv_has ls 7 (lw_L b ad bd ao i) → W p l e room_1 s m #[Value.ref b] below meth c H locs cells slots Q (F0 m 701 ls [])) :
    W p l e room_1 s m #[Value.ref b] below meth c H locs cells slots Q (F0 m n ls []) := by
  obtain ⟨⟨hx, hb, hml, hown, hts⟩, -, -, -, -, hK⟩ := C
  have hl0 := lv_sub hl [2, 3, 4, 5, 6] rfl
  refine lv_aload_n hx hb d0 rfl (lv_at hl 4 rfl) ?_
  refine lw_mi (As := []) (rest := []) ⟨hx, hb, hml, hown, hts⟩ (fun sz => c_X4_thrown l D cy bd (kk_W cy ad [lh_o cy ao o] σ) τ sz) (cwV 0 hts gL_law_X4_thrown rfl rfl rfl (by decide +kernel) ⟨Nat.le_of_ble_eq_true rfl, Nat.le_of_ble_eq_true rfl⟩) hK hP hD hS (lw_AA s) rfl hl.1 rfl (Nat.le_of_ble_eq_true rfl) d1 hcs (fun H locs hP hD hS => ?_)
  refine me_top (z := v) hv ?_
  refine lv_iload hx hb d2 (lv_at hl 1 rfl) ?_
  have kend : W p l e room_1 s m #[Value.ref b] below meth c H locs cells slots Q (F0 m (n + 28) ls []) := lv_goto (tgt := 701) hx hb d13 ho (kk H locs hP hD hS hl0)
  refine lv_icmp_eq (tgt := n + 11) hx hb d3 (by omega) (fun _ => ?_) (fun hne => absurd rfl hne)
  refine lv_iload hx hb d4 (lv_at hl 1 rfl) ?_
  refine lv_if_ne (tgt := n + 28) hx hb d5 (by omega) (fun _ => kend) (fun hv0 => ?_)
  refine lv_aload_n hx hb d6 rfl (lv_at hl 3 rfl) ?_
  refine lv_iconst (v := nI 0) hx hb d7 (by decide) ?_
  refine va_lald hx hb hK hP 102 2 lh_get rfl (i := nI 0) (vp_in_nI (by decide) (by decide)) d8 ?_
  rw [nI_clamp (by decide), hq hv0]
  refine lv_iload hx hb d9 (lv_at hl 0 rfl) ?_
  refine lv_i2l (v := q.toInt64) hx hb d10 rfl ?_
  refine W.lcmp hx hb d11 ?_
  rw [lg_cmp_self]
  exact lv_if_eq (tgt := n + 28) hx hb d12 (by omega) (fun _ => kend) (fun hne => absurd rfl hne)
end LWB

section LWC
variable {p : Program} {l : Launch} {e : Env} {s : State} {m : MethodId} {below : List Frame} {meth : Method} {c : Code} {H : Heap} {locs : List Loc} {cells slots : Nat} {Q : State → Prop}
variable {pc : Nat} {ls : Array Slot} {rest : List Value} {D : va_G} {σ τ : me_M} {o : Nat → Int64} {sa : Nat → Nat} {cy : Nat → ClassId} {ad bd : Nat → Nat} {ao b L t B : Nat} {xs : Nat → Int32}

set_option maxRecDepth 100000 in
set_option maxHeartbeats 4000000 in
theorem law_change (C : lw_C p l s m c b L xs D cy sa) (ht : 6 * t + 6 ≤ L) (hB : B ≤ 80000) (hcs : cells + 1 ≤ 641281 ∧ slots + 6 ≤ 7172261) (h : rl B σ τ) (hP : va_P D vwCl (lw_W cy ad bd ao σ τ o) H) (hD : va_D (lw_A s) (lw_W cy ad bd ao σ τ o)) (hS : va_S (lw_A s) s.heap H locs) (hl : lv_has ls 7 (lw_L b ad bd ao (nI (6 * t))))
    (kk : ∀ (σ τ : me_M) (o : Nat → Int64) (H : Heap) (locs : List Loc) (ls : Array Slot), rl (B + 40) σ τ → va_P D vwCl (lw_W cy ad bd ao σ τ o) H → va_D (lw_A s) (lw_W cy ad bd ao σ τ o) → va_S (lw_A s) s.heap H locs → lv_has ls 7 (lw_L b ad bd ao (nI (6 * t))) → W p l e room_1 s m #[Value.ref b] below meth c H locs (cells + 1) (slots + 6) Q (F0 m 701 ls [])) : W p l e room_1 s m #[Value.ref b] below meth c H locs cells slots Q (F0 m 100 ls []) := by
  have C0 := C
  obtain ⟨⟨hx, hb, hml, hown, hts⟩, ⟨hX, hbl, hL⟩, hln, hE, hNc, hK⟩ := C
  have M1 := fun sz => c_L_change l hln D cy ad (mm_W cy bd [] τ) sa ao (xs (6 * t + 1)) (xs (6 * t + 2)) (xs (6 * t + 3)) (xs (6 * t + 4)) (xs (6 * t + 5)) σ o (rl_kI (by omega) h) sz
  have M2 := fun (σ : me_M) (o : Nat → Int64) (sz : Nat) => c_X4_change l D cy bd (kk_W cy ad [lh_o cy ao o] σ) (xs (6 * t + 1)) (xs (6 * t + 2)) (xs (6 * t + 3)) (xs (6 * t + 4)) (xs (6 * t + 5)) τ (rl_mI (by omega) h).1 (rl_mI (by omega) h).2.1 sz
  have F := lw_fact (o := o) (sim_chg (xs (6 * t + 1)) (xs (6 * t + 2)) (xs (6 * t + 3)) (xs (6 * t + 4)) (xs (6 * t + 5)) (by omega) h) (fun _ => lw_n1) (fun _ _ => lw_n2)
  have F := And.intro (F.1.mono (C := B + 40) (by omega)) F.2
  generalize lh_r (k_chg (xs (6 * t + 1)) (xs (6 * t + 2)) (xs (6 * t + 3)) (xs (6 * t + 4)) (xs (6 * t + 5)) σ) (nI 1) (nI 2) o = g at M1 F
  generalize m_chg (xs (6 * t + 1)) (xs (6 * t + 2)) (xs (6 * t + 3)) (xs (6 * t + 4)) (xs (6 * t + 5)) τ = g2 at M2 F
  obtain ⟨F1, F2, F3⟩ := F
  refine lv_aload_n hx hb dL_law_100 rfl (lv_at hl 3 rfl) ?_
  refine lw_arg C0 hS (lv_at hl 4 rfl) (lv_at hl 0 rfl) 1 (by omega) (n := 1) (by decide) dL_law_101 dL_law_102 dL_law_104 dL_law_105 dL_law_106 ?_
  refine lw_arg C0 hS (lv_at hl 4 rfl) (lv_at hl 0 rfl) 2 (by omega) (n := 2) (by decide) dL_law_107 dL_law_108 dL_law_110 dL_law_111 dL_law_112 ?_
  refine lw_arg C0 hS (lv_at hl 4 rfl) (lv_at hl 0 rfl) 3 (by omega) (n := 3) (by decide) dL_law_113 dL_law_114 dL_law_116 dL_law_117 dL_law_118 ?_
  refine lw_arg C0 hS (lv_at hl 4 rfl) (lv_at hl 0 rfl) 4 (by omega) (n := 4) (by decide) dL_law_119 dL_law_120 dL_law_122 dL_law_123 dL_law_124 ?_
  refine lw_arg C0 hS (lv_at hl 4 rfl) (lv_at hl 0 rfl) 5 (by omega) (n := 5) (by decide) dL_law_125 dL_law_126 dL_law_128 dL_law_129 dL_law_130 ?_
  refine lv_aload_n hx hb dL_law_131 rfl (lv_at hl 1 rfl) ?_
  refine lh_call (f := g) (w := lh_W cy ad ao (mm_W cy bd [] τ)) (σ := σ) (o := o) (hh := [(0, 16, 19, 13), (0, 16, 23, 15)]) (As := [.ref (ad 0), .int (xs (6 * t + 1)), .int (xs (6 * t + 2)), .int (xs (6 * t + 3)), .int (xs (6 * t + 4)), .int (xs (6 * t + 5)), .ref ao]) (rest := []) ⟨hx, hb, hml, hown, hts⟩ M1 (vx_cwSW 7 hts gL_law_L_change rfl rfl rfl (by decide +kernel) ⟨Nat.le_of_ble_eq_true rfl, Nat.le_of_ble_eq_true rfl⟩) hE hNc hK hP hD hS (lw_AA s) rfl hl.1 rfl (Nat.le_of_ble_eq_true rfl) dL_law_132 hcs (fun H locs hP hD hS => ?_)
  clear M1
  obtain ⟨v, σ, o⟩ := g
  refine lv_istore (lv' := (5, .int v) :: lw_L b ad bd ao (nI (6 * t))) hx hb dL_law_135 hl (by decide) rfl (fun ls hl => ?_)
  refine lv_aload_n hx hb dL_law_137 rfl (lv_at hl 3 rfl) ?_
  refine lw_arg C0 hS (lv_at hl 5 rfl) (lv_at hl 1 rfl) 1 (by omega) (n := 1) (by decide) dL_law_138 dL_law_139 dL_law_141 dL_law_142 dL_law_143 ?_
  refine lw_arg C0 hS (lv_at hl 5 rfl) (lv_at hl 1 rfl) 2 (by omega) (n := 2) (by decide) dL_law_144 dL_law_145 dL_law_147 dL_law_148 dL_law_149 ?_
  refine lw_arg C0 hS (lv_at hl 5 rfl) (lv_at hl 1 rfl) 3 (by omega) (n := 3) (by decide) dL_law_150 dL_law_151 dL_law_153 dL_law_154 dL_law_155 ?_
  refine lw_arg C0 hS (lv_at hl 5 rfl) (lv_at hl 1 rfl) 4 (by omega) (n := 4) (by decide) dL_law_156 dL_law_157 dL_law_159 dL_law_160 dL_law_161 ?_
  refine lw_arg C0 hS (lv_at hl 5 rfl) (lv_at hl 1 rfl) 5 (by omega) (n := 5) (by decide) dL_law_162 dL_law_163 dL_law_165 dL_law_166 dL_law_167 ?_
  refine lw_mi (f := g2) (As := [.int (xs (6 * t + 1)), .int (xs (6 * t + 2)), .int (xs (6 * t + 3)), .int (xs (6 * t + 4)), .int (xs (6 * t + 5))]) (rest := []) ⟨hx, hb, hml, hown, hts⟩ (M2 σ o) (cwV 5 hts gL_law_X4_change rfl rfl rfl (by decide +kernel) ⟨Nat.le_of_ble_eq_true rfl, Nat.le_of_ble_eq_true rfl⟩) hK hP hD hS (lw_AA s) rfl hl.1 rfl (Nat.le_of_ble_eq_true rfl) dL_law_168 hcs (fun H locs hP hD hS => ?_)
  obtain ⟨r, τ⟩ := g2
  refine lv_istore (lv' := (6, .int r) :: (5, .int v) :: lw_L b ad bd ao (nI (6 * t))) hx hb dL_law_171 hl (by decide) rfl (fun ls hl => ?_)
  exact lw_tail C0 hcs hP hD hS hl F2 F3 dL_law_173 dL_law_174 dL_law_177 dL_law_179 dL_law_184 dL_law_186 dL_law_189 dL_law_190 dL_law_191 dL_law_192 dL_law_194 dL_law_195 dL_law_196 dL_law_201 (by decide) (fun H locs hP hD hS hl => kk σ τ o H locs ls F1 hP hD hS hl)
set_option maxRecDepth 100000 in
set_option maxHeartbeats 4000000 in
theorem law_read (C : lw_C p l s m c b L xs D cy sa) (ht : 6 * t + 6 ≤ L) (hB : B ≤ 80000) (hcs : cells + 1 ≤ 641281 ∧ slots + 6 ≤ 7172261) (h : rl B σ τ) (hP : va_P D vwCl (lw_W cy ad bd ao σ τ o) H) (hD : va_D (lw_A s) (lw_W cy ad bd ao σ τ o)) (hS : va_S (lw_A s) s.heap H locs) (hl : lv_has ls 7 (lw_L b ad bd ao (nI (6 * t))))
    (kk : ∀ (σ τ : me_M) (o : Nat → Int64) (H : Heap) (locs : List Loc) (ls : Array Slot), rl (B + 40) σ τ → va_P D vwCl (lw_W cy ad bd ao σ τ o) H → va_D (lw_A s) (lw_W cy ad bd ao σ τ o) → va_S (lw_A s) s.heap H locs → lv_has ls 7 (lw_L b ad bd ao (nI (6 * t))) → W p l e room_1 s m #[Value.ref b] below meth c H locs (cells + 1) (slots + 6) Q (F0 m 701 ls [])) : W p l e room_1 s m #[Value.ref b] below meth c H locs cells slots Q (F0 m 204 ls []) := by
  have C0 := C
  obtain ⟨⟨hx, hb, hml, hown, hts⟩, ⟨hX, hbl, hL⟩, hln, hE, hNc, hK⟩ := C
  have M1 := fun sz => c_L_read l hln D cy ad (mm_W cy bd [] τ) sa ao (xs (6 * t + 1)) (xs (6 * t + 2)) σ o (rl_kI (by omega) h) sz
  have M2 := fun (σ : me_M) (o : Nat → Int64) (sz : Nat) => c_X4_read l D cy bd (kk_W cy ad [lh_o cy ao o] σ) (xs (6 * t + 1)) (xs (6 * t + 2)) τ (rl_mI (by omega) h).1 sz
  have F := lw_fact (o := o) (sim_read (xs (6 * t + 1)) (xs (6 * t + 2)) (by omega) h) (fun _ => lw_n1) (fun _ _ => lw_n2)
  have F := And.intro (F.1.mono (C := B + 40) (by omega)) F.2
  generalize lh_r (k_read (xs (6 * t + 1)) (xs (6 * t + 2)) σ) (nI 1) (nI 2) o = g at M1 F
  generalize m_read (xs (6 * t + 1)) (xs (6 * t + 2)) τ = g2 at M2 F
  obtain ⟨F1, F2, F3⟩ := F
  refine lv_aload_n hx hb dL_law_204 rfl (lv_at hl 3 rfl) ?_
  refine lw_arg C0 hS (lv_at hl 4 rfl) (lv_at hl 0 rfl) 1 (by omega) (n := 1) (by decide) dL_law_205 dL_law_206 dL_law_208 dL_law_209 dL_law_210 ?_
  refine lw_arg C0 hS (lv_at hl 4 rfl) (lv_at hl 0 rfl) 2 (by omega) (n := 2) (by decide) dL_law_211 dL_law_212 dL_law_214 dL_law_215 dL_law_216 ?_
  refine lv_aload_n hx hb dL_law_217 rfl (lv_at hl 1 rfl) ?_
  refine lh_call (f := g) (w := lh_W cy ad ao (mm_W cy bd [] τ)) (σ := σ) (o := o) (hh := [(0, 10, 13, 13), (0, 10, 17, 15)]) (As := [.ref (ad 0), .int (xs (6 * t + 1)), .int (xs (6 * t + 2)), .ref ao]) (rest := []) ⟨hx, hb, hml, hown, hts⟩ M1 (vx_cwSW 4 hts gL_law_L_read rfl rfl rfl (by decide +kernel) ⟨Nat.le_of_ble_eq_true rfl, Nat.le_of_ble_eq_true rfl⟩) hE hNc hK hP hD hS (lw_AA s) rfl hl.1 rfl (Nat.le_of_ble_eq_true rfl) dL_law_218 hcs (fun H locs hP hD hS => ?_)
  clear M1
  obtain ⟨v, σ, o⟩ := g
  refine lv_istore (lv' := (5, .int v) :: lw_L b ad bd ao (nI (6 * t))) hx hb dL_law_221 hl (by decide) rfl (fun ls hl => ?_)
  refine lv_aload_n hx hb dL_law_223 rfl (lv_at hl 3 rfl) ?_
  refine lw_arg C0 hS (lv_at hl 5 rfl) (lv_at hl 1 rfl) 1 (by omega) (n := 1) (by decide) dL_law_224 dL_law_225 dL_law_227 dL_law_228 dL_law_229 ?_
  refine lw_arg C0 hS (lv_at hl 5 rfl) (lv_at hl 1 rfl) 2 (by omega) (n := 2) (by decide) dL_law_230 dL_law_231 dL_law_233 dL_law_234 dL_law_235 ?_
  refine lw_mi (f := g2) (As := [.int (xs (6 * t + 1)), .int (xs (6 * t + 2))]) (rest := []) ⟨hx, hb, hml, hown, hts⟩ (M2 σ o) (cwV 2 hts gL_law_X4_read rfl rfl rfl (by decide +kernel) ⟨Nat.le_of_ble_eq_true rfl, Nat.le_of_ble_eq_true rfl⟩) hK hP hD hS (lw_AA s) rfl hl.1 rfl (Nat.le_of_ble_eq_true rfl) dL_law_236 hcs (fun H locs hP hD hS => ?_)
  obtain ⟨r, τ⟩ := g2
  refine lv_istore (lv' := (6, .int r) :: (5, .int v) :: lw_L b ad bd ao (nI (6 * t))) hx hb dL_law_239 hl (by decide) rfl (fun ls hl => ?_)
  exact lw_tail C0 hcs hP hD hS hl F2 F3 dL_law_241 dL_law_242 dL_law_245 dL_law_247 dL_law_252 dL_law_254 dL_law_257 dL_law_258 dL_law_259 dL_law_260 dL_law_262 dL_law_263 dL_law_264 dL_law_269 (by decide) (fun H locs hP hD hS hl => kk σ τ o H locs ls F1 hP hD hS hl)
set_option maxRecDepth 100000 in
set_option maxHeartbeats 4000000 in
theorem law_sync (C : lw_C p l s m c b L xs D cy sa) (ht : 6 * t + 6 ≤ L) (hB : B ≤ 80000) (hcs : cells + 1 ≤ 641281 ∧ slots + 6 ≤ 7172261) (h : rl B σ τ) (hP : va_P D vwCl (lw_W cy ad bd ao σ τ o) H) (hD : va_D (lw_A s) (lw_W cy ad bd ao σ τ o)) (hS : va_S (lw_A s) s.heap H locs) (hl : lv_has ls 7 (lw_L b ad bd ao (nI (6 * t))))
    (kk : ∀ (σ τ : me_M) (o : Nat → Int64) (H : Heap) (locs : List Loc) (ls : Array Slot), rl (B + 40) σ τ → va_P D vwCl (lw_W cy ad bd ao σ τ o) H → va_D (lw_A s) (lw_W cy ad bd ao σ τ o) → va_S (lw_A s) s.heap H locs → lv_has ls 7 (lw_L b ad bd ao (nI (6 * t))) → W p l e room_1 s m #[Value.ref b] below meth c H locs (cells + 1) (slots + 6) Q (F0 m 701 ls [])) : W p l e room_1 s m #[Value.ref b] below meth c H locs cells slots Q (F0 m 285 ls []) := by
  have C0 := C
  obtain ⟨⟨hx, hb, hml, hown, hts⟩, ⟨hX, hbl, hL⟩, hln, hE, hNc, hK⟩ := C
  have M1 := fun sz => c_L_sync l hln D cy ad (mm_W cy bd [] τ) sa ao  σ o (rl_kI (by omega) h) sz
  have M2 := fun (σ : me_M) (o : Nat → Int64) (sz : Nat) => c_X4_sync l D cy bd (kk_W cy ad [lh_o cy ao o] σ)  τ (rl_mI (by omega) h).1 sz
  have F := lw_fact (o := o) (sim_sync  (by omega) h) (fun q => (lw_no1 (pu_no1_sync σ) q).elim) (fun _ _ => lw_n1)
  have F := And.intro (F.1.mono (C := B + 40) (by omega)) F.2
  generalize lh_r (k_sync  σ) (nI 0) (nI 1) o = g at M1 F
  generalize m_sync  τ = g2 at M2 F
  obtain ⟨F1, F2, F3⟩ := F
  refine lv_aload_n hx hb dL_law_285 rfl (lv_at hl 3 rfl) ?_
  refine lv_aload_n hx hb dL_law_286 rfl (lv_at hl 1 rfl) ?_
  refine lh_call (f := g) (w := lh_W cy ad ao (mm_W cy bd [] τ)) (σ := σ) (o := o) (hh := [(0, 8, 11, 15)]) (As := [.ref (ad 0), .ref ao]) (rest := []) ⟨hx, hb, hml, hown, hts⟩ M1 (vx_cwSW 2 hts gL_law_L_sync rfl rfl rfl (by decide +kernel) ⟨Nat.le_of_ble_eq_true rfl, Nat.le_of_ble_eq_true rfl⟩) hE hNc hK hP hD hS (lw_AA s) rfl hl.1 rfl (Nat.le_of_ble_eq_true rfl) dL_law_287 hcs (fun H locs hP hD hS => ?_)
  clear M1
  obtain ⟨v, σ, o⟩ := g
  refine lv_istore (lv' := (5, .int v) :: lw_L b ad bd ao (nI (6 * t))) hx hb dL_law_290 hl (by decide) rfl (fun ls hl => ?_)
  refine lv_aload_n hx hb dL_law_292 rfl (lv_at hl 3 rfl) ?_
  refine lw_mi (f := g2) (As := []) (rest := []) ⟨hx, hb, hml, hown, hts⟩ (M2 σ o) (cwV 0 hts gL_law_X4_sync rfl rfl rfl (by decide +kernel) ⟨Nat.le_of_ble_eq_true rfl, Nat.le_of_ble_eq_true rfl⟩) hK hP hD hS (lw_AA s) rfl hl.1 rfl (Nat.le_of_ble_eq_true rfl) dL_law_293 hcs (fun H locs hP hD hS => ?_)
  obtain ⟨r, τ⟩ := g2
  refine lv_istore (lv' := (6, .int r) :: (5, .int v) :: lw_L b ad bd ao (nI (6 * t))) hx hb dL_law_296 hl (by decide) rfl (fun ls hl => ?_)
  exact lw_tail C0 hcs hP hD hS hl F2 F3 dL_law_298 dL_law_299 dL_law_302 dL_law_304 dL_law_309 dL_law_311 dL_law_314 dL_law_315 dL_law_316 dL_law_317 dL_law_319 dL_law_320 dL_law_321 dL_law_326 (by decide) (fun H locs hP hD hS hl => kk σ τ o H locs ls F1 hP hD hS hl)
set_option maxRecDepth 100000 in
set_option maxHeartbeats 4000000 in
theorem law_checkpoint (C : lw_C p l s m c b L xs D cy sa) (ht : 6 * t + 6 ≤ L) (hB : B ≤ 80000) (hcs : cells + 1 ≤ 641281 ∧ slots + 6 ≤ 7172261) (h : rl B σ τ) (hP : va_P D vwCl (lw_W cy ad bd ao σ τ o) H) (hD : va_D (lw_A s) (lw_W cy ad bd ao σ τ o)) (hS : va_S (lw_A s) s.heap H locs) (hl : lv_has ls 7 (lw_L b ad bd ao (nI (6 * t))))
    (kk : ∀ (σ τ : me_M) (o : Nat → Int64) (H : Heap) (locs : List Loc) (ls : Array Slot), rl (B + 40) σ τ → va_P D vwCl (lw_W cy ad bd ao σ τ o) H → va_D (lw_A s) (lw_W cy ad bd ao σ τ o) → va_S (lw_A s) s.heap H locs → lv_has ls 7 (lw_L b ad bd ao (nI (6 * t))) → W p l e room_1 s m #[Value.ref b] below meth c H locs (cells + 1) (slots + 6) Q (F0 m 701 ls [])) : W p l e room_1 s m #[Value.ref b] below meth c H locs cells slots Q (F0 m 329 ls []) := by
  have C0 := C
  obtain ⟨⟨hx, hb, hml, hown, hts⟩, ⟨hX, hbl, hL⟩, hln, hE, hNc, hK⟩ := C
  have M1 := fun sz => c_L_checkpoint l hln D cy ad (mm_W cy bd [] τ) sa ao  σ o (rl_kI (by omega) h) sz
  have M2 := fun (σ : me_M) (o : Nat → Int64) (sz : Nat) => c_X4_checkpoint l D cy bd (kk_W cy ad [lh_o cy ao o] σ)  τ (rl_mI (by omega) h).1 sz
  have F := lw_fact (o := o) (sim_cpt  (by omega) h) (fun q => (lw_no1 (pu_no1_checkpoint σ) q).elim) (fun _ _ => lw_n1)
  have F := And.intro (F.1.mono (C := B + 40) (by omega)) F.2
  generalize lh_r (k_cpt  σ) (nI 0) (nI 1) o = g at M1 F
  generalize m_cpt  τ = g2 at M2 F
  obtain ⟨F1, F2, F3⟩ := F
  refine lv_aload_n hx hb dL_law_329 rfl (lv_at hl 3 rfl) ?_
  refine lv_aload_n hx hb dL_law_330 rfl (lv_at hl 1 rfl) ?_
  refine lh_call (f := g) (w := lh_W cy ad ao (mm_W cy bd [] τ)) (σ := σ) (o := o) (hh := [(0, 8, 11, 15)]) (As := [.ref (ad 0), .ref ao]) (rest := []) ⟨hx, hb, hml, hown, hts⟩ M1 (vx_cwSW 2 hts gL_law_L_checkpoint rfl rfl rfl (by decide +kernel) ⟨Nat.le_of_ble_eq_true rfl, Nat.le_of_ble_eq_true rfl⟩) hE hNc hK hP hD hS (lw_AA s) rfl hl.1 rfl (Nat.le_of_ble_eq_true rfl) dL_law_331 hcs (fun H locs hP hD hS => ?_)
  clear M1
  obtain ⟨v, σ, o⟩ := g
  refine lv_istore (lv' := (5, .int v) :: lw_L b ad bd ao (nI (6 * t))) hx hb dL_law_334 hl (by decide) rfl (fun ls hl => ?_)
  refine lv_aload_n hx hb dL_law_336 rfl (lv_at hl 3 rfl) ?_
  refine lw_mi (f := g2) (As := []) (rest := []) ⟨hx, hb, hml, hown, hts⟩ (M2 σ o) (cwV 0 hts gL_law_X4_checkpoint rfl rfl rfl (by decide +kernel) ⟨Nat.le_of_ble_eq_true rfl, Nat.le_of_ble_eq_true rfl⟩) hK hP hD hS (lw_AA s) rfl hl.1 rfl (Nat.le_of_ble_eq_true rfl) dL_law_337 hcs (fun H locs hP hD hS => ?_)
  obtain ⟨r, τ⟩ := g2
  refine lv_istore (lv' := (6, .int r) :: (5, .int v) :: lw_L b ad bd ao (nI (6 * t))) hx hb dL_law_340 hl (by decide) rfl (fun ls hl => ?_)
  exact lw_tail C0 hcs hP hD hS hl F2 F3 dL_law_342 dL_law_343 dL_law_346 dL_law_348 dL_law_353 dL_law_355 dL_law_358 dL_law_359 dL_law_360 dL_law_361 dL_law_363 dL_law_364 dL_law_365 dL_law_370 (by decide) (fun H locs hP hD hS hl => kk σ τ o H locs ls F1 hP hD hS hl)
set_option maxRecDepth 100000 in
set_option maxHeartbeats 4000000 in
theorem law_recover (C : lw_C p l s m c b L xs D cy sa) (ht : 6 * t + 6 ≤ L) (hB : B ≤ 80000) (hcs : cells + 1 ≤ 641281 ∧ slots + 6 ≤ 7172261) (h : rl B σ τ) (hP : va_P D vwCl (lw_W cy ad bd ao σ τ o) H) (hD : va_D (lw_A s) (lw_W cy ad bd ao σ τ o)) (hS : va_S (lw_A s) s.heap H locs) (hl : lv_has ls 7 (lw_L b ad bd ao (nI (6 * t))))
    (kk : ∀ (σ τ : me_M) (o : Nat → Int64) (H : Heap) (locs : List Loc) (ls : Array Slot), rl (B + 40) σ τ → va_P D vwCl (lw_W cy ad bd ao σ τ o) H → va_D (lw_A s) (lw_W cy ad bd ao σ τ o) → va_S (lw_A s) s.heap H locs → lv_has ls 7 (lw_L b ad bd ao (nI (6 * t))) → W p l e room_1 s m #[Value.ref b] below meth c H locs (cells + 1) (slots + 6) Q (F0 m 701 ls [])) : W p l e room_1 s m #[Value.ref b] below meth c H locs cells slots Q (F0 m 409 ls []) := by
  have C0 := C
  obtain ⟨⟨hx, hb, hml, hown, hts⟩, ⟨hX, hbl, hL⟩, hln, hE, hNc, hK⟩ := C
  have M1 := fun sz => c_L_recover l hln D cy ad (mm_W cy bd [] τ) sa ao  σ o (rl_kI (by omega) h) sz
  have M2 := fun (σ : me_M) (o : Nat → Int64) (sz : Nat) => c_X4_recover l D cy bd (kk_W cy ad [lh_o cy ao o] σ)  τ (rl_mI (by omega) h).1 (rl_mI (by omega) h).2.2 sz
  have F := lw_fact (o := o) (sim_recv  (by omega) h) (fun q => (lw_no1 (pu_no1_recover σ) q).elim) (fun _ _ => lw_n1)
  have F := And.intro (F.1.mono (C := B + 40) (by omega)) F.2
  generalize lh_r (k_rec  σ) (nI 0) (nI 1) o = g at M1 F
  generalize m_rec  τ = g2 at M2 F
  obtain ⟨F1, F2, F3⟩ := F
  refine lv_aload_n hx hb dL_law_409 rfl (lv_at hl 3 rfl) ?_
  refine lv_aload_n hx hb dL_law_410 rfl (lv_at hl 1 rfl) ?_
  refine lh_call (f := g) (w := lh_W cy ad ao (mm_W cy bd [] τ)) (σ := σ) (o := o) (hh := [(0, 8, 11, 15)]) (As := [.ref (ad 0), .ref ao]) (rest := []) ⟨hx, hb, hml, hown, hts⟩ M1 (vx_cwSW 2 hts gL_law_L_recover rfl rfl rfl (by decide +kernel) ⟨Nat.le_of_ble_eq_true rfl, Nat.le_of_ble_eq_true rfl⟩) hE hNc hK hP hD hS (lw_AA s) rfl hl.1 rfl (Nat.le_of_ble_eq_true rfl) dL_law_411 hcs (fun H locs hP hD hS => ?_)
  clear M1
  obtain ⟨v, σ, o⟩ := g
  refine lv_istore (lv' := (5, .int v) :: lw_L b ad bd ao (nI (6 * t))) hx hb dL_law_414 hl (by decide) rfl (fun ls hl => ?_)
  refine lv_aload_n hx hb dL_law_416 rfl (lv_at hl 3 rfl) ?_
  refine lw_mi (f := g2) (As := []) (rest := []) ⟨hx, hb, hml, hown, hts⟩ (M2 σ o) (cwV 0 hts gL_law_X4_recover rfl rfl rfl (by decide +kernel) ⟨Nat.le_of_ble_eq_true rfl, Nat.le_of_ble_eq_true rfl⟩) hK hP hD hS (lw_AA s) rfl hl.1 rfl (Nat.le_of_ble_eq_true rfl) dL_law_417 hcs (fun H locs hP hD hS => ?_)
  obtain ⟨r, τ⟩ := g2
  refine lv_istore (lv' := (6, .int r) :: (5, .int v) :: lw_L b ad bd ao (nI (6 * t))) hx hb dL_law_420 hl (by decide) rfl (fun ls hl => ?_)
  exact lw_tail C0 hcs hP hD hS hl F2 F3 dL_law_422 dL_law_423 dL_law_426 dL_law_428 dL_law_433 dL_law_435 dL_law_438 dL_law_439 dL_law_440 dL_law_441 dL_law_443 dL_law_444 dL_law_445 dL_law_450 (by decide) (fun H locs hP hD hS hl => kk σ τ o H locs ls F1 hP hD hS hl)
set_option maxRecDepth 100000 in
set_option maxHeartbeats 4000000 in
theorem law_cut (C : lw_C p l s m c b L xs D cy sa) (ht : 6 * t + 6 ≤ L) (hB : B ≤ 80000) (hcs : cells + 1 ≤ 641281 ∧ slots + 6 ≤ 7172261) (h : rl B σ τ) (hP : va_P D vwCl (lw_W cy ad bd ao σ τ o) H) (hD : va_D (lw_A s) (lw_W cy ad bd ao σ τ o)) (hS : va_S (lw_A s) s.heap H locs) (hl : lv_has ls 7 (lw_L b ad bd ao (nI (6 * t))))
    (kk : ∀ (σ τ : me_M) (o : Nat → Int64) (H : Heap) (locs : List Loc) (ls : Array Slot), rl (B + 40) σ τ → va_P D vwCl (lw_W cy ad bd ao σ τ o) H → va_D (lw_A s) (lw_W cy ad bd ao σ τ o) → va_S (lw_A s) s.heap H locs → lv_has ls 7 (lw_L b ad bd ao (nI (6 * t))) → W p l e room_1 s m #[Value.ref b] below meth c H locs (cells + 1) (slots + 6) Q (F0 m 701 ls [])) : W p l e room_1 s m #[Value.ref b] below meth c H locs cells slots Q (F0 m 453 ls []) := by
  have C0 := C
  obtain ⟨⟨hx, hb, hml, hown, hts⟩, ⟨hX, hbl, hL⟩, hln, hE, hNc, hK⟩ := C
  have M1 := fun sz => c_L_cut l hln D cy ad (mm_W cy bd [] τ) sa ao  σ o sz
  have M2 := fun (σ : me_M) (o : Nat → Int64) (sz : Nat) => c_X4_cut l D cy bd (kk_W cy ad [lh_o cy ao o] σ)  τ  sz
  have F := lw_fact (o := o) (sim_cut  h) (fun q => (lw_no1 (pu_no1_cut σ) q).elim) (fun _ _ => lw_n1)
  have F := And.intro (F.1.mono (C := B + 40) (by omega)) F.2
  generalize lh_r (k_cut  σ) (nI 0) (nI 1) o = g at M1 F
  generalize m_cut  τ = g2 at M2 F
  obtain ⟨F1, F2, F3⟩ := F
  refine lv_aload_n hx hb dL_law_453 rfl (lv_at hl 3 rfl) ?_
  refine lv_aload_n hx hb dL_law_454 rfl (lv_at hl 1 rfl) ?_
  refine lh_call (f := g) (w := lh_W cy ad ao (mm_W cy bd [] τ)) (σ := σ) (o := o) (hh := [(0, 8, 11, 15)]) (As := [.ref (ad 0), .ref ao]) (rest := []) ⟨hx, hb, hml, hown, hts⟩ M1 (vx_cwSW 2 hts gL_law_L_cut rfl rfl rfl (by decide +kernel) ⟨Nat.le_of_ble_eq_true rfl, Nat.le_of_ble_eq_true rfl⟩) hE hNc hK hP hD hS (lw_AA s) rfl hl.1 rfl (Nat.le_of_ble_eq_true rfl) dL_law_455 hcs (fun H locs hP hD hS => ?_)
  clear M1
  obtain ⟨v, σ, o⟩ := g
  refine lv_istore (lv' := (5, .int v) :: lw_L b ad bd ao (nI (6 * t))) hx hb dL_law_458 hl (by decide) rfl (fun ls hl => ?_)
  refine lv_aload_n hx hb dL_law_460 rfl (lv_at hl 3 rfl) ?_
  refine lw_mi (f := g2) (As := []) (rest := []) ⟨hx, hb, hml, hown, hts⟩ (M2 σ o) (cwV 0 hts gL_law_X4_cut rfl rfl rfl (by decide +kernel) ⟨Nat.le_of_ble_eq_true rfl, Nat.le_of_ble_eq_true rfl⟩) hK hP hD hS (lw_AA s) rfl hl.1 rfl (Nat.le_of_ble_eq_true rfl) dL_law_461 hcs (fun H locs hP hD hS => ?_)
  obtain ⟨r, τ⟩ := g2
  refine lv_istore (lv' := (6, .int r) :: (5, .int v) :: lw_L b ad bd ao (nI (6 * t))) hx hb dL_law_464 hl (by decide) rfl (fun ls hl => ?_)
  exact lw_tail C0 hcs hP hD hS hl F2 F3 dL_law_466 dL_law_467 dL_law_470 dL_law_472 dL_law_477 dL_law_479 dL_law_482 dL_law_483 dL_law_484 dL_law_485 dL_law_487 dL_law_488 dL_law_489 dL_law_494 (by decide) (fun H locs hP hD hS hl => kk σ τ o H locs ls F1 hP hD hS hl)
set_option maxRecDepth 100000 in
set_option maxHeartbeats 4000000 in
theorem law_disk (C : lw_C p l s m c b L xs D cy sa) (ht : 6 * t + 6 ≤ L) (hB : B ≤ 80000) (hcs : cells + 1 ≤ 641281 ∧ slots + 6 ≤ 7172261) (h : rl B σ τ) (hP : va_P D vwCl (lw_W cy ad bd ao σ τ o) H) (hD : va_D (lw_A s) (lw_W cy ad bd ao σ τ o)) (hS : va_S (lw_A s) s.heap H locs) (hl : lv_has ls 7 (lw_L b ad bd ao (nI (6 * t))))
    (kk : ∀ (σ τ : me_M) (o : Nat → Int64) (H : Heap) (locs : List Loc) (ls : Array Slot), rl (B + 40) σ τ → va_P D vwCl (lw_W cy ad bd ao σ τ o) H → va_D (lw_A s) (lw_W cy ad bd ao σ τ o) → va_S (lw_A s) s.heap H locs → lv_has ls 7 (lw_L b ad bd ao (nI (6 * t))) → W p l e room_1 s m #[Value.ref b] below meth c H locs (cells + 1) (slots + 6) Q (F0 m 701 ls [])) : W p l e room_1 s m #[Value.ref b] below meth c H locs cells slots Q (F0 m 497 ls []) := by
  have C0 := C
  obtain ⟨⟨hx, hb, hml, hown, hts⟩, ⟨hX, hbl, hL⟩, hln, hE, hNc, hK⟩ := C
  have M1 := fun sz => c_L_disk l hln D cy ad (mm_W cy bd [] τ) sa ao (xs (6 * t + 1)) (xs (6 * t + 2)) (xs (6 * t + 3)) σ o sz
  have M2 := fun (σ : me_M) (o : Nat → Int64) (sz : Nat) => c_X4_disk l D cy bd (kk_W cy ad [lh_o cy ao o] σ) (xs (6 * t + 1)) (xs (6 * t + 2)) (xs (6 * t + 3)) τ (rl_mI (by omega) h).1 sz
  have F := lw_fact (o := o) (sim_disk (xs (6 * t + 1)) (xs (6 * t + 2)) (xs (6 * t + 3)) h) (fun _ => lw_n1) (fun z z1 => absurd rfl (pu_no2_disk (xs (6 * t + 1)) (xs (6 * t + 2)) (xs (6 * t + 3)) σ _ _ z z1))
  have F := And.intro (F.1.mono (C := B + 40) (by omega)) F.2
  generalize lh_r (k_disk (xs (6 * t + 1)) (xs (6 * t + 2)) (xs (6 * t + 3)) σ) (nI 1) (nI 0) o = g at M1 F
  generalize m_disk (xs (6 * t + 1)) (xs (6 * t + 2)) (xs (6 * t + 3)) τ = g2 at M2 F
  obtain ⟨F1, F2, F3⟩ := F
  refine lv_aload_n hx hb dL_law_497 rfl (lv_at hl 3 rfl) ?_
  refine lw_arg C0 hS (lv_at hl 4 rfl) (lv_at hl 0 rfl) 1 (by omega) (n := 1) (by decide) dL_law_498 dL_law_499 dL_law_501 dL_law_502 dL_law_503 ?_
  refine lw_arg C0 hS (lv_at hl 4 rfl) (lv_at hl 0 rfl) 2 (by omega) (n := 2) (by decide) dL_law_504 dL_law_505 dL_law_507 dL_law_508 dL_law_509 ?_
  refine lw_arg C0 hS (lv_at hl 4 rfl) (lv_at hl 0 rfl) 3 (by omega) (n := 3) (by decide) dL_law_510 dL_law_511 dL_law_513 dL_law_514 dL_law_515 ?_
  refine lv_aload_n hx hb dL_law_516 rfl (lv_at hl 1 rfl) ?_
  refine lh_call (f := g) (w := lh_W cy ad ao (mm_W cy bd [] τ)) (σ := σ) (o := o) (hh := [(0, 12, 15, 13)]) (As := [.ref (ad 0), .int (xs (6 * t + 1)), .int (xs (6 * t + 2)), .int (xs (6 * t + 3)), .ref ao]) (rest := []) ⟨hx, hb, hml, hown, hts⟩ M1 (vx_cwSW 5 hts gL_law_L_disk rfl rfl rfl (by decide +kernel) ⟨Nat.le_of_ble_eq_true rfl, Nat.le_of_ble_eq_true rfl⟩) hE hNc hK hP hD hS (lw_AA s) rfl hl.1 rfl (Nat.le_of_ble_eq_true rfl) dL_law_517 hcs (fun H locs hP hD hS => ?_)
  clear M1
  obtain ⟨v, σ, o⟩ := g
  refine lv_istore (lv' := (5, .int v) :: lw_L b ad bd ao (nI (6 * t))) hx hb dL_law_520 hl (by decide) rfl (fun ls hl => ?_)
  refine lv_aload_n hx hb dL_law_522 rfl (lv_at hl 3 rfl) ?_
  refine lw_arg C0 hS (lv_at hl 5 rfl) (lv_at hl 1 rfl) 1 (by omega) (n := 1) (by decide) dL_law_523 dL_law_524 dL_law_526 dL_law_527 dL_law_528 ?_
  refine lw_arg C0 hS (lv_at hl 5 rfl) (lv_at hl 1 rfl) 2 (by omega) (n := 2) (by decide) dL_law_529 dL_law_530 dL_law_532 dL_law_533 dL_law_534 ?_
  refine lw_arg C0 hS (lv_at hl 5 rfl) (lv_at hl 1 rfl) 3 (by omega) (n := 3) (by decide) dL_law_535 dL_law_536 dL_law_538 dL_law_539 dL_law_540 ?_
  refine lw_mi (f := g2) (As := [.int (xs (6 * t + 1)), .int (xs (6 * t + 2)), .int (xs (6 * t + 3))]) (rest := []) ⟨hx, hb, hml, hown, hts⟩ (M2 σ o) (cwV 3 hts gL_law_X4_disk rfl rfl rfl (by decide +kernel) ⟨Nat.le_of_ble_eq_true rfl, Nat.le_of_ble_eq_true rfl⟩) hK hP hD hS (lw_AA s) rfl hl.1 rfl (Nat.le_of_ble_eq_true rfl) dL_law_541 hcs (fun H locs hP hD hS => ?_)
  obtain ⟨r, τ⟩ := g2
  refine lv_istore (lv' := (6, .int r) :: (5, .int v) :: lw_L b ad bd ao (nI (6 * t))) hx hb dL_law_544 hl (by decide) rfl (fun ls hl => ?_)
  exact lw_tail C0 hcs hP hD hS hl F2 F3 dL_law_546 dL_law_547 dL_law_550 dL_law_552 dL_law_557 dL_law_559 dL_law_562 dL_law_563 dL_law_564 dL_law_565 dL_law_567 dL_law_568 dL_law_569 dL_law_574 (by decide) (fun H locs hP hD hS hl => kk σ τ o H locs ls F1 hP hD hS hl)
set_option maxRecDepth 100000 in
set_option maxHeartbeats 4000000 in
theorem law_frame (C : lw_C p l s m c b L xs D cy sa) (ht : 6 * t + 6 ≤ L) (hB : B ≤ 80000) (hcs : cells + 1 ≤ 641281 ∧ slots + 6 ≤ 7172261) (h : rl B σ τ) (hP : va_P D vwCl (lw_W cy ad bd ao σ τ o) H) (hD : va_D (lw_A s) (lw_W cy ad bd ao σ τ o)) (hS : va_S (lw_A s) s.heap H locs) (hl : lv_has ls 7 (lw_L b ad bd ao (nI (6 * t))))
    (kk : ∀ (σ τ : me_M) (o : Nat → Int64) (H : Heap) (locs : List Loc) (ls : Array Slot), rl (B + 40) σ τ → va_P D vwCl (lw_W cy ad bd ao σ τ o) H → va_D (lw_A s) (lw_W cy ad bd ao σ τ o) → va_S (lw_A s) s.heap H locs → lv_has ls 7 (lw_L b ad bd ao (nI (6 * t))) → W p l e room_1 s m #[Value.ref b] below meth c H locs (cells + 1) (slots + 6) Q (F0 m 701 ls [])) : W p l e room_1 s m #[Value.ref b] below meth c H locs cells slots Q (F0 m 577 ls []) := by
  have C0 := C
  obtain ⟨⟨hx, hb, hml, hown, hts⟩, ⟨hX, hbl, hL⟩, hln, hE, hNc, hK⟩ := C
  have M1 := fun sz => c_L_frame l hln D cy ad (mm_W cy bd [] τ) sa ao (xs (6 * t + 1)) (xs (6 * t + 2)) σ o sz
  have M2 := fun (σ : me_M) (o : Nat → Int64) (sz : Nat) => c_X4_frame l D cy bd (kk_W cy ad [lh_o cy ao o] σ) (xs (6 * t + 1)) (xs (6 * t + 2)) τ (rl_mI (by omega) h).1 sz
  have F := lw_fact (o := o) (sim_frame (xs (6 * t + 1)) (xs (6 * t + 2)) h) (fun _ => lw_n1) (fun z z1 => absurd rfl (pu_no2_frame (xs (6 * t + 1)) (xs (6 * t + 2)) σ _ _ z z1))
  have F := And.intro (F.1.mono (C := B + 40) (by omega)) F.2
  generalize lh_r (k_frame (xs (6 * t + 1)) (xs (6 * t + 2)) σ) (nI 1) (nI 0) o = g at M1 F
  generalize m_frame (xs (6 * t + 1)) (xs (6 * t + 2)) τ = g2 at M2 F
  obtain ⟨F1, F2, F3⟩ := F
  refine lv_aload_n hx hb dL_law_577 rfl (lv_at hl 3 rfl) ?_
  refine lw_arg C0 hS (lv_at hl 4 rfl) (lv_at hl 0 rfl) 1 (by omega) (n := 1) (by decide) dL_law_578 dL_law_579 dL_law_581 dL_law_582 dL_law_583 ?_
  refine lw_arg C0 hS (lv_at hl 4 rfl) (lv_at hl 0 rfl) 2 (by omega) (n := 2) (by decide) dL_law_584 dL_law_585 dL_law_587 dL_law_588 dL_law_589 ?_
  refine lv_aload_n hx hb dL_law_590 rfl (lv_at hl 1 rfl) ?_
  refine lh_call (f := g) (w := lh_W cy ad ao (mm_W cy bd [] τ)) (σ := σ) (o := o) (hh := [(0, 10, 13, 13)]) (As := [.ref (ad 0), .int (xs (6 * t + 1)), .int (xs (6 * t + 2)), .ref ao]) (rest := []) ⟨hx, hb, hml, hown, hts⟩ M1 (vx_cwSW 4 hts gL_law_L_frame rfl rfl rfl (by decide +kernel) ⟨Nat.le_of_ble_eq_true rfl, Nat.le_of_ble_eq_true rfl⟩) hE hNc hK hP hD hS (lw_AA s) rfl hl.1 rfl (Nat.le_of_ble_eq_true rfl) dL_law_591 hcs (fun H locs hP hD hS => ?_)
  clear M1
  obtain ⟨v, σ, o⟩ := g
  refine lv_istore (lv' := (5, .int v) :: lw_L b ad bd ao (nI (6 * t))) hx hb dL_law_594 hl (by decide) rfl (fun ls hl => ?_)
  refine lv_aload_n hx hb dL_law_596 rfl (lv_at hl 3 rfl) ?_
  refine lw_arg C0 hS (lv_at hl 5 rfl) (lv_at hl 1 rfl) 1 (by omega) (n := 1) (by decide) dL_law_597 dL_law_598 dL_law_600 dL_law_601 dL_law_602 ?_
  refine lw_arg C0 hS (lv_at hl 5 rfl) (lv_at hl 1 rfl) 2 (by omega) (n := 2) (by decide) dL_law_603 dL_law_604 dL_law_606 dL_law_607 dL_law_608 ?_
  refine lw_mi (f := g2) (As := [.int (xs (6 * t + 1)), .int (xs (6 * t + 2))]) (rest := []) ⟨hx, hb, hml, hown, hts⟩ (M2 σ o) (cwV 2 hts gL_law_X4_frame rfl rfl rfl (by decide +kernel) ⟨Nat.le_of_ble_eq_true rfl, Nat.le_of_ble_eq_true rfl⟩) hK hP hD hS (lw_AA s) rfl hl.1 rfl (Nat.le_of_ble_eq_true rfl) dL_law_609 hcs (fun H locs hP hD hS => ?_)
  obtain ⟨r, τ⟩ := g2
  refine lv_istore (lv' := (6, .int r) :: (5, .int v) :: lw_L b ad bd ao (nI (6 * t))) hx hb dL_law_612 hl (by decide) rfl (fun ls hl => ?_)
  exact lw_tail C0 hcs hP hD hS hl F2 F3 dL_law_614 dL_law_615 dL_law_618 dL_law_620 dL_law_625 dL_law_627 dL_law_630 dL_law_631 dL_law_632 dL_law_633 dL_law_635 dL_law_636 dL_law_637 dL_law_642 (by decide) (fun H locs hP hD hS hl => kk σ τ o H locs ls F1 hP hD hS hl)
set_option maxRecDepth 100000 in
set_option maxHeartbeats 4000000 in
theorem law_count (C : lw_C p l s m c b L xs D cy sa) (ht : 6 * t + 6 ≤ L) (hB : B ≤ 80000) (hcs : cells + 1 ≤ 641281 ∧ slots + 6 ≤ 7172261) (h : rl B σ τ) (hP : va_P D vwCl (lw_W cy ad bd ao σ τ o) H) (hD : va_D (lw_A s) (lw_W cy ad bd ao σ τ o)) (hS : va_S (lw_A s) s.heap H locs) (hl : lv_has ls 7 (lw_L b ad bd ao (nI (6 * t))))
    (kk : ∀ (σ τ : me_M) (o : Nat → Int64) (H : Heap) (locs : List Loc) (ls : Array Slot), rl (B + 40) σ τ → va_P D vwCl (lw_W cy ad bd ao σ τ o) H → va_D (lw_A s) (lw_W cy ad bd ao σ τ o) → va_S (lw_A s) s.heap H locs → lv_has ls 7 (lw_L b ad bd ao (nI (6 * t))) → W p l e room_1 s m #[Value.ref b] below meth c H locs (cells + 1) (slots + 6) Q (F0 m 701 ls [])) : W p l e room_1 s m #[Value.ref b] below meth c H locs cells slots Q (F0 m 645 ls []) := by
  have C0 := C
  obtain ⟨⟨hx, hb, hml, hown, hts⟩, ⟨hX, hbl, hL⟩, hln, hE, hNc, hK⟩ := C
  have M1 := fun sz => c_L_count l hln D cy ad (mm_W cy bd [] τ) sa ao (xs (6 * t + 1)) σ o sz
  have M2 := fun (σ : me_M) (o : Nat → Int64) (sz : Nat) => c_X4_count l D cy bd (kk_W cy ad [lh_o cy ao o] σ) (xs (6 * t + 1)) τ  sz
  have F := lw_fact (o := o) (sim_count (xs (6 * t + 1)) h) (fun _ => lw_n1) (fun z z1 => absurd rfl (pu_no2_count (xs (6 * t + 1)) σ _ _ z z1))
  have F := And.intro (F.1.mono (C := B + 40) (by omega)) F.2
  generalize lh_r (k_count (xs (6 * t + 1)) σ) (nI 1) (nI 0) o = g at M1 F
  generalize m_count (xs (6 * t + 1)) τ = g2 at M2 F
  obtain ⟨F1, F2, F3⟩ := F
  refine lv_aload_n hx hb dL_law_645 rfl (lv_at hl 3 rfl) ?_
  refine lw_arg C0 hS (lv_at hl 4 rfl) (lv_at hl 0 rfl) 1 (by omega) (n := 1) (by decide) dL_law_646 dL_law_647 dL_law_649 dL_law_650 dL_law_651 ?_
  refine lv_aload_n hx hb dL_law_652 rfl (lv_at hl 1 rfl) ?_
  refine lh_call (f := g) (w := lh_W cy ad ao (mm_W cy bd [] τ)) (σ := σ) (o := o) (hh := [(0, 9, 12, 13)]) (As := [.ref (ad 0), .int (xs (6 * t + 1)), .ref ao]) (rest := []) ⟨hx, hb, hml, hown, hts⟩ M1 (vx_cwSW 3 hts gL_law_L_count rfl rfl rfl (by decide +kernel) ⟨Nat.le_of_ble_eq_true rfl, Nat.le_of_ble_eq_true rfl⟩) hE hNc hK hP hD hS (lw_AA s) rfl hl.1 rfl (Nat.le_of_ble_eq_true rfl) dL_law_653 hcs (fun H locs hP hD hS => ?_)
  clear M1
  obtain ⟨v, σ, o⟩ := g
  refine lv_istore (lv' := (5, .int v) :: lw_L b ad bd ao (nI (6 * t))) hx hb dL_law_656 hl (by decide) rfl (fun ls hl => ?_)
  refine lv_aload_n hx hb dL_law_658 rfl (lv_at hl 3 rfl) ?_
  refine lw_arg C0 hS (lv_at hl 5 rfl) (lv_at hl 1 rfl) 1 (by omega) (n := 1) (by decide) dL_law_659 dL_law_660 dL_law_662 dL_law_663 dL_law_664 ?_
  refine lw_mi (f := g2) (As := [.int (xs (6 * t + 1))]) (rest := []) ⟨hx, hb, hml, hown, hts⟩ (M2 σ o) (cwV 1 hts gL_law_X4_count rfl rfl rfl (by decide +kernel) ⟨Nat.le_of_ble_eq_true rfl, Nat.le_of_ble_eq_true rfl⟩) hK hP hD hS (lw_AA s) rfl hl.1 rfl (Nat.le_of_ble_eq_true rfl) dL_law_665 hcs (fun H locs hP hD hS => ?_)
  obtain ⟨r, τ⟩ := g2
  refine lv_istore (lv' := (6, .int r) :: (5, .int v) :: lw_L b ad bd ao (nI (6 * t))) hx hb dL_law_668 hl (by decide) rfl (fun ls hl => ?_)
  exact lw_tail C0 hcs hP hD hS hl F2 F3 dL_law_670 dL_law_671 dL_law_674 dL_law_676 dL_law_681 dL_law_683 dL_law_686 dL_law_687 dL_law_688 dL_law_689 dL_law_691 dL_law_692 dL_law_693 dL_law_698 (by decide) (fun H locs hP hD hS hl => kk σ τ o H locs ls F1 hP hD hS hl)
set_option maxRecDepth 100000 in
set_option maxHeartbeats 4000000 in
theorem law_power (C : lw_C p l s m c b L xs D cy sa) (ht : 6 * t + 6 ≤ L) (hB : B ≤ 80000) (hcs : cells + 1 ≤ 641281 ∧ slots + 6 ≤ 7172261) (h : rl B σ τ) (hP : va_P D vwCl (lw_W cy ad bd ao σ τ o) H) (hD : va_D (lw_A s) (lw_W cy ad bd ao σ τ o)) (hS : va_S (lw_A s) s.heap H locs) (hl : lv_has ls 7 (lw_L b ad bd ao (nI (6 * t))))
    (kk : ∀ (σ τ : me_M) (o : Nat → Int64) (H : Heap) (locs : List Loc) (ls : Array Slot), rl (B + 40) σ τ → va_P D vwCl (lw_W cy ad bd ao σ τ o) H → va_D (lw_A s) (lw_W cy ad bd ao σ τ o) → va_S (lw_A s) s.heap H locs → lv_has ls 7 (lw_L b ad bd ao (nI (6 * t))) → W p l e room_1 s m #[Value.ref b] below meth c H locs (cells + 1) (slots + 6) Q (F0 m 701 ls [])) : W p l e room_1 s m #[Value.ref b] below meth c H locs cells slots Q (F0 m 373 ls []) := by
  have C0 := C
  obtain ⟨⟨hx, hb, hml, hown, hts⟩, ⟨hX, hbl, hL⟩, hln, hE, hNc, hK⟩ := C
  have M1 := fun sz => c_L_power l hln D cy ad (mm_W cy bd [] τ) sa ao (xs (6 * t + 1)) σ o sz
  have M2 := fun (σ : me_M) (o : Nat → Int64) (sz : Nat) => c_X4_power l D cy bd (kk_W cy ad [lh_o cy ao o] σ) (xs (6 * t + 1)) τ  sz
  have F : rl (B + 40) (lh_v (k_power (xs (6 * t + 1)) σ) (nI 1) (nI 0) o).2.1 (m_power (xs (6 * t + 1)) τ) ∧ (m_power (xs (6 * t + 1)) τ) 0 0 = (lh_v (k_power (xs (6 * t + 1)) σ) (nI 1) (nI 0) o).1 := by
    obtain ⟨r1, r2, -⟩ := sim_power (xs (6 * t + 1)) h
    obtain ⟨g1, g2, -⟩ := lh_v_1 (k_power (xs (6 * t + 1)) σ) (nI 1) (nI 0) o
    exact ⟨by rw [g2]; exact r1.mono (by omega), r2.trans g1.symm⟩
  generalize lh_v (k_power (xs (6 * t + 1)) σ) (nI 1) (nI 0) o = g at M1 F
  generalize m_power (xs (6 * t + 1)) τ = g2 at M2 F
  obtain ⟨F1, F2⟩ := F
  refine lv_aload_n hx hb dL_law_373 rfl (lv_at hl 3 rfl) ?_
  refine lw_arg C0 hS (lv_at hl 4 rfl) (lv_at hl 0 rfl) 1 (by omega) (n := 1) (by decide) dL_law_374 dL_law_375 dL_law_377 dL_law_378 dL_law_379 ?_
  refine lh_call (f := g) (w := lh_W cy ad ao (mm_W cy bd [] τ)) (σ := σ) (o := o) (hh := [(0, 5, 8, 13)]) (As := [.ref (ad 0), .int (xs (6 * t + 1))]) (rest := []) ⟨hx, hb, hml, hown, hts⟩ M1 (vx_cwSW 2 hts gL_law_L_power rfl rfl rfl (by decide +kernel) ⟨Nat.le_of_ble_eq_true rfl, Nat.le_of_ble_eq_true rfl⟩) hE hNc hK hP hD hS (lw_AA s) rfl hl.1 rfl (Nat.le_of_ble_eq_true rfl) dL_law_380 hcs (fun H locs hP hD hS => ?_)
  clear M1
  obtain ⟨v, σ, o⟩ := g
  refine lv_istore (lv' := (5, .int v) :: lw_L b ad bd ao (nI (6 * t))) hx hb dL_law_383 hl (by decide) rfl (fun ls hl => ?_)
  refine lv_aload_n hx hb dL_law_385 rfl (lv_at hl 3 rfl) ?_
  refine lw_arg C0 hS (lv_at hl 5 rfl) (lv_at hl 1 rfl) 1 (by omega) (n := 1) (by decide) dL_law_386 dL_law_387 dL_law_389 dL_law_390 dL_law_391 ?_
  refine lw_mv (f := g2) (As := [.int (xs (6 * t + 1))]) (rest := []) ⟨hx, hb, hml, hown, hts⟩ (M2 σ o) (cwV 1 hts gL_law_X4_power rfl rfl rfl (by decide +kernel) ⟨Nat.le_of_ble_eq_true rfl, Nat.le_of_ble_eq_true rfl⟩) hK hP hD hS (lw_AA s) rfl hl.1 rfl (Nat.le_of_ble_eq_true rfl) dL_law_392 hcs (fun H locs hP hD hS => ?_)
  refine lv_aload_n hx hb dL_law_395 rfl (lv_at hl 3 rfl) ?_
  refine lw_mi (As := []) (rest := []) ⟨hx, hb, hml, hown, hts⟩ (fun sz => c_X4_thrown l D cy bd (kk_W cy ad [lh_o cy ao o] σ) g2 sz) (cwV 0 hts gL_law_X4_thrown rfl rfl rfl (by decide +kernel) ⟨Nat.le_of_ble_eq_true rfl, Nat.le_of_ble_eq_true rfl⟩) hK hP hD hS (lw_AA s) rfl hl.1 rfl (Nat.le_of_ble_eq_true rfl) dL_law_396 hcs (fun H locs hP hD hS => ?_)
  refine me_top (z := v) F2 ?_
  refine lv_iload hx hb dL_law_399 (lv_at hl 0 rfl) ?_
  refine lv_icmp_eq (tgt := 406) hx hb dL_law_401 (by decide) (fun _ => ?_) (fun hne => absurd rfl hne)
  refine lv_goto (tgt := 701) hx hb dL_law_406 (by decide) ?_
  exact kk σ g2 o H locs ls F1 hP hD hS (lv_sub hl [1, 2, 3, 4, 5] rfl)
set_option maxRecDepth 100000 in
set_option maxHeartbeats 4000000 in
theorem law_got (C : lw_C p l s m c b L xs D cy sa) (ht : 6 * t + 6 ≤ L) (hB : B ≤ 80000) (hcs : cells + 1 ≤ 641281 ∧ slots + 6 ≤ 7172261) (h : rl B σ τ) (hP : va_P D vwCl (lw_W cy ad bd ao σ τ o) H) (hD : va_D (lw_A s) (lw_W cy ad bd ao σ τ o)) (hS : va_S (lw_A s) s.heap H locs) (hl : lv_has ls 7 (lw_L b ad bd ao (nI (6 * t))))
    (kk : ∀ (σ τ : me_M) (o : Nat → Int64) (H : Heap) (locs : List Loc) (ls : Array Slot), rl (B + 40) σ τ → va_P D vwCl (lw_W cy ad bd ao σ τ o) H → va_D (lw_A s) (lw_W cy ad bd ao σ τ o) → va_S (lw_A s) s.heap H locs → lv_has ls 7 (lw_L b ad bd ao (nI (6 * t))) → W p l e room_1 s m #[Value.ref b] below meth c H locs (cells + 1) (slots + 6) Q (F0 m 701 ls [])) : W p l e room_1 s m #[Value.ref b] below meth c H locs cells slots Q (F0 m 272 ls []) := by
  obtain ⟨⟨hx, hb, hml, hown, hts⟩, ⟨hX, hbl, hL⟩, hln, hE, hNc, hK⟩ := C
  obtain ⟨F1, F2⟩ := sim_got h
  have M2 := fun (sz : Nat) => c_X4_got l D cy bd (kk_W cy ad [lh_o cy ao o] σ) τ sz
  generalize m_got τ = g2 at M2 F1 F2
  refine lv_aload_n hx hb dL_law_272 rfl (lv_at hl 3 rfl) ?_
  refine me_callr (w := kk_W cy ad (lh_o cy ao o :: mm_W cy bd [] τ)) (σ := σ) (As := []) (rest := []) ⟨hx, hb, hml, hown, hts⟩ (fun sz => c_X3_got l D cy ad (lh_o cy ao o :: mm_W cy bd [] τ) σ sz) (cwV 0 hts gL_law_X3_got rfl rfl rfl (by decide +kernel) ⟨Nat.le_of_ble_eq_true rfl, Nat.le_of_ble_eq_true rfl⟩) (va_recv hK hP (ci := 3) (q0 := 0) rfl (me_get (by omega) (kk_0 cy ad _))) hK hP hD hS (lw_AA s) rfl hl.1 rfl (Nat.le_of_ble_eq_true rfl) dL_law_273 ⟨Nat.le_trans (Nat.le_succ _) hcs.1, Nat.le_trans (Nat.le_add_right _ 6) hcs.2⟩ (fun r H locs e1 hP hD hS => ?_)
  refine lv_aload_n hx hb dL_law_276 rfl (lv_at hl 2 rfl) ?_
  refine lw_mi (f := g2) (As := []) (rest := [.int r]) ⟨hx, hb, hml, hown, hts⟩ M2 (cwV 0 hts gL_law_X4_got rfl rfl rfl (by decide +kernel) ⟨Nat.le_of_ble_eq_true rfl, Nat.le_of_ble_eq_true rfl⟩) hK hP hD hS (lw_AA s) rfl hl.1 rfl (Nat.le_of_ble_eq_true rfl) dL_law_277 ⟨Nat.le_trans (Nat.le_succ _) hcs.1, Nat.le_trans (Nat.le_add_right _ 6) hcs.2⟩ (fun H locs hP hD hS => ?_)
  refine lv_icmp_eq (tgt := 701) hx hb dL_law_280 (by decide) (fun _ => ?_) (fun hne => absurd (e1.symm.trans F2) hne)
  exact W.widen (Nat.le_succ _) (Nat.le_add_right _ 6) (kk σ g2.2 o H locs ls (F1.mono (by omega)) hP hD hS hl)
end LWC
