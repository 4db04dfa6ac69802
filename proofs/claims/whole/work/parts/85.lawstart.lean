/-! THE LAW'S START: what the Statement gives, and the three objects -/
set_option maxRecDepth 20000 in
theorem ls_B : ∀ w ∈ ex_B, w ∈ lw_tbl := lw_mem _ [192, 193, 194, 195, 196, 197, 191, 259] rfl
set_option maxRecDepth 20000 in
theorem ls_S : ∀ w ∈ ex_S.map (fun q => Cond.stringRef RX3 q.1 q.2), w ∈ lw_tbl := lw_mem _ [229, 256, 266, 381, 389, 423, 432, 441, 442, 450, 462] rfl
def ls_W : List Cond := [.laysStatic Bundle.tN "UNASSIGNED_STACK" Bundle.steD, .laysStatic Bundle.tN "SUPPRESSED_SENTINEL" Bundle.listD, .initialized Bundle.tN, .arrayOver (.object "TwinWrites$Place"), .arrayOver (.object "TwinWrites$Change"), .arrayOver (.object "TwinWrites$Frame"), .methodLinkNest RX3 68 yX0_init RX3, .methodLinkNest RX3 69 yX1_init RX3, .arrayClass .int, .arrayClass .boolean, .arrayClass .long, .instantiable RX0 4, .instantiable RX1 5, .instantiable RX2 3, .instantiable RX3 15, .instantiable RX4 29]
set_option maxRecDepth 20000 in
theorem ls_W_in : ∀ w ∈ ls_W, w ∈ lw_tbl := lw_mem _ [216, 218, 38, 53, 55, 57, 80, 102, 78, 557, 661, 79, 101, 58, 45, 464] rfl
def ls_G : List Cond := [.isRef (.static Bundle.tN "UNASSIGNED_STACK" Bundle.steD), .isRef (.static Bundle.tN "SUPPRESSED_SENTINEL" Bundle.listD), .not (.castable (ex_N 2) (ex_N 1))]
set_option maxRecDepth 20000 in
theorem ls_G_in : ∀ w ∈ ls_G, w ∈ flatC (Jvm.Cond.and given_1 narrow_1) := lw_mem _ [4, 5, 11] rfl
section LSA
variable {s : State} {a : Array Value}
theorem ls_at {w : Cond} (htl : ∀ w ∈ lw_tbl, w.before a s = true) (i : Nat) (h : ls_W[i]? = some w) : w.before a s = true := htl w (ls_W_in w (List.mem_of_getElem? h))
theorem ls_ga {w : Cond} (hgv : (Jvm.Cond.and given_1 narrow_1).before a s = true) (i : Nat) (h : ls_G[i]? = some w) : w.before a s = true := flat_of_before _ hgv w (ls_G_in w (List.mem_of_getElem? h))
theorem ls_ap {ty : FieldType} (h : (Cond.arrayClass ty).before a s = true) (hty : ∀ C, ty ≠ .object C) : ∃ c : ClassId, ArrOfT s c ty ∧ va_RA s c ty := by
  obtain ⟨c, k, comp, h1, h2, h3⟩ := Cond.arrayClass_spec h
  refine ⟨c, fun n z => ⟨(fun k h => by cases h), k, h2, comp, h3⟩, ?_⟩
  cases ty with
  | object C => exact absurd rfl (hty C)
  | _ => exact h1
theorem ls_ao {C : String} (h : (Cond.arrayOver (.object C)).before a s = true) : ∃ c : ClassId, ArrOfT s c (.object C) ∧ va_RA s c (.object C) := by
  obtain ⟨comp, c, k, h1, -, h2, h3, h4⟩ := Cond.arrayOver_spec h
  exact ⟨c, fun n z => ⟨(fun k h => by cases h), k, h2, comp, h3⟩, k, comp, h2, h3, h1, h4⟩
theorem ls_K (htl : ∀ w ∈ lw_tbl, w.before a s = true) : ∃ (D : va_G) (cy : Nat → ClassId), va_K D vwCl (me_T cy) s := by
  obtain ⟨c0, i0, k0⟩ := u_known htl inX0 (ls_at htl 11 rfl)
  obtain ⟨c1, i1, k1⟩ := u_known htl inX1 (ls_at htl 12 rfl)
  obtain ⟨c2, i2, k2⟩ := u_known htl inX2 (ls_at htl 13 rfl)
  obtain ⟨c3, i3, k3⟩ := u_known htl inX3 (ls_at htl 14 rfl)
  obtain ⟨c4, i4, k4⟩ := u_known htl inX4 (ls_at htl 15 rfl)
  obtain ⟨y0, z0⟩ := ls_ap (ty := .int) (ls_at htl 8 rfl) (fun _ h => by cases h)
  obtain ⟨y1, z1⟩ := ls_ap (ty := .boolean) (ls_at htl 9 rfl) (fun _ h => by cases h)
  obtain ⟨y2, z2⟩ := ls_ap (ty := .long) (ls_at htl 10 rfl) (fun _ h => by cases h)
  obtain ⟨y3, z3⟩ := ls_ao (C := "TwinWrites$Place") (ls_at htl 3 rfl)
  obtain ⟨y4, z4⟩ := ls_ao (C := "TwinWrites$Change") (ls_at htl 4 rfl)
  obtain ⟨y5, z5⟩ := ls_ao (C := "TwinWrites$Frame") (ls_at htl 5 rfl)
  refine ⟨(fun k => [c0, c1, c2, c3, c4].getD k c0, fun k => [i0, i1, i2, i3, i4].getD k i0), fun k => [y0, y1, y2, y3, y4, y5].getD k y0, ?_, ?_⟩
  · intro k q h
    rcases (show k = 0 ∨ k = 1 ∨ k = 2 ∨ k = 3 ∨ k = 4 ∨ 5 ≤ k by omega) with rfl | rfl | rfl | rfl | rfl | h5
    · cases h; exact k0
    · cases h; exact k1
    · cases h; exact k2
    · cases h; exact k3
    · cases h; exact k4
    · rw [List.getElem?_eq_none (show vwCl.length ≤ k from h5)] at h
      cases h
  · intro k q h
    rcases (show k = 0 ∨ k = 1 ∨ k = 2 ∨ k = 3 ∨ k = 4 ∨ k = 5 ∨ 6 ≤ k by omega) with rfl | rfl | rfl | rfl | rfl | rfl | h6
    · cases h; exact z0
    · cases h; exact z1
    · cases h; exact z2
    · cases h; exact z3
    · cases h; exact z4
    · cases h; exact z5
    · rw [List.getElem?_eq_none (show (me_T _).length ≤ k from h6)] at h
      cases h
def ls_sa (s : State) : Nat → Nat := fun i => match Term.eval #[] s none [] s (Term.string RX3 i) with | some (.ref q) => q | _ => 0
theorem ls_E (htl : ∀ w ∈ lw_tbl, w.before a s = true) (hgv : (Jvm.Cond.and given_1 narrow_1).before a s = true) {cur : ClassId} (hc : s.vm.findClass RX3 = some cur) : ex_E (ls_sa s) (lw_A s) s s.heap := by
  refine ⟨vx_Zqof (ls_at htl 0 rfl) (ls_at htl 2 rfl) (ls_ga hgv 0 rfl) (fun q h => ?_), vx_Zqof (ls_at htl 1 rfl) (ls_at htl 2 rfl) (ls_ga hgv 1 rfl) (fun q h => ?_), fun w hw => va_Nw.of (ex_B_on w hw) (htl w (ls_B w hw)), fun q hq => ?_⟩
  · show ¬ s.heap.size ≤ q
    omega
  · show ¬ s.heap.size ≤ q
    omega
  · have h := htl _ (ls_S _ (List.mem_map.mpr ⟨q, hq, rfl⟩))
    obtain ⟨k, cf, i, x, -, -, -, -, -, he⟩ := Cond.stringRef_spec hc h
    have h2 := vk_R.of h he
    have e : ls_sa s q.1 = x := by
      have := h2.2
      unfold ls_sa
      rw [this]
    rw [e]
    exact h2
theorem ls_N (htl : ∀ w ∈ lw_tbl, w.before a s = true) : kc_N s := ⟨va_AO.of (ls_at htl 3 rfl), va_AO.of (ls_at htl 4 rfl), va_AO.of (ls_at htl 5 rfl), va_Nw.of rfl (ls_at htl 6 rfl), va_Nw.of rfl (ls_at htl 7 rfl)⟩
end LSA
theorem ls_P0 {D : va_G} {H : Heap} : va_P D vwCl ([] : va_W) H := fun k q h => by simp at h
theorem ls_D0 {A : Nat → Prop} : va_D A ([] : va_W) := ⟨fun i j p q h => by simp at h, fun k q h => by simp at h⟩
set_option maxRecDepth 100000 in
set_option maxHeartbeats 4000000 in
/-- from the entry, for every script of at most 3072 ints, the law comes to its end with true -/
theorem whole_start {p : Program} {e : Env} {s : State} {m : MethodId} {below : List Frame} {meth : Method} {c : Code} (l : Launch) (hln : l.stackTraces = false) {b L : Nat} {xs : Nat → Int32} (hL : L ≤ 3072) (C0 : lw_At p s m meth c b L xs) : W p l e room_1 s m #[Value.ref b] below meth c s.heap [] 0 0 (lw_Z below #[Value.ref b] s) (entryFrame m ([Value.ref b] : List Value).toArray 7) := by
  obtain ⟨hx, hb, hret, hml, hown, htl, hX, hbl, hlocks, hgv⟩ := C0
  have hb : c.code = cL_law := hb
  have hown : s.vm.findClass RL = some m.cls := hown
  have hts : ∀ w ∈ wsL_law, w.before #[Value.ref b] s = true := fun w h => htl w (wsL_law_in w h)
  obtain ⟨D, cy, hK⟩ := ls_K htl
  have hNN := ls_N htl
  have hE := ls_E htl hgv (hK.1 3 _ rfl).2.1
  have hNc : va_Nc (ex_N 2) (ex_N 1) s := va_Nc.of (ls_ga hgv 2 rfl)
  have hA := lw_AA s
  have hS : va_S (lw_A s) s.heap s.heap [] := va_S.rf
  have hP : va_P D vwCl ([] : va_W) s.heap := ls_P0
  have hD : va_D (lw_A s) ([] : va_W) := ls_D0
  have hl := lv_entry ([.ref b]) (n := 7) (Nat.le_of_ble_eq_true rfl)
  rw [lg_entry_eq]
  generalize (lg_sl ([.ref b]) ++ List.replicate (7 - (lg_sl ([.ref b])).length) Slot.unset).toArray = ls at hl ⊢
  have hl : lv_has ls 7 [(0, .ref b)] := hl
  refine va_new (ci := 3) (fs := [.null, .null, .null, .int 0, .int 0, .int 0, .int 0, .int 0, .int 0, .null, .null, .int 0, .int 0, .int 0, .int 0]) (C := RX3) (T := TX3) (N := 15) hx hb hts inlX3 tyX3 tyX3_ok hown (hts (.classLink RL 8 RX3) (by decide +kernel)) (hts (.instantiable RX3 15) (by decide +kernel)) (hts (.initialized RX3) (by decide +kernel)) hK hP hD hS hA rfl (fun j hj => by rcases (show j = 0 ∨ j = 1 ∨ j = 2 ∨ j = 3 ∨ j = 4 ∨ j = 5 ∨ j = 6 ∨ j = 7 ∨ j = 8 ∨ j = 9 ∨ j = 10 ∨ j = 11 ∨ j = 12 ∨ j = 13 ∨ j = 14 by omega) with rfl | rfl | rfl | rfl | rfl | rfl | rfl | rfl | rfl | rfl | rfl | rfl | rfl | rfl | rfl <;> rfl) (Nat.le_of_ble_eq_true rfl) (Nat.le_of_ble_eq_true rfl) dL_law_0 (fun q0 H hP hD hS => ?_)
  refine lv_dup hx hb dL_law_3 rfl ?_
  refine co_call2 hD hS hA (va_runI (As := []) (rest := [.ref q0]) ⟨hx, hb, hml, hown, hts⟩ (c_X3_init l D cy q0 H.size) (cwI 0 hts gL_law_X3_init rfl rfl rfl (hts (.initialized RX3) (by decide +kernel)) (hts (.methodLink RL 49 yX3_init) (by decide +kernel)) (hts (.instanceMethod yX3_init) (by decide +kernel)) rfl (by decide +kernel) ⟨Nat.le_of_ble_eq_true rfl, Nat.le_of_ble_eq_true rfl⟩) ⟨kc_blind, kc_pre hNN hK hP hD⟩ rfl rfl hl.1 rfl (lv_room (Nat.le_of_ble_eq_true rfl)) dL_law_4 ⟨Nat.le_of_ble_eq_true rfl, Nat.le_of_ble_eq_true rfl⟩) (fun u H locs hP hD hS => ?_)
  have e0 : q0 = co_ad q0 u 0 := rfl
  rw [e0]
  generalize co_ad q0 u = ad at hP hD ⊢
  refine lv_astore_n (lv' := [(1, .ref (ad 0)), (0, .ref b)]) hx hb dL_law_7 rfl hl (by decide) rfl (fun ls hl => ?_)
  refine va_new (ci := 4) (fs := [.int 0, .null, .null, .null, .null, .null, .null, .null, .null, .null, .int 0, .null, .null, .null, .null, .null, .int 0, .int 0, .int 0, .null, .null, .null, .null, .int 0, .int 0, .int 0, .int 0, .int 0, .int 0]) (C := RX4) (T := TX4) (N := 29) hx hb hts inlX4 tyX4 tyX4_ok hown (hts (.classLink RL 50 RX4) (by decide +kernel)) (hts (.instantiable RX4 29) (by decide +kernel)) (hts (.initialized RX4) (by decide +kernel)) hK hP hD hS hA rfl (fun j hj => by rcases (show j = 0 ∨ j = 1 ∨ j = 2 ∨ j = 3 ∨ j = 4 ∨ j = 5 ∨ j = 6 ∨ j = 7 ∨ j = 8 ∨ j = 9 ∨ j = 10 ∨ j = 11 ∨ j = 12 ∨ j = 13 ∨ j = 14 ∨ j = 15 ∨ j = 16 ∨ j = 17 ∨ j = 18 ∨ j = 19 ∨ j = 20 ∨ j = 21 ∨ j = 22 ∨ j = 23 ∨ j = 24 ∨ j = 25 ∨ j = 26 ∨ j = 27 ∨ j = 28 by omega) with rfl | rfl | rfl | rfl | rfl | rfl | rfl | rfl | rfl | rfl | rfl | rfl | rfl | rfl | rfl | rfl | rfl | rfl | rfl | rfl | rfl | rfl | rfl | rfl | rfl | rfl | rfl | rfl | rfl <;> rfl) (Nat.le_of_ble_eq_true rfl) (Nat.le_of_ble_eq_true rfl) dL_law_8 (fun q1 H hP hD hS => ?_)
  refine lv_dup hx hb dL_law_11 rfl ?_
  refine co_call2 hD hS hA (va_runI (As := []) (rest := [.ref q1]) ⟨hx, hb, hml, hown, hts⟩ (c_X4_init l D cy (kk_W cy ad [] k_0) q1 H.size) (cwI 0 hts gL_law_X4_init rfl rfl rfl (hts (.initialized RX4) (by decide +kernel)) (hts (.methodLink RL 52 yX4_init) (by decide +kernel)) (hts (.instanceMethod yX4_init) (by decide +kernel)) rfl (by decide +kernel) ⟨Nat.le_of_ble_eq_true rfl, Nat.le_of_ble_eq_true rfl⟩) ⟨me_blind, me_pre hK hP hD⟩ rfl rfl hl.1 rfl (lv_room (Nat.le_of_ble_eq_true rfl)) dL_law_12 ⟨Nat.le_of_ble_eq_true rfl, Nat.le_of_ble_eq_true rfl⟩) (fun u H locs hP hD hS => ?_)
  have e1 : q1 = co_ad q1 u 0 := rfl
  rw [e1]
  generalize co_ad q1 u = bd at hP hD ⊢
  refine lv_astore_n (lv' := [(2, .ref (bd 0)), (1, .ref (ad 0)), (0, .ref b)]) hx hb dL_law_15 rfl hl (by decide) rfl (fun ls hl => ?_)
  refine lv_iconst (v := nI 1) hx hb dL_law_16 (by decide) ?_
  refine va_newa (atype := .long) (ty := .long) (n := nI 1) (N' := 1) (a0 := (1, .inr (.inl (fun _ => 0)))) hx hb (hts (.arrayClass .long) (by decide +kernel)) rfl hK hP hD hS hA (fun _ => rfl) (by decide) (by decide) (by decide) (Nat.le_of_ble_eq_true rfl) (Nat.le_of_ble_eq_true rfl) dL_law_17 (fun ao cA H hK1 hP hD hS => ?_)
  have ec : cA = cy 2 := co_cls hK1 (t := 2) rfl
  subst ec
  refine lv_astore_n (lv' := [(3, .ref ao), (2, .ref (bd 0)), (1, .ref (ad 0)), (0, .ref b)]) hx hb dL_law_19 rfl hl (by decide) rfl (fun ls hl => ?_)
  refine lv_iconst (v := nI 0) hx hb dL_law_20 (by decide) ?_
  refine lv_istore (lv' := lw_L b ad bd ao (nI (6 * 0))) hx hb dL_law_21 hl (by decide) rfl (fun ls hl => ?_)
  have hP : va_P D vwCl (kk_W cy ad [] k_0 ++ mm_W cy bd [] m_0 ++ [lh_o cy ao (fun _ => 0)]) H := hP
  have hD : va_D (lw_A s) (kk_W cy ad [] k_0 ++ mm_W cy bd [] m_0 ++ [lh_o cy ao (fun _ => 0)]) := hD
  have hP := va_P.swap hP
  have hD := va_D.swap hD
  have e8 : kk_W cy ad [] k_0 ++ [lh_o cy ao (fun _ => 0)] ++ mm_W cy bd [] m_0 = lw_W cy ad bd ao k_0 m_0 (fun _ => 0) := by
    rw [lw_WV, List.nil_append, kk_app cy ad [lh_o cy ao (fun _ => 0)]]
  rw [e8] at hP hD
  exact W.widen (Nat.le_of_ble_eq_true rfl) (Nat.le_of_ble_eq_true rfl) (law_loop ⟨⟨hx, hb, hml, hown, hts⟩, ⟨hX, hbl, hL⟩, hln, hE, hNc, hK⟩ hret hlocks L 0 k_0 m_0 (fun _ => 0) H locs ls (by omega) (by omega) rl_start hP hD hS hl)
