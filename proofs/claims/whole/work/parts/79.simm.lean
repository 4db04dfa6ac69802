/-! SIMULATION 13: the start -/
theorem rl_start : rl 1 k_0 m_0 := by
  have w0 : ∀ {i : Nat}, ((6 ≤ i ∧ i < 70 ∧ ¬ i % 4 = 1) ∨ (94 ≤ i ∧ i % 2 = 1)) → ∀ j, k_0 i j = 0 := fun h j => by rw [k_0_w h]
  have fp : ∀ k, k < 4 → m_0 10 k = -1 := by
    intro k hk
    have : k = 0 ∨ k = 1 ∨ k = 2 ∨ k = 3 := by omega
    rcases this with rfl | rfl | rfl | rfl <;> decide
  refine ⟨⟨fun p hp => ⟨fun s hs => ⟨?_, ?_⟩, fun w hw => ?_⟩, fun p hp => ⟨fun s hs => ⟨?_, ?_⟩, fun w hw => ?_⟩⟩, ⟨by decide, by decide, by decide, by decide, by decide⟩, fun r hr => ⟨?_, ?_, ?_, ?_⟩, fun a h7 h9 => ⟨?_, ?_⟩, fun i hi => ⟨?_, ?_, ?_⟩, fun k hk => ⟨?_, ?_, fun q => absurd (fp k hk) q⟩, ⟨fun k hk => ⟨fun _ => ⟨?_, ?_, fun w hw => ?_⟩, fun q => absurd ?_ q⟩, fun k l hk hl _ q => absurd ?_ q⟩, ⟨fun _ => 0, fun _ => 0, 0, 0, by decide, by decide, by omega, by omega, fun k hk => ⟨?_, Nat.le_refl _, fun _ => rfl, fun q => absurd (fp k hk) q⟩, fun k l hk hl _ q => absurd (fp k hk) q⟩, ⟨1, 0, 1, by decide, by decide, by decide, by omega, by omega, by omega, fun _ => rfl, fun i hi => by omega⟩, by decide, by decide, by decide, by decide⟩
  · rw [w0 (by omega)]; rfl
  · rw [k_0_p hp]; unfold co_fl; rw [if_pos hs]
  · rw [w0 (by omega)]; rfl
  · rw [w0 (by omega)]; rfl
  · rw [k_0_s hp]; unfold co_fl; rw [if_pos hs]; rfl
  · rw [w0 (by omega)]; rfl
  · rw [k_0_c (by omega)]; rfl
  · rw [k_0_c (by omega)]; rfl
  · rw [k_0_c (by omega)]; rfl
  · rw [k_0_c (by omega)]; rfl
  · rw [k_0_c (by omega)]; exact vp_in_nI (by omega) (by omega)
  · rw [k_0_c (by omega)]; exact vp_in_nI (by omega) (by omega)
  · exact vp_in_nI (n := 0) (by omega) (by omega)
  · exact vp_in_nI (n := 0) (by omega) (by omega)
  · exact vp_in_nI (n := 0) (by omega) (by omega)
  · rw [k_0_f (by omega), fp k hk]; rfl
  · rw [k_0_f (by omega)]; rfl
  · rw [k_0_f (by omega)]; rfl
  · rw [k_0_f (by omega)]; rfl
  · rw [w0 (by omega)]
  · rw [k_0_f (by omega)]; rfl
  · rw [k_0_f (by omega)]; rfl
  · rw [k_0_f (by omega)]; rfl
