/-! THE CLASS'S WORLD: 102 cells. 0 the object; 1 homes, 2 slots, 3 log, 4 frames, 5 waiting; place j (0 .. 11 at home, 12 .. 15 beside) at 6 + 4 j: words + 1, stamps + 2, pages + 3; record r of the log at 70 + 2 r, the change that waits in row r at 70 + 2 r + 1; frame k at 94 + 2 k, its words + 1 -/
def kk_E (cy : Nat → ClassId) (ad : Nat → Nat) (i : Nat) (f : Nat → Int32) : va_E :=
  if i = 0 then .inr (3, [.ref (ad 1), .ref (ad 2), .ref (ad 3), .int (f 3), .int (f 4), .int (f 5), .int (f 6), .int (f 7), .int (f 8), .ref (ad 4), .ref (ad 5), .int (f 11), .int (f 12), .int (f 13), .int (f 14)])
  else if i = 1 then .inl (cy 3, 12, .inr (.inr (.inr (.inr (fun j => some (ad (6 + 4 * j)))))))
  else if i = 2 then .inl (cy 3, 4, .inr (.inr (.inr (.inr (fun j => some (ad (6 + 4 * (12 + j))))))))
  else if i = 3 then .inl (cy 4, 12, .inr (.inr (.inr (.inr (fun j => some (ad (70 + 2 * j)))))))
  else if i = 4 then .inl (cy 5, 4, .inr (.inr (.inr (.inr (fun j => some (ad (94 + 2 * j)))))))
  else if i = 5 then .inl (cy 4, 12, .inr (.inr (.inr (.inr (fun j => some (ad (70 + 2 * j + 1)))))))
  else if i < 70 then (if i % 4 = 2 then .inr (2, [.ref (ad (i + 1)), .ref (ad (i + 2)), .ref (ad (i + 3))]) else if i % 4 = 3 then .inl (cy 0, 16, .inl f) else .inl (cy 0, 4, .inl f))
  else if i < 94 then .inr (0, [.int (f 0), .int (f 1), .int (f 2), .int (f 3)])
  else if i % 2 = 0 then .inr (1, [.ref (ad (i + 1)), .int (f 1), .int (f 2), .int (f 3), .int (f 4)])
  else .inl (cy 0, 16, .inl f)
abbrev kk_W (cy : Nat → ClassId) (ad : Nat → Nat) (xr : va_W) : me_M → va_W := me_w (kk_E cy ad) ad 102 xr
section KKE
variable (cy : Nat → ClassId) (ad : Nat → Nat)
theorem kk_0 (f : Nat → Int32) : kk_E cy ad 0 f = .inr (3, [.ref (ad 1), .ref (ad 2), .ref (ad 3), .int (f 3), .int (f 4), .int (f 5), .int (f 6), .int (f 7), .int (f 8), .ref (ad 4), .ref (ad 5), .int (f 11), .int (f 12), .int (f 13), .int (f 14)]) := rfl
theorem kk_a1 (f : Nat → Int32) : kk_E cy ad 1 f = .inl (cy 3, 12, .inr (.inr (.inr (.inr (fun j => some (ad (6 + 4 * j))))))) := rfl
theorem kk_a2 (f : Nat → Int32) : kk_E cy ad 2 f = .inl (cy 3, 4, .inr (.inr (.inr (.inr (fun j => some (ad (6 + 4 * (12 + j)))))))) := rfl
theorem kk_a3 (f : Nat → Int32) : kk_E cy ad 3 f = .inl (cy 4, 12, .inr (.inr (.inr (.inr (fun j => some (ad (70 + 2 * j))))))) := rfl
theorem kk_a4 (f : Nat → Int32) : kk_E cy ad 4 f = .inl (cy 5, 4, .inr (.inr (.inr (.inr (fun j => some (ad (94 + 2 * j))))))) := rfl
theorem kk_a5 (f : Nat → Int32) : kk_E cy ad 5 f = .inl (cy 4, 12, .inr (.inr (.inr (.inr (fun j => some (ad (70 + 2 * j + 1))))))) := rfl
theorem kk_pl {i : Nat} (h : 6 ≤ i ∧ i < 70 ∧ i % 4 = 2) (f : Nat → Int32) : kk_E cy ad i f = .inr (2, [.ref (ad (i + 1)), .ref (ad (i + 2)), .ref (ad (i + 3))]) := by
  unfold kk_E
  rw [if_neg (by omega), if_neg (by omega), if_neg (by omega), if_neg (by omega), if_neg (by omega), if_neg (by omega), if_pos (by omega), if_pos (by omega)]
theorem kk_16 {i : Nat} (h : (6 ≤ i ∧ i < 70 ∧ i % 4 = 3) ∨ (94 ≤ i ∧ i % 2 = 1)) (f : Nat → Int32) : kk_E cy ad i f = .inl (cy 0, 16, .inl f) := by
  unfold kk_E
  rw [if_neg (by omega), if_neg (by omega), if_neg (by omega), if_neg (by omega), if_neg (by omega), if_neg (by omega)]
  rcases h with h | h
  · rw [if_pos (by omega), if_neg (by omega), if_pos (by omega)]
  · rw [if_neg (by omega), if_neg (by omega), if_neg (by omega)]
theorem kk_4 {i : Nat} (h : 6 ≤ i ∧ i < 70 ∧ (i % 4 = 0 ∨ i % 4 = 1)) (f : Nat → Int32) : kk_E cy ad i f = .inl (cy 0, 4, .inl f) := by
  unfold kk_E
  rw [if_neg (by omega), if_neg (by omega), if_neg (by omega), if_neg (by omega), if_neg (by omega), if_neg (by omega), if_pos (by omega), if_neg (by omega), if_neg (by omega)]
theorem kk_ch {i : Nat} (h : 70 ≤ i ∧ i < 94) (f : Nat → Int32) : kk_E cy ad i f = .inr (0, [.int (f 0), .int (f 1), .int (f 2), .int (f 3)]) := by
  unfold kk_E
  rw [if_neg (by omega), if_neg (by omega), if_neg (by omega), if_neg (by omega), if_neg (by omega), if_neg (by omega), if_neg (by omega), if_pos (by omega)]
theorem kk_fr {i : Nat} (h : 94 ≤ i ∧ i % 2 = 0) (f : Nat → Int32) : kk_E cy ad i f = .inr (1, [.ref (ad (i + 1)), .int (f 1), .int (f 2), .int (f 3), .int (f 4)]) := by
  unfold kk_E
  rw [if_neg (by omega), if_neg (by omega), if_neg (by omega), if_neg (by omega), if_neg (by omega), if_neg (by omega), if_neg (by omega), if_neg (by omega), if_pos (by omega)]
end KKE
