/-! THE CLASS'S OWN CONSTRUCTOR: the world grows cell by cell, in the order of kk_W -/
def k_0 : me_M := fun i j => if i = 0 then (if j = 3 ∨ j = 12 then nI 1 else if j = 4 then -1 else nI 0) else if i < 54 then (if i % 4 = 1 then co_fl 4 (nI ((i - 9) / 4)) j else 0) else if i < 94 then (if i % 4 = 1 ∧ i < 70 then co_fl 4 (nI 0) j else nI 0) else if i % 2 = 0 then (if j = 1 then -1 else nI 0) else 0
def kc_E (cy : Nat → ClassId) (ad : Nat → Nat) (n i : Nat) : va_E :=
  if i = 1 then .inl (cy 3, 12, .inr (.inr (.inr (.inr (fun j => if j < 12 ∧ 6 + 4 * j < n then some (ad (6 + 4 * j)) else none)))))
  else if i = 2 then .inl (cy 3, 4, .inr (.inr (.inr (.inr (fun j => if j < 4 ∧ 6 + 4 * (12 + j) < n then some (ad (6 + 4 * (12 + j))) else none)))))
  else if i = 3 then .inl (cy 4, 12, .inr (.inr (.inr (.inr (fun j => if j < 12 ∧ 70 + 2 * j < n then some (ad (70 + 2 * j)) else none)))))
  else if i = 4 then .inl (cy 5, 4, .inr (.inr (.inr (.inr (fun j => if j < 4 ∧ 94 + 2 * j < n then some (ad (94 + 2 * j)) else none)))))
  else if i = 5 then .inl (cy 4, 12, .inr (.inr (.inr (.inr (fun j => if j < 12 ∧ 70 + 2 * j + 1 < n then some (ad (70 + 2 * j + 1)) else none)))))
  else kk_E cy ad i (k_0 i)
def kc_W (cy : Nat → ClassId) (ad : Nat → Nat) (n : Nat) : va_W := (List.range n).map (fun i => (ad i, kc_E cy ad n i))
theorem kc_len (cy : Nat → ClassId) (ad : Nat → Nat) (n : Nat) : (kc_W cy ad n).length = n := by simp [kc_W]
theorem kc_at (cy : Nat → ClassId) (ad : Nat → Nat) {n i : Nat} (h : i < n) : (kc_W cy ad n)[i]? = some (ad i, kc_E cy ad n i) := by simp [kc_W, h]
theorem kc_get (cy : Nat → ClassId) (ad : Nat → Nat) {n i : Nat} (N : va_W) {e : va_E} (h : i < n) (he : kc_E cy ad n i = e) : (kc_W cy ad n ++ N)[i]? = some (ad i, e) := by
  rw [List.getElem?_append_left (by rw [kc_len]; exact h), kc_at cy ad h, he]
theorem kc_new (cy : Nat → ClassId) (ad : Nat → Nat) (n k : Nat) {N : va_W} {x : Nat × va_E} (h : N[k]? = some x) : (kc_W cy ad n ++ N)[n + k]? = some x := by
  have := co_get (ws0 := kc_W cy ad n) h
  rwa [kc_len] at this
def kc_ad (ad : Nat → Nat) (n : Nat) (qs : List Nat) : Nat → Nat := fun i => if i < n then ad i else qs.getD (i - n) 0
theorem kc_ad_lt (ad : Nat → Nat) {n i : Nat} (qs : List Nat) (h : i < n) : kc_ad ad n qs i = ad i := by simp [kc_ad, h]
theorem kc_ad_ge (ad : Nat → Nat) (n k : Nat) (qs : List Nat) : kc_ad ad n qs (n + k) = qs.getD k 0 := by
  unfold kc_ad
  rw [if_neg (by omega), Nat.add_sub_cancel_left]
theorem kc_kk (cy : Nat → ClassId) {ad ad' : Nat → Nat} {n i : Nat} (h : ∀ x, x < n → ad' x = ad x) (h6 : 6 ≤ n) (hi : i < n) (hb : (6 ≤ i ∧ i < 70 ∧ i % 4 = 2 → i + 3 < n) ∧ (94 ≤ i ∧ i % 2 = 0 → i + 1 < n)) (hr : i = 0 ∨ 6 ≤ i) (f : Nat → Int32) : kk_E cy ad' i f = kk_E cy ad i f := by
  rcases hr with rfl | hr
  · rw [kk_0, kk_0, h 1 (by omega), h 2 (by omega), h 3 (by omega), h 4 (by omega), h 5 (by omega)]
  · by_cases h7 : i < 70
    · by_cases h2 : i % 4 = 2
      · rw [kk_pl cy ad' (by omega), kk_pl cy ad (by omega), h (i + 1) (by omega), h (i + 2) (by omega), h (i + 3) (by omega)]
      · by_cases h3 : i % 4 = 3
        · rw [kk_16 cy ad' (by omega), kk_16 cy ad (by omega)]
        · rw [kk_4 cy ad' (by omega), kk_4 cy ad (by omega)]
    · by_cases h9 : i < 94
      · rw [kk_ch cy ad' (by omega), kk_ch cy ad (by omega)]
      · by_cases h2 : i % 2 = 0
        · rw [kk_fr cy ad' (by omega), kk_fr cy ad (by omega), h (i + 1) (by omega)]
        · rw [kk_16 cy ad' (by omega), kk_16 cy ad (by omega)]
theorem kc_hi (cy : Nat → ClassId) (ad : Nat → Nat) {n i : Nat} (h : 6 ≤ i ∨ i = 0) : kc_E cy ad n i = kk_E cy ad i (k_0 i) := by
  unfold kc_E
  rw [if_neg (by omega), if_neg (by omega), if_neg (by omega), if_neg (by omega), if_neg (by omega)]
/-- the world with new cells behind, and one array that has got the first of them -/
theorem kc_ext (cy : Nat → ClassId) (ad : Nat → Nat) {n : Nat} (r : Nat) (N : va_W) (e : va_E) (hr : r < n) (hn : ∀ i, i < n → i ≠ r → kc_E cy ad n i = kc_E cy (kc_ad ad n (N.map Prod.fst)) (n + N.length) i) (he : e = kc_E cy (kc_ad ad n (N.map Prod.fst)) (n + N.length) r) (hN : ∀ k x, N[k]? = some x → x.2 = kc_E cy (kc_ad ad n (N.map Prod.fst)) (n + N.length) (n + k)) :
    (kc_W cy ad n ++ N).set r (ad r, e) = kc_W cy (kc_ad ad n (N.map Prod.fst)) (n + N.length) := by
  apply List.ext_getElem?
  intro i
  by_cases hi : i = r
  · subst hi
    rw [List.getElem?_set_self (by simp [kc_len]; omega), kc_at cy _ (by omega), kc_ad_lt ad _ hr, he]
  · rw [List.getElem?_set_ne (Ne.symm hi)]
    by_cases h : i < n
    · rw [kc_get cy ad N h (hn i h hi), kc_at cy _ (by omega), kc_ad_lt ad _ h]
    · obtain ⟨k, rfl⟩ : ∃ k, i = n + k := ⟨i - n, by omega⟩
      rw [List.getElem?_append_right (by rw [kc_len]; omega), kc_len, Nat.add_sub_cancel_left]
      by_cases hk : k < N.length
      · obtain ⟨x, hx⟩ : ∃ x, N[k]? = some x := ⟨N[k], List.getElem?_eq_getElem hk⟩
        rw [hx, kc_at cy _ (by omega), kc_ad_ge, ← hN k x hx]
        simp [List.getD, hx]
      · rw [List.getElem?_eq_none (by omega), List.getElem?_eq_none (by rw [kc_len]; omega)]
theorem kc_ad_arr (ad : Nat → Nat) {n z b : Nat} (g : Nat → Nat) (qs : List Nat) (h : ∀ j, j < b → ¬ (n ≤ g j ∧ g j < n + z)) : (fun j => if j < b ∧ g j < n then some (ad (g j)) else none) = (fun j => if j < b ∧ g j < n + z then some (kc_ad ad n qs (g j)) else none) := by
  funext j
  by_cases hj : j < b
  · by_cases h2 : g j < n
    · rw [if_pos ⟨hj, h2⟩, if_pos ⟨hj, by omega⟩, kc_ad_lt ad qs h2]
    · rw [if_neg (fun q => h2 q.2), if_neg (fun q => h j hj ⟨by omega, q.2⟩)]
  · rw [if_neg (fun q => hj q.1), if_neg (fun q => hj q.1)]
theorem kc_ad_up (ad : Nat → Nat) {n z b k q : Nat} (g : Nat → Nat) (qs : List Nat) (hk : k < b) (hg : g k = n) (hz : 0 < z) (hq : qs.getD 0 0 = q) (h : ∀ j, j < b → j ≠ k → ¬ (n ≤ g j ∧ g j < n + z)) : va_up (fun j => if j < b ∧ g j < n then some (ad (g j)) else none) k (some q) = (fun j => if j < b ∧ g j < n + z then some (kc_ad ad n qs (g j)) else none) := by
  funext j
  show (if j = k then some q else if j < b ∧ g j < n then some (ad (g j)) else none) = _
  by_cases hjk : j = k
  · subst hjk
    rw [if_pos rfl, if_pos ⟨hk, by omega⟩, hg, show kc_ad ad n qs n = qs.getD 0 0 from kc_ad_ge ad n 0 qs, hq]
  · rw [if_neg hjk]
    by_cases hj : j < b
    · by_cases h2 : g j < n
      · rw [if_pos ⟨hj, h2⟩, if_pos ⟨hj, by omega⟩, kc_ad_lt ad qs h2]
      · rw [if_neg (fun q => h2 q.2), if_neg (fun q => h j hj hjk ⟨by omega, q.2⟩)]
    · rw [if_neg (fun q => hj q.1), if_neg (fun q => hj q.1)]
def kc_f (t : Nat) (ad : Nat → Nat) (n : Nat) : Nat → Option Nat :=
  if t = 1 then fun j => if j < 12 ∧ 6 + 4 * j < n then some (ad (6 + 4 * j)) else none
  else if t = 2 then fun j => if j < 4 ∧ 6 + 4 * (12 + j) < n then some (ad (6 + 4 * (12 + j))) else none
  else if t = 3 then fun j => if j < 12 ∧ 70 + 2 * j < n then some (ad (70 + 2 * j)) else none
  else if t = 4 then fun j => if j < 4 ∧ 94 + 2 * j < n then some (ad (94 + 2 * j)) else none
  else fun j => if j < 12 ∧ 70 + 2 * j + 1 < n then some (ad (70 + 2 * j + 1)) else none
theorem kc_a1 (cy : Nat → ClassId) (ad : Nat → Nat) (n : Nat) : kc_E cy ad n 1 = .inl (cy 3, 12, .inr (.inr (.inr (.inr (kc_f 1 ad n))))) := rfl
theorem kc_a2 (cy : Nat → ClassId) (ad : Nat → Nat) (n : Nat) : kc_E cy ad n 2 = .inl (cy 3, 4, .inr (.inr (.inr (.inr (kc_f 2 ad n))))) := rfl
theorem kc_a3 (cy : Nat → ClassId) (ad : Nat → Nat) (n : Nat) : kc_E cy ad n 3 = .inl (cy 4, 12, .inr (.inr (.inr (.inr (kc_f 3 ad n))))) := rfl
theorem kc_a4 (cy : Nat → ClassId) (ad : Nat → Nat) (n : Nat) : kc_E cy ad n 4 = .inl (cy 5, 4, .inr (.inr (.inr (.inr (kc_f 4 ad n))))) := rfl
theorem kc_a5 (cy : Nat → ClassId) (ad : Nat → Nat) (n : Nat) : kc_E cy ad n 5 = .inl (cy 4, 12, .inr (.inr (.inr (.inr (kc_f 5 ad n))))) := rfl
theorem kc_s1 (ad : Nat → Nat) {n z : Nat} (qs : List Nat) (h : 54 ≤ n) : kc_f 1 ad n = kc_f 1 (kc_ad ad n qs) (n + z) := kc_ad_arr ad (fun j => 6 + 4 * j) qs (fun j hj => by show ¬ (n ≤ 6 + 4 * j ∧ _); omega)
theorem kc_s2 (ad : Nat → Nat) {n z : Nat} (qs : List Nat) (h : n + z ≤ 54 ∨ 70 ≤ n) : kc_f 2 ad n = kc_f 2 (kc_ad ad n qs) (n + z) := kc_ad_arr ad (fun j => 6 + 4 * (12 + j)) qs (fun j hj => by show ¬ (n ≤ 6 + 4 * (12 + j) ∧ 6 + 4 * (12 + j) < n + z); omega)
theorem kc_s3 (ad : Nat → Nat) {n z : Nat} (qs : List Nat) (h : n + z ≤ 70 ∨ 94 ≤ n ∨ (n % 2 = 1 ∧ z = 1)) : kc_f 3 ad n = kc_f 3 (kc_ad ad n qs) (n + z) := kc_ad_arr ad (fun j => 70 + 2 * j) qs (fun j hj => by show ¬ (n ≤ 70 + 2 * j ∧ 70 + 2 * j < n + z); omega)
theorem kc_s4 (ad : Nat → Nat) {n z : Nat} (qs : List Nat) (h : n + z ≤ 94) : kc_f 4 ad n = kc_f 4 (kc_ad ad n qs) (n + z) := kc_ad_arr ad (fun j => 94 + 2 * j) qs (fun j hj => by show ¬ (n ≤ 94 + 2 * j ∧ 94 + 2 * j < n + z); omega)
theorem kc_s5 (ad : Nat → Nat) {n z : Nat} (qs : List Nat) (h : n + z ≤ 70 ∨ 94 ≤ n ∨ (n % 2 = 0 ∧ z = 1)) : kc_f 5 ad n = kc_f 5 (kc_ad ad n qs) (n + z) := kc_ad_arr ad (fun j => 70 + 2 * j + 1) qs (fun j hj => by show ¬ (n ≤ 70 + 2 * j + 1 ∧ 70 + 2 * j + 1 < n + z); omega)
/-- the entries that stood before stay, but for the array r -/
theorem kc_old (cy : Nat → ClassId) (ad : Nat → Nat) {n z : Nat} (qs : List Nat) (r : Nat) (h6 : 6 ≤ n) (hb : ∀ i, i < n → (6 ≤ i ∧ i < 70 ∧ i % 4 = 2 → i + 3 < n) ∧ (94 ≤ i ∧ i % 2 = 0 → i + 1 < n)) (h1 : r ≠ 1 → 54 ≤ n) (h2 : r ≠ 2 → n + z ≤ 54 ∨ 70 ≤ n) (h3 : r ≠ 3 → n + z ≤ 70 ∨ 94 ≤ n ∨ (n % 2 = 1 ∧ z = 1)) (h4 : r ≠ 4 → n + z ≤ 94) (h5 : r ≠ 5 → n + z ≤ 70 ∨ 94 ≤ n ∨ (n % 2 = 0 ∧ z = 1)) : ∀ i, i < n → i ≠ r → kc_E cy ad n i = kc_E cy (kc_ad ad n qs) (n + z) i := by
  intro i hi hr
  by_cases q : 6 ≤ i ∨ i = 0
  · rw [kc_hi cy ad q, kc_hi cy _ q, kc_kk cy (ad' := kc_ad ad n qs) (fun x hx => kc_ad_lt ad qs hx) h6 hi (hb i hi) (by omega)]
  · have : i = 1 ∨ i = 2 ∨ i = 3 ∨ i = 4 ∨ i = 5 := by omega
    rcases this with rfl | rfl | rfl | rfl | rfl
    · rw [kc_a1, kc_a1, kc_s1 ad qs (h1 (Ne.symm hr))]
    · rw [kc_a2, kc_a2, kc_s2 ad qs (h2 (Ne.symm hr))]
    · rw [kc_a3, kc_a3, kc_s3 ad qs (h3 (Ne.symm hr))]
    · rw [kc_a4, kc_a4, kc_s4 ad qs (h4 (Ne.symm hr))]
    · rw [kc_a5, kc_a5, kc_s5 ad qs (h5 (Ne.symm hr))]
theorem k_0_w {i : Nat} (h : (6 ≤ i ∧ i < 70 ∧ ¬ i % 4 = 1) ∨ (94 ≤ i ∧ i % 2 = 1)) : k_0 i = fun _ => 0 := by
  funext j
  unfold k_0
  rw [if_neg (by omega)]
  by_cases h5 : i < 54
  · rw [if_pos h5, if_neg (by omega)]
  · rw [if_neg h5]
    by_cases h9 : i < 94
    · rw [if_pos h9, if_neg (by omega)]
      rfl
    · rw [if_neg h9, if_neg (by omega)]
theorem k_0_p {j : Nat} (h : j < 12) : k_0 (6 + 4 * j + 3) = co_fl 4 (nI j) := by
  funext k
  unfold k_0
  rw [if_neg (by omega), if_pos (by omega), if_pos (by omega), show (6 + 4 * j + 3 - 9) / 4 = j by omega]
theorem k_0_s {j : Nat} (h : j < 4) : k_0 (6 + 4 * (12 + j) + 3) = co_fl 4 (nI 0) := by
  funext k
  unfold k_0
  rw [if_neg (by omega), if_neg (by omega), if_pos (by omega), if_pos (by omega)]
theorem k_0_c {i : Nat} (h : 70 ≤ i ∧ i < 94) (j : Nat) : k_0 i j = nI 0 := by
  unfold k_0
  rw [if_neg (by omega), if_neg (by omega), if_pos (by omega), if_neg (by omega)]
theorem k_0_f {i : Nat} (h : 94 ≤ i ∧ i % 2 = 0) (j : Nat) : k_0 i j = if j = 1 then -1 else nI 0 := by
  unfold k_0
  rw [if_neg (by omega), if_neg (by omega), if_neg (by omega), if_pos (by omega)]
theorem kc_4 {P : Nat → (Nat × va_E) → Prop} {a b c d : Nat × va_E} (h0 : P 0 a) (h1 : P 1 b) (h2 : P 2 c) (h3 : P 3 d) : ∀ k x, ([a, b, c, d] : va_W)[k]? = some x → P k x := by
  intro k x h
  match k, h with
  | 0, h => cases h; exact h0
  | 1, h => cases h; exact h1
  | 2, h => cases h; exact h2
  | 3, h => cases h; exact h3
  | k + 4, h => simp at h
theorem kc_2 {P : Nat → (Nat × va_E) → Prop} {a b : Nat × va_E} (h0 : P 0 a) (h1 : P 1 b) : ∀ k x, ([a, b] : va_W)[k]? = some x → P k x := by
  intro k x h
  match k, h with
  | 0, h => cases h; exact h0
  | 1, h => cases h; exact h1
  | k + 2, h => simp at h
theorem kc_1 {P : Nat → (Nat × va_E) → Prop} {a : Nat × va_E} (h0 : P 0 a) : ∀ k x, ([a] : va_W)[k]? = some x → P k x := by
  intro k x h
  match k, h with
  | 0, h => cases h; exact h0
  | k + 1, h => simp at h
/-- a place more -/
theorem kc_place (cy : Nat → ClassId) (ad : Nat → Nat) (j q0 q1 q2 q3 : Nat) (x : Int32) (hj : j < 16) (hx : k_0 (6 + 4 * j + 3) = co_fl 4 x) : ∀ k y, ([(q0, .inr (2, [.ref q1, .ref q2, .ref q3])), (q1, .inl (cy 0, 16, .inl (fun _ => 0))), (q2, .inl (cy 0, 4, .inl (fun _ => 0))), (q3, .inl (cy 0, 4, .inl (co_fl 4 x)))] : va_W)[k]? = some y → y.2 = kc_E cy (kc_ad ad (6 + 4 * j) [q0, q1, q2, q3]) (6 + 4 * j + 4) (6 + 4 * j + k) := by
  have e := fun k => kc_ad_ge ad (6 + 4 * j) k [q0, q1, q2, q3]
  refine kc_4 (P := fun k y => y.2 = kc_E cy (kc_ad ad (6 + 4 * j) [q0, q1, q2, q3]) (6 + 4 * j + 4) (6 + 4 * j + k)) ?_ ?_ ?_ ?_
  · rw [kc_hi _ _ (by omega), kk_pl _ _ (by omega)]
    show _ = Sum.inr (2, [Value.ref (kc_ad ad (6 + 4 * j) [q0, q1, q2, q3] (6 + 4 * j + 1)), Value.ref (kc_ad ad (6 + 4 * j) [q0, q1, q2, q3] (6 + 4 * j + 2)), Value.ref (kc_ad ad (6 + 4 * j) [q0, q1, q2, q3] (6 + 4 * j + 3))])
    rw [e, e, e]
    rfl
  · rw [kc_hi _ _ (by omega), kk_16 _ _ (by omega), k_0_w (by omega)]
  · rw [kc_hi _ _ (by omega), kk_4 _ _ (by omega), k_0_w (by omega)]
  · rw [kc_hi _ _ (by omega), kk_4 _ _ (by omega), hx]
theorem kc_home (cy : Nat → ClassId) (ad : Nat → Nat) (j q0 q1 q2 q3 : Nat) (hj : j < 12) : (kc_W cy ad (6 + 4 * j) ++ ([(q0, .inr (2, [.ref q1, .ref q2, .ref q3])), (q1, .inl (cy 0, 16, .inl (fun _ => 0))), (q2, .inl (cy 0, 4, .inl (fun _ => 0))), (q3, .inl (cy 0, 4, .inl (co_fl 4 (nI j))))] : va_W)).set 1 (ad 1, .inl (cy 3, 12, .inr (.inr (.inr (.inr (va_up (kc_f 1 ad (6 + 4 * j)) j (some q0))))))) = kc_W cy (kc_ad ad (6 + 4 * j) [q0, q1, q2, q3]) (6 + 4 * (j + 1)) :=
  kc_ext cy ad 1 [(q0, .inr (2, [.ref q1, .ref q2, .ref q3])), (q1, .inl (cy 0, 16, .inl (fun _ => 0))), (q2, .inl (cy 0, 4, .inl (fun _ => 0))), (q3, .inl (cy 0, 4, .inl (co_fl 4 (nI j))))] _ (by omega)
    (kc_old (z := 4) cy ad [q0, q1, q2, q3] 1 (by omega) (by omega) (fun h => absurd rfl h) (fun _ => by omega) (fun _ => by omega) (fun _ => by omega) (fun _ => by omega))
    (by rw [kc_a1]; exact congrArg (fun f => (Sum.inl (cy 3, 12, Sum.inr (Sum.inr (Sum.inr (Sum.inr f)))) : va_E)) (kc_ad_up (z := 4) ad (fun j => 6 + 4 * j) [q0, q1, q2, q3] hj rfl (by omega) rfl (fun i hi hn => by show ¬ (6 + 4 * j ≤ 6 + 4 * i ∧ 6 + 4 * i < 6 + 4 * j + 4); omega)))
    (kc_place cy ad j q0 q1 q2 q3 (nI j) (by omega) (k_0_p hj))
theorem kc_slot (cy : Nat → ClassId) (ad : Nat → Nat) (j q0 q1 q2 q3 : Nat) (hj : j < 4) : (kc_W cy ad (6 + 4 * (12 + j)) ++ ([(q0, .inr (2, [.ref q1, .ref q2, .ref q3])), (q1, .inl (cy 0, 16, .inl (fun _ => 0))), (q2, .inl (cy 0, 4, .inl (fun _ => 0))), (q3, .inl (cy 0, 4, .inl (co_fl 4 (nI 0))))] : va_W)).set 2 (ad 2, .inl (cy 3, 4, .inr (.inr (.inr (.inr (va_up (kc_f 2 ad (6 + 4 * (12 + j))) j (some q0))))))) = kc_W cy (kc_ad ad (6 + 4 * (12 + j)) [q0, q1, q2, q3]) (6 + 4 * (12 + (j + 1))) :=
  kc_ext cy ad 2 [(q0, .inr (2, [.ref q1, .ref q2, .ref q3])), (q1, .inl (cy 0, 16, .inl (fun _ => 0))), (q2, .inl (cy 0, 4, .inl (fun _ => 0))), (q3, .inl (cy 0, 4, .inl (co_fl 4 (nI 0))))] _ (by omega)
    (kc_old (z := 4) cy ad [q0, q1, q2, q3] 2 (by omega) (by omega) (fun _ => by omega) (fun h => absurd rfl h) (fun _ => by omega) (fun _ => by omega) (fun _ => by omega))
    (by rw [kc_a2]; exact congrArg (fun f => (Sum.inl (cy 3, 4, Sum.inr (Sum.inr (Sum.inr (Sum.inr f)))) : va_E)) (kc_ad_up (z := 4) ad (fun j => 6 + 4 * (12 + j)) [q0, q1, q2, q3] hj rfl (by omega) rfl (fun i hi hn => by show ¬ (6 + 4 * (12 + j) ≤ 6 + 4 * (12 + i) ∧ 6 + 4 * (12 + i) < 6 + 4 * (12 + j) + 4); omega)))
    (kc_place cy ad (12 + j) q0 q1 q2 q3 (nI 0) (by omega) (k_0_s hj))
theorem kc_log (cy : Nat → ClassId) (ad : Nat → Nat) (j q0 : Nat) (hj : j < 12) : (kc_W cy ad (70 + 2 * j) ++ ([(q0, .inr (0, [.int (nI 0), .int (nI 0), .int (nI 0), .int (nI 0)]))] : va_W)).set 3 (ad 3, .inl (cy 4, 12, .inr (.inr (.inr (.inr (va_up (kc_f 3 ad (70 + 2 * j)) j (some q0))))))) = kc_W cy (kc_ad ad (70 + 2 * j) [q0]) (70 + 2 * j + 1) :=
  kc_ext cy ad 3 [(q0, .inr (0, [.int (nI 0), .int (nI 0), .int (nI 0), .int (nI 0)]))] _ (by omega)
    (kc_old (z := 1) cy ad [q0] 3 (by omega) (by omega) (fun _ => by omega) (fun _ => by omega) (fun h => absurd rfl h) (fun _ => by omega) (fun _ => by omega))
    (by rw [kc_a3]; exact congrArg (fun f => (Sum.inl (cy 4, 12, Sum.inr (Sum.inr (Sum.inr (Sum.inr f)))) : va_E)) (kc_ad_up (z := 1) ad (fun j => 70 + 2 * j) [q0] hj rfl (by omega) rfl (fun i hi hn => by show ¬ (70 + 2 * j ≤ 70 + 2 * i ∧ 70 + 2 * i < 70 + 2 * j + 1); omega)))
    (kc_1 (P := fun k y => y.2 = kc_E cy (kc_ad ad (70 + 2 * j) [q0]) (70 + 2 * j + 1) (70 + 2 * j + k)) (by rw [kc_hi _ _ (by omega), kk_ch _ _ (by omega), k_0_c (by omega), k_0_c (by omega), k_0_c (by omega), k_0_c (by omega)]))
theorem kc_wait (cy : Nat → ClassId) (ad : Nat → Nat) (j q0 : Nat) (hj : j < 12) : (kc_W cy ad (70 + 2 * j + 1) ++ ([(q0, .inr (0, [.int (nI 0), .int (nI 0), .int (nI 0), .int (nI 0)]))] : va_W)).set 5 (ad 5, .inl (cy 4, 12, .inr (.inr (.inr (.inr (va_up (kc_f 5 ad (70 + 2 * j + 1)) j (some q0))))))) = kc_W cy (kc_ad ad (70 + 2 * j + 1) [q0]) (70 + 2 * (j + 1)) :=
  kc_ext cy ad 5 [(q0, .inr (0, [.int (nI 0), .int (nI 0), .int (nI 0), .int (nI 0)]))] _ (by omega)
    (kc_old (z := 1) cy ad [q0] 5 (by omega) (by omega) (fun _ => by omega) (fun _ => by omega) (fun _ => by omega) (fun _ => by omega) (fun h => absurd rfl h))
    (by rw [kc_a5]; exact congrArg (fun f => (Sum.inl (cy 4, 12, Sum.inr (Sum.inr (Sum.inr (Sum.inr f)))) : va_E)) (kc_ad_up (z := 1) ad (fun j => 70 + 2 * j + 1) [q0] hj rfl (by omega) rfl (fun i hi hn => by show ¬ (70 + 2 * j + 1 ≤ 70 + 2 * i + 1 ∧ 70 + 2 * i + 1 < 70 + 2 * j + 1 + 1); omega)))
    (kc_1 (P := fun k y => y.2 = kc_E cy (kc_ad ad (70 + 2 * j + 1) [q0]) (70 + 2 * j + 1 + 1) (70 + 2 * j + 1 + k)) (by rw [kc_hi _ _ (by omega), kk_ch _ _ (by omega), k_0_c (by omega), k_0_c (by omega), k_0_c (by omega), k_0_c (by omega)]))
theorem kc_frame (cy : Nat → ClassId) (ad : Nat → Nat) (j q0 q1 : Nat) (hj : j < 4) : (kc_W cy ad (94 + 2 * j) ++ ([(q0, .inr (1, [.ref q1, .int (-1), .int (nI 0), .int (nI 0), .int (nI 0)])), (q1, .inl (cy 0, 16, .inl (fun _ => 0)))] : va_W)).set 4 (ad 4, .inl (cy 5, 4, .inr (.inr (.inr (.inr (va_up (kc_f 4 ad (94 + 2 * j)) j (some q0))))))) = kc_W cy (kc_ad ad (94 + 2 * j) [q0, q1]) (94 + 2 * (j + 1)) :=
  kc_ext cy ad 4 [(q0, .inr (1, [.ref q1, .int (-1), .int (nI 0), .int (nI 0), .int (nI 0)])), (q1, .inl (cy 0, 16, .inl (fun _ => 0)))] _ (by omega)
    (kc_old (z := 2) cy ad [q0, q1] 4 (by omega) (by omega) (fun _ => by omega) (fun _ => by omega) (fun _ => by omega) (fun h => absurd rfl h) (fun _ => by omega))
    (by rw [kc_a4]; exact congrArg (fun f => (Sum.inl (cy 5, 4, Sum.inr (Sum.inr (Sum.inr (Sum.inr f)))) : va_E)) (kc_ad_up (z := 2) ad (fun j => 94 + 2 * j) [q0, q1] hj rfl (by omega) rfl (fun i hi hn => by show ¬ (94 + 2 * j ≤ 94 + 2 * i ∧ 94 + 2 * i < 94 + 2 * j + 2); omega)))
    (kc_2 (P := fun k y => y.2 = kc_E cy (kc_ad ad (94 + 2 * j) [q0, q1]) (94 + 2 * j + 2) (94 + 2 * j + k))
      (by
        rw [kc_hi _ _ (by omega), kk_fr _ _ (by omega), k_0_f (by omega), k_0_f (by omega), k_0_f (by omega), k_0_f (by omega)]
        show _ = Sum.inr (1, [Value.ref (kc_ad ad (94 + 2 * j) [q0, q1] (94 + 2 * j + 1)), _, _, _, _])
        rw [kc_ad_ge]
        rfl)
      (by rw [kc_hi _ _ (by omega), kk_16 _ _ (by omega), k_0_w (by omega)]))
theorem kc_begin (cy : Nat → ClassId) (q0 q1 q2 q3 q4 q5 : Nat) : ([(q0, .inr (3, [.ref q1, .ref q2, .ref q3, .int (nI 1), .int (-1), .int (nI 0), .int (nI 0), .int (nI 0), .int (nI 0), .ref q4, .ref q5, .int (nI 0), .int (nI 1), .int (nI 0), .int (nI 0)])), (q1, .inl (cy 3, 12, .inr (.inr (.inr (.inr (fun _ => none)))))), (q2, .inl (cy 3, 4, .inr (.inr (.inr (.inr (fun _ => none)))))), (q3, .inl (cy 4, 12, .inr (.inr (.inr (.inr (fun _ => none)))))), (q4, .inl (cy 5, 4, .inr (.inr (.inr (.inr (fun _ => none)))))), (q5, .inl (cy 4, 12, .inr (.inr (.inr (.inr (fun _ => none))))))] : va_W) = kc_W cy (fun i => ([q0, q1, q2, q3, q4, q5] : List Nat).getD i 0) 6 := by
  have e : ∀ t, kc_f t (fun i => ([q0, q1, q2, q3, q4, q5] : List Nat).getD i 0) 6 = fun _ => none := by
    intro t
    unfold kc_f
    split
    · funext j; rw [if_neg (by omega)]
    · split
      · funext j; rw [if_neg (by omega)]
      · split
        · funext j; rw [if_neg (by omega)]
        · split
          · funext j; rw [if_neg (by omega)]
          · funext j; rw [if_neg (by omega)]
  show _ = [(q0, kc_E cy (fun i => ([q0, q1, q2, q3, q4, q5] : List Nat).getD i 0) 6 0), (q1, kc_E cy (fun i => ([q0, q1, q2, q3, q4, q5] : List Nat).getD i 0) 6 1), (q2, kc_E cy (fun i => ([q0, q1, q2, q3, q4, q5] : List Nat).getD i 0) 6 2), (q3, kc_E cy (fun i => ([q0, q1, q2, q3, q4, q5] : List Nat).getD i 0) 6 3), (q4, kc_E cy (fun i => ([q0, q1, q2, q3, q4, q5] : List Nat).getD i 0) 6 4), (q5, kc_E cy (fun i => ([q0, q1, q2, q3, q4, q5] : List Nat).getD i 0) 6 5)]
  rw [kc_a1, kc_a2, kc_a3, kc_a4, kc_a5, e, e, e, e, e]
  rfl
theorem kc_arrV {cA : ClassId} {n : Nat} {f g : Nat → Option Nat} (h : ∀ j, j < n → f j = g j) : vp_cell cA (n, .inr (.inr (.inr (.inr f)))) = vp_cell cA (n, .inr (.inr (.inr (.inr g)))) := by
  rw [vp_cell_q, vp_cell_q]
  unfold arrV
  congr 2
  funext j
  show va_rf (f j.1) = va_rf (g j.1)
  rw [h j.1 j.2]
theorem kc_endP {D : va_G} {cy : Nat → ClassId} {ad : Nat → Nat} {H : Heap} (h : va_P D vwCl (kc_W cy ad 102) H) : va_P D vwCl (kk_W cy ad [] k_0) H := by
  intro k q hk
  have hl : k < 102 := by
    have := (List.getElem?_eq_some_iff.mp hk).1
    simpa [kk_W, me_w] using this
  have e : q = (ad k, kk_E cy ad k (k_0 k)) := by
    have := me_get (E := kk_E cy ad) (ad := ad) (n := 102) (rest := []) (σ := k_0) hl rfl
    exact Option.some.inj (hk.symm.trans this)
  subst e
  have h9 := h k _ (kc_at cy ad hl)
  by_cases h0 : 6 ≤ k ∨ k = 0
  · rwa [kc_hi cy ad h0] at h9
  · have : k = 1 ∨ k = 2 ∨ k = 3 ∨ k = 4 ∨ k = 5 := by omega
    rcases this with rfl | rfl | rfl | rfl | rfl
    · have h9 : H[ad 1]? = some (vp_cell (cy 3) (12, .inr (.inr (.inr (.inr (kc_f 1 ad 102)))))) := h9
      rw [kc_arrV (f := kc_f 1 ad 102) (n := 12) (g := fun j => some (ad (6 + 4 * j))) (fun j hj => if_pos (show j < 12 ∧ 6 + 4 * j < 102 by omega))] at h9
      exact h9
    · have h9 : H[ad 2]? = some (vp_cell (cy 3) (4, .inr (.inr (.inr (.inr (kc_f 2 ad 102)))))) := h9
      rw [kc_arrV (f := kc_f 2 ad 102) (n := 4) (g := fun j => some (ad (6 + 4 * (12 + j)))) (fun j hj => if_pos (show j < 4 ∧ 6 + 4 * (12 + j) < 102 by omega))] at h9
      exact h9
    · have h9 : H[ad 3]? = some (vp_cell (cy 4) (12, .inr (.inr (.inr (.inr (kc_f 3 ad 102)))))) := h9
      rw [kc_arrV (f := kc_f 3 ad 102) (n := 12) (g := fun j => some (ad (70 + 2 * j))) (fun j hj => if_pos (show j < 12 ∧ 70 + 2 * j < 102 by omega))] at h9
      exact h9
    · have h9 : H[ad 4]? = some (vp_cell (cy 5) (4, .inr (.inr (.inr (.inr (kc_f 4 ad 102)))))) := h9
      rw [kc_arrV (f := kc_f 4 ad 102) (n := 4) (g := fun j => some (ad (94 + 2 * j))) (fun j hj => if_pos (show j < 4 ∧ 94 + 2 * j < 102 by omega))] at h9
      exact h9
    · have h9 : H[ad 5]? = some (vp_cell (cy 4) (12, .inr (.inr (.inr (.inr (kc_f 5 ad 102)))))) := h9
      rw [kc_arrV (f := kc_f 5 ad 102) (n := 12) (g := fun j => some (ad (70 + 2 * j + 1))) (fun j hj => if_pos (show j < 12 ∧ 70 + 2 * j + 1 < 102 by omega))] at h9
      exact h9
theorem kc_endD {A : Nat → Prop} {cy : Nat → ClassId} {ad : Nat → Nat} (h : va_D A (kc_W cy ad 102)) : va_D A (kk_W cy ad [] k_0) := by
  have hg : ∀ (k : Nat) (q : Nat × va_E), (kk_W cy ad [] k_0)[k]? = some q → k < 102 ∧ q.1 = ad k := by
    intro k q hk
    have hl : k < 102 := by
      have := (List.getElem?_eq_some_iff.mp hk).1
      simpa [kk_W, me_w] using this
    have := me_get (E := kk_E cy ad) (ad := ad) (n := 102) (rest := []) (σ := k_0) hl rfl
    rw [Option.some.inj (hk.symm.trans this)]
    exact ⟨hl, rfl⟩
  refine ⟨fun i j p q hi hj hpq => ?_, fun k q hk => ?_⟩
  · obtain ⟨h1, h2⟩ := hg i p hi
    obtain ⟨h3, h4⟩ := hg j q hj
    exact h.1 i j _ _ (kc_at cy ad h1) (kc_at cy ad h3) (h2.symm.trans (hpq.trans h4))
  · obtain ⟨h1, h2⟩ := hg k q hk
    rw [h2]
    exact h.2 k _ (kc_at cy ad h1)
/-- the constructor's call: it brings its new cells -/
theorem co_call2 {p : Program} {l : Launch} {e : Env} {R : Room} {s : State} {m : MethodId} {args : Array Value} {below : List Frame} {meth : Method} {c : Code} {H : Heap} {locs : List Loc} {cells slots : Nat} {Q : State → Prop} {pc : Nat} {ls : Array Slot} {rest st : List Value} {D : va_G} {A : Nat → Prop} {tys : List (ClassId × FieldType)} {S : Type} {B : S → va_W} {mc ms : Nat} {w : va_W} (hD : va_D A w) (hS : va_S A s.heap H locs) (hA : ∀ q, s.heap.size ≤ q → A q) {av : Array Value}
    (hr : va_Run p l e R s m args below meth c H locs cells slots mc ms (F0 m pc ls st) rest (va_Qv (fun _ => True) (fun u t => va_P D vwCl (B u) t.heap ∧ va_K D vwCl tys t ∧ va_D (va_A w H.size) (B u)) (va_A w H.size) av) (va_A w H.size))
    (kk : ∀ (u : S) (H1 : Heap) (locs1 : List Loc), va_P D vwCl (B u) H1 → va_D A (B u) → va_S A s.heap H1 locs1 → W p l e R s m args below meth c H1 locs1 (cells + mc) (slots + ms) Q (F0 m (pc + 3) ls rest)) : W p l e R s m args below meth c H locs cells slots Q (F0 m pc ls st) := by
  have hF := me_free hD hS hA
  refine va_callv hr hS (fun q _ h => hF q h) hF (fun u t H1 locs1 ht hvm hw hB hz1 hk1 hS1 => ?_)
  obtain ⟨hP1, hK1, hD1⟩ := hB
  rw [ht] at hP1
  exact kk u H1 locs1 hP1 (hD1.weaken (fun k q _ h => hF q.1 h)) hS1
