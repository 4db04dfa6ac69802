/-! THE REFERENCE'S WORLD: 19 cells. 0 the object; 1 homeStamp, 2 homeWord, 3 besideStamp, 4 besidePage, 5 besideWord, 6 logNumber, 7 logPage, 8 logWhich, 9 logWord, 10 framePage, 11 frameStamp, 12 isDirty, 13 asked, 14 frameWord, 15 waitNumber, 16 waitPage, 17 waitWhich, 18 waitWord -/
def mm_E (cy : Nat → ClassId) (ad : Nat → Nat) (i : Nat) (f : Nat → Int32) : va_E := match i with
  | 0 => .inr (4, [.int (f 0), .ref (ad 1), .ref (ad 2), .ref (ad 3), .ref (ad 4), .ref (ad 5), .ref (ad 6), .ref (ad 7), .ref (ad 8), .ref (ad 9), .int (f 10), .ref (ad 10), .ref (ad 11), .ref (ad 12), .ref (ad 13), .ref (ad 14), .int (f 16), .int (f 17), .int (f 18), .ref (ad 15), .ref (ad 16), .ref (ad 17), .ref (ad 18), .int (f 23), .int (f 24), .int (f 25), .int (f 26), .int (f 27), .int (f 28)])
  | 1 => .inl (cy 0, 48, .inl f)
  | 2 => .inl (cy 0, 192, .inl f)
  | 3 => .inl (cy 0, 16, .inl f)
  | 4 => .inl (cy 0, 16, .inl f)
  | 5 => .inl (cy 0, 64, .inl f)
  | 6 => .inl (cy 0, 12, .inl f)
  | 7 => .inl (cy 0, 12, .inl f)
  | 8 => .inl (cy 0, 12, .inl f)
  | 9 => .inl (cy 0, 12, .inl f)
  | 10 => .inl (cy 0, 4, .inl f)
  | 11 => .inl (cy 0, 4, .inl f)
  | 12 => .inl (cy 1, 4, .inl f)
  | 13 => .inl (cy 0, 4, .inl f)
  | 14 => .inl (cy 0, 64, .inl f)
  | 15 => .inl (cy 0, 16, .inl f)
  | 16 => .inl (cy 0, 16, .inl f)
  | 17 => .inl (cy 0, 16, .inl f)
  | 18 => .inl (cy 0, 16, .inl f)
  | _ => .inl (cy 0, 0, .inl f)
abbrev mm_W (cy : Nat → ClassId) (ad : Nat → Nat) (xr : va_W) : me_M → va_W := me_w (mm_E cy ad) ad 19 xr
theorem mm_0 (cy : Nat → ClassId) (ad : Nat → Nat) (f : Nat → Int32) : mm_E cy ad 0 f = .inr (4, [.int (f 0), .ref (ad 1), .ref (ad 2), .ref (ad 3), .ref (ad 4), .ref (ad 5), .ref (ad 6), .ref (ad 7), .ref (ad 8), .ref (ad 9), .int (f 10), .ref (ad 10), .ref (ad 11), .ref (ad 12), .ref (ad 13), .ref (ad 14), .int (f 16), .int (f 17), .int (f 18), .ref (ad 15), .ref (ad 16), .ref (ad 17), .ref (ad 18), .int (f 23), .int (f 24), .int (f 25), .int (f 26), .int (f 27), .int (f 28)]) := rfl
theorem mm_1 (cy : Nat → ClassId) (ad : Nat → Nat) (f : Nat → Int32) : mm_E cy ad 1 f = .inl (cy 0, 48, .inl f) := rfl
theorem mm_2 (cy : Nat → ClassId) (ad : Nat → Nat) (f : Nat → Int32) : mm_E cy ad 2 f = .inl (cy 0, 192, .inl f) := rfl
theorem mm_3 (cy : Nat → ClassId) (ad : Nat → Nat) (f : Nat → Int32) : mm_E cy ad 3 f = .inl (cy 0, 16, .inl f) := rfl
theorem mm_4 (cy : Nat → ClassId) (ad : Nat → Nat) (f : Nat → Int32) : mm_E cy ad 4 f = .inl (cy 0, 16, .inl f) := rfl
theorem mm_5 (cy : Nat → ClassId) (ad : Nat → Nat) (f : Nat → Int32) : mm_E cy ad 5 f = .inl (cy 0, 64, .inl f) := rfl
theorem mm_6 (cy : Nat → ClassId) (ad : Nat → Nat) (f : Nat → Int32) : mm_E cy ad 6 f = .inl (cy 0, 12, .inl f) := rfl
theorem mm_7 (cy : Nat → ClassId) (ad : Nat → Nat) (f : Nat → Int32) : mm_E cy ad 7 f = .inl (cy 0, 12, .inl f) := rfl
theorem mm_8 (cy : Nat → ClassId) (ad : Nat → Nat) (f : Nat → Int32) : mm_E cy ad 8 f = .inl (cy 0, 12, .inl f) := rfl
theorem mm_9 (cy : Nat → ClassId) (ad : Nat → Nat) (f : Nat → Int32) : mm_E cy ad 9 f = .inl (cy 0, 12, .inl f) := rfl
theorem mm_10 (cy : Nat → ClassId) (ad : Nat → Nat) (f : Nat → Int32) : mm_E cy ad 10 f = .inl (cy 0, 4, .inl f) := rfl
theorem mm_11 (cy : Nat → ClassId) (ad : Nat → Nat) (f : Nat → Int32) : mm_E cy ad 11 f = .inl (cy 0, 4, .inl f) := rfl
theorem mm_12 (cy : Nat → ClassId) (ad : Nat → Nat) (f : Nat → Int32) : mm_E cy ad 12 f = .inl (cy 1, 4, .inl f) := rfl
theorem mm_13 (cy : Nat → ClassId) (ad : Nat → Nat) (f : Nat → Int32) : mm_E cy ad 13 f = .inl (cy 0, 4, .inl f) := rfl
theorem mm_14 (cy : Nat → ClassId) (ad : Nat → Nat) (f : Nat → Int32) : mm_E cy ad 14 f = .inl (cy 0, 64, .inl f) := rfl
theorem mm_15 (cy : Nat → ClassId) (ad : Nat → Nat) (f : Nat → Int32) : mm_E cy ad 15 f = .inl (cy 0, 16, .inl f) := rfl
theorem mm_16 (cy : Nat → ClassId) (ad : Nat → Nat) (f : Nat → Int32) : mm_E cy ad 16 f = .inl (cy 0, 16, .inl f) := rfl
theorem mm_17 (cy : Nat → ClassId) (ad : Nat → Nat) (f : Nat → Int32) : mm_E cy ad 17 f = .inl (cy 0, 16, .inl f) := rfl
theorem mm_18 (cy : Nat → ClassId) (ad : Nat → Nat) (f : Nat → Int32) : mm_E cy ad 18 f = .inl (cy 0, 16, .inl f) := rfl
theorem me_nar {x : Int32} (h : x = nI 0 ∨ x = nI 1) : narrow .boolean (.int x) = .int x := by rcases h with rfl | rfl <;> rfl
theorem me_av {l : Launch} {y : MethodName} {ws : List Cond} {rm : Room} {D : va_G} {tys : List (ClassId × FieldType)} {w : me_M → va_W} {av av' : List Value} {sz : Nat} {σ : me_M} {f : Int32 × me_M} (h : av = av') (k : me_Ci l y ws rm D tys w av sz σ f) : me_Ci l y ws rm D tys w av' sz σ f := h ▸ k
theorem me_avv {l : Launch} {y : MethodName} {ws : List Cond} {rm : Room} {D : va_G} {tys : List (ClassId × FieldType)} {w : me_M → va_W} {av av' : List Value} {sz : Nat} {σ : me_M} {f : me_M} (h : av = av') (k : me_Cv l y ws rm D tys w av sz σ f) : me_Cv l y ws rm D tys w av' sz σ f := h ▸ k
