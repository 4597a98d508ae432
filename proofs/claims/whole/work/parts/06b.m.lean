/-! first meanings -/
theorem kl_i (x : Int32) : am_kl (some (.int x)) = some (.int x) := rfl
theorem kl_r (a : Nat) : am_kl (some (.ref a)) = some (.ref a) := rfl
theorem kl_l (x : Int64) : am_kl (some (.long x)) = none := rfl
theorem kl_n : am_kl none = none := rfl
theorem kl_z : am_kl (some .null) = some .null := rfl
theorem bd_s {α β : Type} (x : α) (f : α → Option β) : (some x).bind f = f x := rfl
theorem tl_s (v : Value) : (some v).toList = [v] := rfl
theorem tl_n : (none : Option Value).toList = [] := rfl
theorem ap_c (v : Value) (l : List Value) : [v] ++ l = v :: l := rfl
theorem ap_n (l : List Value) : [] ++ l = l := rfl
theorem nd_1 : iI 1 &&& 1 = iI 1 := by decide +kernel
theorem nd_0 : iI 0 &&& 1 = iI 0 := by decide +kernel
def bI (p : Prop) [Decidable p] : Int32 := if p then iI 1 else iI 0
theorem m_isDoor (d : Nat) (x : Int32) (T : Nat → Nat × Nat) (I : Nat → Nat → Int32) (L : Nat → Nat → Int64) (R : Nat → Nat → Option Nat) (z w : Nat) : rn_c d 89 [.int x] (T, I, L, R, z, w) = some (some (.int (if iI 0 ≤ x ∧ x < iI 4 then iI 1 else iI 0)), (T, I, L, R, z, w)) := by
  simp only [c89, s89_0, s89_1, s89_4, s89_5, s89_6, s89_9, s89_10, s89_13, s89_14, nd_1, nd_0, if_true]
  sorry
theorem m_in (d : Nat) (x y v : Int32) (T : Nat → Nat × Nat) (I : Nat → Nat → Int32) (L : Nat → Nat → Int64) (R : Nat → Nat → Option Nat) (z w : Nat) : rn_c d 104 [.int x, .int y, .int v] (T, I, L, R, z, w) = some (some (.int (if y ≤ x ∧ x ≤ v then iI 1 else iI 0)), (T, I, L, R, z, w)) := by
  simp only [c104, s104_0, s104_1, s104_2, s104_5, s104_6, s104_7, s104_10, s104_11, s104_14, s104_15, nd_1, nd_0, if_true]
  sorry
