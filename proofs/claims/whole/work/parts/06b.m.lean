/-! helpers of evaluation -/
theorem kl_i (x : Int32) : am_kl (some (.int x)) = some (.int x) := rfl
theorem kl_r (a : Nat) : am_kl (some (.ref a)) = some (.ref a) := rfl
theorem kl_l (x : Int64) : am_kl (some (.long x)) = none := rfl
theorem kl_n : am_kl none = none := rfl
theorem kl_z : am_kl (some .null) = some .null := rfl
theorem bd_s {α β : Type} (x : α) (f : α → Option β) : (some x).bind f = f x := rfl
theorem tl_s (v : Value) : (some v).toList = [v] := rfl
theorem tl_n : (none : Option Value).toList = [] := rfl
theorem ap_c (v : Value) (l : List Value) : [v] ++ l = v :: l := rfl
theorem ap_n (l : List Value) : [] ++ l = l := rfl
theorem v_s (a : Nat) : am_v (some a) = .ref a := rfl
theorem v_n : am_v none = .null := rfl
theorem ct13 : List.contains [13] 13 = true := rfl
theorem nd_1 : iI 1 &&& 1 = iI 1 := by decide +kernel
theorem nd_0 : iI 0 &&& 1 = iI 0 := by decide +kernel
/-- the reference's cells -/
def rM (T : Nat → Nat × Nat) (R : Nat → Nat → Option Nat) : Prop := T 193 = (13, 0) ∧ T 194 = (20, 940) ∧ T 195 = (20, 940) ∧ T 196 = (20, 165) ∧ T 197 = (20, 5) ∧ T 198 = (23, 64) ∧ T 199 = (23, 6) ∧ T 200 = (23, 6) ∧ T 201 = (23, 6) ∧ T 202 = (21, 4) ∧ T 203 = (20, 4) ∧ T 204 = (20, 20) ∧ R 193 1 = some 194 ∧ R 193 2 = some 195 ∧ R 193 4 = some 196 ∧ R 193 10 = some 197 ∧ R 193 11 = some 198 ∧ R 193 14 = some 199 ∧ R 193 15 = some 200 ∧ R 193 16 = some 201 ∧ R 193 19 = some 202 ∧ R 193 20 = some 203 ∧ R 193 21 = some 204
theorem rM.t193 {T : Nat → Nat × Nat} {R : Nat → Nat → Option Nat} (h : rM T R) : T 193 = (13, 0) := h.1
theorem rM.t194 {T : Nat → Nat × Nat} {R : Nat → Nat → Option Nat} (h : rM T R) : T 194 = (20, 940) := h.2.1
theorem rM.t195 {T : Nat → Nat × Nat} {R : Nat → Nat → Option Nat} (h : rM T R) : T 195 = (20, 940) := h.2.2.1
theorem rM.t196 {T : Nat → Nat × Nat} {R : Nat → Nat → Option Nat} (h : rM T R) : T 196 = (20, 165) := h.2.2.2.1
theorem rM.t197 {T : Nat → Nat × Nat} {R : Nat → Nat → Option Nat} (h : rM T R) : T 197 = (20, 5) := h.2.2.2.2.1
theorem rM.t198 {T : Nat → Nat × Nat} {R : Nat → Nat → Option Nat} (h : rM T R) : T 198 = (23, 64) := h.2.2.2.2.2.1
theorem rM.t199 {T : Nat → Nat × Nat} {R : Nat → Nat → Option Nat} (h : rM T R) : T 199 = (23, 6) := h.2.2.2.2.2.2.1
theorem rM.t200 {T : Nat → Nat × Nat} {R : Nat → Nat → Option Nat} (h : rM T R) : T 200 = (23, 6) := h.2.2.2.2.2.2.2.1
theorem rM.t201 {T : Nat → Nat × Nat} {R : Nat → Nat → Option Nat} (h : rM T R) : T 201 = (23, 6) := h.2.2.2.2.2.2.2.2.1
theorem rM.t202 {T : Nat → Nat × Nat} {R : Nat → Nat → Option Nat} (h : rM T R) : T 202 = (21, 4) := h.2.2.2.2.2.2.2.2.2.1
theorem rM.t203 {T : Nat → Nat × Nat} {R : Nat → Nat → Option Nat} (h : rM T R) : T 203 = (20, 4) := h.2.2.2.2.2.2.2.2.2.2.1
theorem rM.t204 {T : Nat → Nat × Nat} {R : Nat → Nat → Option Nat} (h : rM T R) : T 204 = (20, 20) := h.2.2.2.2.2.2.2.2.2.2.2.1
theorem rM.r1 {T : Nat → Nat × Nat} {R : Nat → Nat → Option Nat} (h : rM T R) : R 193 1 = some 194 := h.2.2.2.2.2.2.2.2.2.2.2.2.1
theorem rM.r2 {T : Nat → Nat × Nat} {R : Nat → Nat → Option Nat} (h : rM T R) : R 193 2 = some 195 := h.2.2.2.2.2.2.2.2.2.2.2.2.2.1
theorem rM.r4 {T : Nat → Nat × Nat} {R : Nat → Nat → Option Nat} (h : rM T R) : R 193 4 = some 196 := h.2.2.2.2.2.2.2.2.2.2.2.2.2.2.1
theorem rM.r10 {T : Nat → Nat × Nat} {R : Nat → Nat → Option Nat} (h : rM T R) : R 193 10 = some 197 := h.2.2.2.2.2.2.2.2.2.2.2.2.2.2.2.1
theorem rM.r11 {T : Nat → Nat × Nat} {R : Nat → Nat → Option Nat} (h : rM T R) : R 193 11 = some 198 := h.2.2.2.2.2.2.2.2.2.2.2.2.2.2.2.2.1
theorem rM.r14 {T : Nat → Nat × Nat} {R : Nat → Nat → Option Nat} (h : rM T R) : R 193 14 = some 199 := h.2.2.2.2.2.2.2.2.2.2.2.2.2.2.2.2.2.1
theorem rM.r15 {T : Nat → Nat × Nat} {R : Nat → Nat → Option Nat} (h : rM T R) : R 193 15 = some 200 := h.2.2.2.2.2.2.2.2.2.2.2.2.2.2.2.2.2.2.1
theorem rM.r16 {T : Nat → Nat × Nat} {R : Nat → Nat → Option Nat} (h : rM T R) : R 193 16 = some 201 := h.2.2.2.2.2.2.2.2.2.2.2.2.2.2.2.2.2.2.2.1
theorem rM.r19 {T : Nat → Nat × Nat} {R : Nat → Nat → Option Nat} (h : rM T R) : R 193 19 = some 202 := h.2.2.2.2.2.2.2.2.2.2.2.2.2.2.2.2.2.2.2.2.1
theorem rM.r20 {T : Nat → Nat × Nat} {R : Nat → Nat → Option Nat} (h : rM T R) : R 193 20 = some 203 := h.2.2.2.2.2.2.2.2.2.2.2.2.2.2.2.2.2.2.2.2.2.1
theorem rM.r21 {T : Nat → Nat × Nat} {R : Nat → Nat → Option Nat} (h : rM T R) : R 193 21 = some 204 := h.2.2.2.2.2.2.2.2.2.2.2.2.2.2.2.2.2.2.2.2.2.2
theorem rM.a194 {T : Nat → Nat × Nat} {R : Nat → Nat → Option Nat} (h : rM T R) (z : Int) (hz : 0 ≤ z ∧ z < 940) : am_arr T [20, 30] 194 (iI z) = true := ar_ok h.t194 rfl (by decide) hz
theorem rM.b194 {T : Nat → Nat × Nat} {R : Nat → Nat → Option Nat} (h : rM T R) (z : Int) (hz : 0 ≤ z ∧ z < 940) : am_arr T [20] 194 (iI z) = true := ar_ok h.t194 rfl (by decide) hz
theorem rM.a195 {T : Nat → Nat × Nat} {R : Nat → Nat → Option Nat} (h : rM T R) (z : Int) (hz : 0 ≤ z ∧ z < 940) : am_arr T [20, 30] 195 (iI z) = true := ar_ok h.t195 rfl (by decide) hz
theorem rM.b195 {T : Nat → Nat × Nat} {R : Nat → Nat → Option Nat} (h : rM T R) (z : Int) (hz : 0 ≤ z ∧ z < 940) : am_arr T [20] 195 (iI z) = true := ar_ok h.t195 rfl (by decide) hz
theorem rM.a196 {T : Nat → Nat × Nat} {R : Nat → Nat → Option Nat} (h : rM T R) (z : Int) (hz : 0 ≤ z ∧ z < 165) : am_arr T [20, 30] 196 (iI z) = true := ar_ok h.t196 rfl (by decide) hz
theorem rM.b196 {T : Nat → Nat × Nat} {R : Nat → Nat → Option Nat} (h : rM T R) (z : Int) (hz : 0 ≤ z ∧ z < 165) : am_arr T [20] 196 (iI z) = true := ar_ok h.t196 rfl (by decide) hz
theorem rM.a197 {T : Nat → Nat × Nat} {R : Nat → Nat → Option Nat} (h : rM T R) (z : Int) (hz : 0 ≤ z ∧ z < 5) : am_arr T [20, 30] 197 (iI z) = true := ar_ok h.t197 rfl (by decide) hz
theorem rM.b197 {T : Nat → Nat × Nat} {R : Nat → Nat → Option Nat} (h : rM T R) (z : Int) (hz : 0 ≤ z ∧ z < 5) : am_arr T [20] 197 (iI z) = true := ar_ok h.t197 rfl (by decide) hz
theorem rM.a198 {T : Nat → Nat × Nat} {R : Nat → Nat → Option Nat} (h : rM T R) (z : Int) (hz : 0 ≤ z ∧ z < 64) : am_arr T [22, 23, 32] 198 (iI z) = true := ar_ok h.t198 rfl (by decide) hz
theorem rM.b198 {T : Nat → Nat × Nat} {R : Nat → Nat → Option Nat} (h : rM T R) (z : Int) (hz : 0 ≤ z ∧ z < 64) : am_arr T [23] 198 (iI z) = true := ar_ok h.t198 rfl (by decide) hz
theorem rM.c198 {T : Nat → Nat × Nat} {R : Nat → Nat → Option Nat} (h : rM T R) (z : Int) : am_arr T [22] 198 (iI z) = false := by unfold am_arr; rw [h.t198]; rfl
theorem rM.a199 {T : Nat → Nat × Nat} {R : Nat → Nat → Option Nat} (h : rM T R) (z : Int) (hz : 0 ≤ z ∧ z < 6) : am_arr T [22, 23, 32] 199 (iI z) = true := ar_ok h.t199 rfl (by decide) hz
theorem rM.b199 {T : Nat → Nat × Nat} {R : Nat → Nat → Option Nat} (h : rM T R) (z : Int) (hz : 0 ≤ z ∧ z < 6) : am_arr T [23] 199 (iI z) = true := ar_ok h.t199 rfl (by decide) hz
theorem rM.c199 {T : Nat → Nat × Nat} {R : Nat → Nat → Option Nat} (h : rM T R) (z : Int) : am_arr T [22] 199 (iI z) = false := by unfold am_arr; rw [h.t199]; rfl
theorem rM.a200 {T : Nat → Nat × Nat} {R : Nat → Nat → Option Nat} (h : rM T R) (z : Int) (hz : 0 ≤ z ∧ z < 6) : am_arr T [22, 23, 32] 200 (iI z) = true := ar_ok h.t200 rfl (by decide) hz
theorem rM.b200 {T : Nat → Nat × Nat} {R : Nat → Nat → Option Nat} (h : rM T R) (z : Int) (hz : 0 ≤ z ∧ z < 6) : am_arr T [23] 200 (iI z) = true := ar_ok h.t200 rfl (by decide) hz
theorem rM.c200 {T : Nat → Nat × Nat} {R : Nat → Nat → Option Nat} (h : rM T R) (z : Int) : am_arr T [22] 200 (iI z) = false := by unfold am_arr; rw [h.t200]; rfl
theorem rM.a201 {T : Nat → Nat × Nat} {R : Nat → Nat → Option Nat} (h : rM T R) (z : Int) (hz : 0 ≤ z ∧ z < 6) : am_arr T [22, 23, 32] 201 (iI z) = true := ar_ok h.t201 rfl (by decide) hz
theorem rM.b201 {T : Nat → Nat × Nat} {R : Nat → Nat → Option Nat} (h : rM T R) (z : Int) (hz : 0 ≤ z ∧ z < 6) : am_arr T [23] 201 (iI z) = true := ar_ok h.t201 rfl (by decide) hz
theorem rM.c201 {T : Nat → Nat × Nat} {R : Nat → Nat → Option Nat} (h : rM T R) (z : Int) : am_arr T [22] 201 (iI z) = false := by unfold am_arr; rw [h.t201]; rfl
theorem rM.a202 {T : Nat → Nat × Nat} {R : Nat → Nat → Option Nat} (h : rM T R) (z : Int) (hz : 0 ≤ z ∧ z < 4) : am_arr T [21] 202 (iI z) = true := ar_ok h.t202 rfl (by decide) hz
theorem rM.b202 {T : Nat → Nat × Nat} {R : Nat → Nat → Option Nat} (h : rM T R) (z : Int) (hz : 0 ≤ z ∧ z < 4) : am_arr T [21] 202 (iI z) = true := ar_ok h.t202 rfl (by decide) hz
theorem rM.a203 {T : Nat → Nat × Nat} {R : Nat → Nat → Option Nat} (h : rM T R) (z : Int) (hz : 0 ≤ z ∧ z < 4) : am_arr T [20, 30] 203 (iI z) = true := ar_ok h.t203 rfl (by decide) hz
theorem rM.b203 {T : Nat → Nat × Nat} {R : Nat → Nat → Option Nat} (h : rM T R) (z : Int) (hz : 0 ≤ z ∧ z < 4) : am_arr T [20] 203 (iI z) = true := ar_ok h.t203 rfl (by decide) hz
theorem rM.a204 {T : Nat → Nat × Nat} {R : Nat → Nat → Option Nat} (h : rM T R) (z : Int) (hz : 0 ≤ z ∧ z < 20) : am_arr T [20, 30] 204 (iI z) = true := ar_ok h.t204 rfl (by decide) hz
theorem rM.b204 {T : Nat → Nat × Nat} {R : Nat → Nat → Option Nat} (h : rM T R) (z : Int) (hz : 0 ≤ z ∧ z < 20) : am_arr T [20] 204 (iI z) = true := ar_ok h.t204 rfl (by decide) hz
/-- a row of whole numbers laid over a memory -/
def ov (I : Nat → Nat → Int32) (a : Nat) (V : Int → Int) : Nat → Nat → Int32 := fun b j => if b = a then iI (V j) else I b j
def up (V : Int → Int) (k v : Int) : Int → Int := fun j => if j = k then v else V j
theorem ov_r {I : Nat → Nat → Int32} {a : Nat} {V : Int → Int} {z : Int} (h : 0 ≤ z) : ov I a V a z.toNat = iI (V z) := by
  unfold ov; rw [if_pos rfl, Int.toNat_of_nonneg h]
theorem ov_o {I : Nat → Nat → Int32} {a b j : Nat} {V : Int → Int} (h : ¬ b = a) : ov I a V b j = I b j := by
  unfold ov; rw [if_neg h]
theorem ov_w {I : Nat → Nat → Int32} {a : Nat} {V : Int → Int} {z v : Int} (h : 0 ≤ z) : am_u (ov I a V) a z.toNat (iI v) = ov I a (up V z v) := by
  funext b j
  unfold am_u ov up
  by_cases hb : b = a
  · subst hb
    by_cases hj : j = z.toNat
    · have : (j : Int) = z := by omega
      simp [hj, show ((z.toNat : Nat) : Int) = z from Int.toNat_of_nonneg h]
    · have : ¬ (j : Int) = z := by omega
      simp [hj, this]
  · simp [hb]
theorem ov_p {I : Nat → Nat → Int32} {a b k : Nat} {x : Int32} {V : Int → Int} (h : ¬ b = a) : am_u (ov I a V) b k x = ov (am_u I b k x) a V := by
  funext c j
  unfold am_u ov
  by_cases hc : c = a
  · subst hc
    have : ¬ (c = b ∧ j = k) := fun q => h q.1.symm
    simp [this]
  · simp [hc]
theorem up_r {V : Int → Int} {k v : Int} : up V k v k = v := by unfold up; rw [if_pos rfl]
theorem up_o {V : Int → Int} {k v j : Int} (h : ¬ j = k) : up V k v j = V j := by unfold up; rw [if_neg h]
theorem u_r {α : Type} {I : Nat → Nat → α} {a k : Nat} {x : α} : am_u I a k x a k = x := by unfold am_u; rw [if_pos ⟨rfl, rfl⟩]
theorem u_o {α : Type} {I : Nat → Nat → α} {a k b j : Nat} {x : α} (h : ¬ b = a ∨ ¬ j = k) : am_u I a k x b j = I b j := by
  unfold am_u; rw [if_neg (fun q => h.elim (fun e => e q.1) (fun e => e q.2))]
theorem ov_x {I : Nat → Nat → Int32} {a : Nat} {V V' : Int → Int} (h : ∀ j : Int, 0 ≤ j → V j = V' j) : ov I a V = ov I a V' := by
  funext b j; unfold ov; rw [h j (Int.natCast_nonneg j)]
theorem ov_id (I : Nat → Nat → Int32) (a : Nat) : ov I a (fun j => (I a j.toNat).toInt) = I := by
  funext b j
  unfold ov
  by_cases h : b = a
  · subst h; rw [if_pos rfl]; exact (iI_self _).symm
  · rw [if_neg h]
theorem ov_c {I : Nat → Nat → Int32} {a b : Nat} {V W : Int → Int} (h : ¬ a = b) : ov (ov I a V) b W = ov (ov I b W) a V := by
  funext c j
  unfold ov
  by_cases h1 : c = a
  · have : ¬ c = b := fun q => h (h1.symm.trans q)
    simp [h1, h]
  · simp [h1]
section RM
variable {d : Nat} {T : Nat → Nat × Nat} {I : Nat → Nat → Int32} {L : Nat → Nat → Int64} {R : Nat → Nat → Option Nat} {z w : Nat} {S : Int → Int}
theorem m_in (x y v : Int32) : rn_c d 104 [.int x, .int y, .int v] (T, I, L, R, z, w) = some (some (.int (if y ≤ x ∧ x ≤ v then iI 1 else iI 0)), (T, I, L, R, z, w)) := by
  simp only [c104, s104_0, s104_1, s104_2, s104_5, s104_6, s104_7, s104_10, s104_11, s104_14, s104_15, kl_i, kl_r, kl_l, kl_n, kl_z, bd_s, tl_s, tl_n, ap_c, ap_n, v_s, v_n, nd_1, nd_0, ct13, eq_self, iI_add, iI_sub, iI_mul, iI_nat, iI_eq, iI_lt, iI_le, iI_eq0, iI_lt0, ↓reduceIte, if_true, if_false, not_true_eq_false, not_false_eq_true, true_and, and_true, false_and, and_false, true_or, or_true, false_or, or_false, Int.reduceLT, Int.reduceLE, Int.reduceEq, Int.reduceAdd, Int.reduceSub, Int.reduceMul, Nat.reduceAdd, Nat.reduceLT, Nat.reduceEqDiff, Int.reduceNeg]
  by_cases h1 : x < y
  · rw [if_pos h1, if_neg (fun q => absurd q.1 (Int32.not_le.mpr h1))]
  rw [if_neg h1]
  by_cases h2 : v < x
  · rw [if_pos h2, if_neg (fun q => absurd q.2 (Int32.not_le.mpr h2))]
  rw [if_neg h2, if_pos ⟨Int32.not_lt.mp h1, Int32.not_lt.mp h2⟩]
theorem m_isPerson (h : rM T R) (p : Int32) : rn_c (d + 1) 106 [.ref 193, .int p] (T, ov I 194 S, L, R, z, w) = some (some (.int (if iI 0 ≤ p ∧ p ≤ iI (S 15 - 1) then iI 1 else iI 0)), (T, ov I 194 S, L, R, z, w)) := by
  simp (disch := omega) only [c106, s106_0, s106_1, s106_2, s106_2v, s106_3, s106_6, s106_8, s106_9, s106_10, s106_11, s106_14, kl_i, kl_r, kl_l, kl_n, kl_z, bd_s, tl_s, tl_n, ap_c, ap_n, v_s, v_n, nd_1, nd_0, ct13, eq_self, iI_add, iI_sub, iI_mul, iI_nat, iI_eq, iI_lt, iI_le, iI_eq0, iI_lt0, ↓reduceIte, if_true, if_false, not_true_eq_false, not_false_eq_true, true_and, and_true, false_and, and_false, true_or, or_true, false_or, or_false, Int.reduceLT, Int.reduceLE, Int.reduceEq, Int.reduceAdd, Int.reduceSub, Int.reduceMul, Nat.reduceAdd, Nat.reduceLT, Nat.reduceEqDiff, Int.reduceNeg, h.t193, h.r1, h.a194, ov_r, m_in]
  split <;> simp only [kl_i, kl_r, kl_l, kl_n, kl_z, bd_s, tl_s, tl_n, ap_c, ap_n, v_s, v_n, nd_1, nd_0, ct13, eq_self, iI_add, iI_sub, iI_mul, iI_nat, iI_eq, iI_lt, iI_le, iI_eq0, iI_lt0, ↓reduceIte, if_true, if_false, not_true_eq_false, not_false_eq_true, true_and, and_true, false_and, and_false, true_or, or_true, false_or, or_false, Int.reduceLT, Int.reduceLE, Int.reduceEq, Int.reduceAdd, Int.reduceSub, Int.reduceMul, Nat.reduceAdd, Nat.reduceLT, Nat.reduceEqDiff, Int.reduceNeg]
theorem m_doorOf (h : rM T R) (hr : ∀ j, -2147483648 ≤ S j ∧ S j < 2147483648) (p : Int) (hp : 0 ≤ p ∧ p < 6) : rn_c d 132 [.ref 193, .int (iI p)] (T, ov I 194 S, L, R, z, w) = some (some (.int (iI (if S (4 + p) = 0 then S (162 + p) else S (168 + p)))), (T, ov I 194 S, L, R, z, w)) := by
  simp (disch := first | omega | exact hr _) only [c132, s132_0, s132_0v, s132_1, s132_4, s132_5, s132_6, s132_7, s132_8, s132_11, s132_11v, s132_12, s132_15, s132_18, s132_19, s132_20, s132_21, s132_24, s132_24v, s132_25, s132_28, s132_31, s132_32, s132_33, s132_34, kl_i, kl_r, kl_l, kl_n, kl_z, bd_s, tl_s, tl_n, ap_c, ap_n, v_s, v_n, nd_1, nd_0, ct13, eq_self, iI_add, iI_sub, iI_mul, iI_nat, iI_eq, iI_lt, iI_le, iI_eq0, iI_lt0, ↓reduceIte, if_true, if_false, not_true_eq_false, not_false_eq_true, true_and, and_true, false_and, and_false, true_or, or_true, false_or, or_false, Int.reduceLT, Int.reduceLE, Int.reduceEq, Int.reduceAdd, Int.reduceSub, Int.reduceMul, Nat.reduceAdd, Nat.reduceLT, Nat.reduceEqDiff, Int.reduceNeg, h.t193, h.r1, h.a194, ov_r]
  by_cases g : S (4 + p) = 0 <;> simp [g]
theorem m_otherOf (h : rM T R) (hr : ∀ j, -2147483648 ≤ S j ∧ S j < 2147483648) (p : Int) (hp : 0 ≤ p ∧ p < 6) : rn_c d 133 [.ref 193, .int (iI p)] (T, ov I 194 S, L, R, z, w) = some (some (.int (iI (if S (4 + p) = 0 then S (168 + p) else S (162 + p)))), (T, ov I 194 S, L, R, z, w)) := by
  simp (disch := first | omega | exact hr _) only [c133, s133_0, s133_0v, s133_1, s133_4, s133_5, s133_6, s133_7, s133_8, s133_11, s133_11v, s133_12, s133_15, s133_18, s133_19, s133_20, s133_21, s133_24, s133_24v, s133_25, s133_28, s133_31, s133_32, s133_33, s133_34, kl_i, kl_r, kl_l, kl_n, kl_z, bd_s, tl_s, tl_n, ap_c, ap_n, v_s, v_n, nd_1, nd_0, ct13, eq_self, iI_add, iI_sub, iI_mul, iI_nat, iI_eq, iI_lt, iI_le, iI_eq0, iI_lt0, ↓reduceIte, if_true, if_false, not_true_eq_false, not_false_eq_true, true_and, and_true, false_and, and_false, true_or, or_true, false_or, or_false, Int.reduceLT, Int.reduceLE, Int.reduceEq, Int.reduceAdd, Int.reduceSub, Int.reduceMul, Nat.reduceAdd, Nat.reduceLT, Nat.reduceEqDiff, Int.reduceNeg, h.t193, h.r1, h.a194, ov_r]
  by_cases g : S (4 + p) = 0 <;> simp [g]
theorem m_tellsOf (h : rM T R) (hr : ∀ j, -2147483648 ≤ S j ∧ S j < 2147483648) (a b : Int) (hp : 0 ≤ a ∧ a < 930) (h20 : -1 ≤ S 20 ∧ S 20 < 5) : rn_c d 126 [.ref 193, .int (iI a), .int (iI b)] (T, ov I 194 S, L, R, z, w) = some (some (.int (iI (if S 20 = -1 then b else S (a + S 20)))), (T, ov I 194 S, L, R, z, w)) := by
  by_cases g : S 20 = -1
  · simp (disch := first | omega | exact hr _) only [c126, s126_0, s126_0v, s126_1, s126_4, s126_6, s126_7, s126_8, s126_11, s126_12, s126_15, s126_15v, s126_16, s126_19, s126_20, s126_20v, s126_21, s126_24, s126_26, s126_27, s126_28, s126_29, kl_i, kl_r, kl_l, kl_n, kl_z, bd_s, tl_s, tl_n, ap_c, ap_n, v_s, v_n, nd_1, nd_0, ct13, eq_self, iI_add, iI_sub, iI_mul, iI_nat, iI_eq, iI_lt, iI_le, iI_eq0, iI_lt0, ↓reduceIte, if_true, if_false, not_true_eq_false, not_false_eq_true, true_and, and_true, false_and, and_false, true_or, or_true, false_or, or_false, Int.reduceLT, Int.reduceLE, Int.reduceEq, Int.reduceAdd, Int.reduceSub, Int.reduceMul, Nat.reduceAdd, Nat.reduceLT, Nat.reduceEqDiff, Int.reduceNeg, h.t193, h.r1, h.a194, ov_r, g]
  · simp (disch := first | omega | exact hr _) only [c126, s126_0, s126_0v, s126_1, s126_4, s126_6, s126_7, s126_8, s126_11, s126_12, s126_15, s126_15v, s126_16, s126_19, s126_20, s126_20v, s126_21, s126_24, s126_26, s126_27, s126_28, s126_29, kl_i, kl_r, kl_l, kl_n, kl_z, bd_s, tl_s, tl_n, ap_c, ap_n, v_s, v_n, nd_1, nd_0, ct13, eq_self, iI_add, iI_sub, iI_mul, iI_nat, iI_eq, iI_lt, iI_le, iI_eq0, iI_lt0, ↓reduceIte, if_true, if_false, not_true_eq_false, not_false_eq_true, true_and, and_true, false_and, and_false, true_or, or_true, false_or, or_false, Int.reduceLT, Int.reduceLE, Int.reduceEq, Int.reduceAdd, Int.reduceSub, Int.reduceMul, Nat.reduceAdd, Nat.reduceLT, Nat.reduceEqDiff, Int.reduceNeg, h.t193, h.r1, h.a194, ov_r, g]
theorem m_begins (h : rM T R) : rn_c d 139 [.ref 193] (T, ov I 194 S, L, R, z, w) = some (none, (T, ov I 194 (up (up (up S 12 0) 13 0) 14 0), L, R, z, w)) := by
  simp (disch := omega) only [c139, s139_0, s139_0v, s139_1, s139_4, s139_6, s139_7, s139_8, s139_8v, s139_9, s139_12, s139_14, s139_15, s139_16, s139_16v, s139_17, s139_20, s139_22, s139_23, s139_24, kl_i, kl_r, kl_l, kl_n, kl_z, bd_s, tl_s, tl_n, ap_c, ap_n, v_s, v_n, nd_1, nd_0, ct13, eq_self, iI_add, iI_sub, iI_mul, iI_nat, iI_eq, iI_lt, iI_le, iI_eq0, iI_lt0, ↓reduceIte, if_true, if_false, not_true_eq_false, not_false_eq_true, true_and, and_true, false_and, and_false, true_or, or_true, false_or, or_false, Int.reduceLT, Int.reduceLE, Int.reduceEq, Int.reduceAdd, Int.reduceSub, Int.reduceMul, Nat.reduceAdd, Nat.reduceLT, Nat.reduceEqDiff, Int.reduceNeg, h.t193, h.r1, h.b194, ov_w]
def fk (F S : Int → Int) (f : Int) (n : Int) : Int → Int := fun j => if 15 * f ≤ j ∧ j < 15 * f + n then S (j - 15 * f) else F j
theorem fk_0 (F S : Int → Int) (f : Int) : fk F S f 0 = F := by
  funext j; unfold fk; rw [if_neg (by omega)]
theorem fk_s (F S : Int → Int) (f n : Int) (hn : 0 ≤ n) : up (fk F S f n) (15 * f + n) (S n) = fk F S f (n + 1) := by
  funext j; unfold up fk
  by_cases h : j = 15 * f + n
  · subst h
    rw [if_pos rfl, if_pos (by omega)]
    exact congrArg S (by omega)
  · rw [if_neg h]
    by_cases h2 : 15 * f ≤ j ∧ j < 15 * f + n
    · rw [if_pos h2, if_pos (by omega)]
    · rw [if_neg h2, if_neg (by omega)]
theorem m_keeps_loop (h : rM T R) (F : Int → Int) (f : Int) (hf : 0 ≤ f ∧ f < 11) : ∀ n k : Nat, k + n = 15 → rn_r d 108 2 [some (.ref 193), some (.int (iI f)), some (.int (iI k))] [] (T, ov (ov I 196 (fk F S f k)) 194 S, L, R, z, w) = some (none, (T, ov (ov I 196 (fk F S f 15)) 194 S, L, R, z, w)) := by
  intro n
  induction n with
  | zero =>
    intro k hk
    obtain rfl : k = 15 := by omega
    simp (disch := omega) only [s108_2, s108_3, s108_5, s108_8, s108_8v, s108_9, s108_12, s108_14, s108_15, s108_16, s108_17, s108_18, s108_18v, s108_19, s108_22, s108_23, s108_24, s108_25, s108_31, kl_i, kl_r, kl_l, kl_n, kl_z, bd_s, tl_s, tl_n, ap_c, ap_n, v_s, v_n, nd_1, nd_0, ct13, eq_self, iI_add, iI_sub, iI_mul, iI_nat, iI_eq, iI_lt, iI_le, iI_eq0, iI_lt0, ↓reduceIte, if_true, if_false, not_true_eq_false, not_false_eq_true, true_and, and_true, false_and, and_false, true_or, or_true, false_or, or_false, Int.reduceLT, Int.reduceLE, Int.reduceEq, Int.reduceAdd, Int.reduceSub, Int.reduceMul, Nat.reduceAdd, Nat.reduceLT, Nat.reduceEqDiff, Int.reduceNeg]
    simp
  | succ n ih =>
    intro k hk
    have e : ¬ (15 : Int) ≤ (k : Int) := by omega
    simp (disch := omega) only [s108_2, s108_3, s108_5, s108_8, s108_8v, s108_9, s108_12, s108_14, s108_15, s108_16, s108_17, s108_18, s108_18v, s108_19, s108_22, s108_23, s108_24, s108_25, kl_i, kl_r, kl_l, kl_n, kl_z, bd_s, tl_s, tl_n, ap_c, ap_n, v_s, v_n, nd_1, nd_0, ct13, eq_self, iI_add, iI_sub, iI_mul, iI_nat, iI_eq, iI_lt, iI_le, iI_eq0, iI_lt0, ↓reduceIte, if_true, if_false, not_true_eq_false, not_false_eq_true, true_and, and_true, false_and, and_false, true_or, or_true, false_or, or_false, Int.reduceLT, Int.reduceLE, Int.reduceEq, Int.reduceAdd, Int.reduceSub, Int.reduceMul, Nat.reduceAdd, Nat.reduceLT, Nat.reduceEqDiff, Int.reduceNeg, h.t193, h.r1, h.r4, h.a194, h.b196, e, ov_r, ov_p, ov_w, fk_s]
    rw [s108_28]
    exact ih (k + 1) (by omega)
theorem m_keeps (h : rM T R) (F : Int → Int) (f : Int) (hf : 0 ≤ f ∧ f < 11) : rn_c d 108 [.ref 193, .int (iI f)] (T, ov (ov I 196 F) 194 S, L, R, z, w) = some (none, (T, ov (ov I 196 (fk F S f 15)) 194 S, L, R, z, w)) := by
  simp only [c108, s108_0, s108_1, kl_i, kl_r, kl_l, kl_n, kl_z, bd_s, tl_s, tl_n, ap_c, ap_n, v_s, v_n, nd_1, nd_0, ct13, eq_self, iI_add, iI_sub, iI_mul, iI_nat, iI_eq, iI_lt, iI_le, iI_eq0, iI_lt0, ↓reduceIte, if_true, if_false, not_true_eq_false, not_false_eq_true, true_and, and_true, false_and, and_false, true_or, or_true, false_or, or_false, Int.reduceLT, Int.reduceLE, Int.reduceEq, Int.reduceAdd, Int.reduceSub, Int.reduceMul, Nat.reduceAdd, Nat.reduceLT, Nat.reduceEqDiff, Int.reduceNeg]
  have := m_keeps_loop (d := d) (I := I) (L := L) (z := z) (w := w) (S := S) h F f hf 15 0 rfl
  rw [show ((0 : Nat) : Int) = 0 from rfl, fk_0] at this
  exact this
theorem ov_s0 (S F : Int → Int) (f : Int) : (fun j => if 0 ≤ j ∧ j < 0 then F (15 * f + j) else S j) = S := by
  funext j; rw [if_neg (by omega)]
def bk (S F : Int → Int) (f n : Int) : Int → Int := fun j => if 0 ≤ j ∧ j < n then F (15 * f + j) else S j
theorem bk_0 (S F : Int → Int) (f : Int) : bk S F f 0 = S := ov_s0 S F f
theorem bk_s (S F : Int → Int) (f n : Int) (hn : 0 ≤ n) : up (bk S F f n) n (F (15 * f + n)) = bk S F f (n + 1) := by
  funext j; unfold up bk
  by_cases h : j = n
  · subst h; rw [if_pos rfl, if_pos (by omega)]
  · rw [if_neg h]
    by_cases h2 : 0 ≤ j ∧ j < n
    · rw [if_pos h2, if_pos (by omega)]
    · rw [if_neg h2, if_neg (by omega)]
theorem m_goesBackTo_loop (h : rM T R) (F : Int → Int) (f : Int) (hf : 0 ≤ f ∧ f < 11) : ∀ n k : Nat, k + n = 15 → rn_r d 109 2 [some (.ref 193), some (.int (iI f)), some (.int (iI k))] [] (T, ov (ov I 196 F) 194 (bk S F f k), L, R, z, w) = some (none, (T, ov (ov I 196 F) 194 (bk S F f 15), L, R, z, w)) := by
  intro n
  induction n with
  | zero =>
    intro k hk
    obtain rfl : k = 15 := by omega
    simp (disch := omega) only [s109_2, s109_3, s109_5, s109_8, s109_8v, s109_9, s109_12, s109_13, s109_13v, s109_14, s109_17, s109_19, s109_20, s109_21, s109_22, s109_23, s109_24, s109_25, s109_31, kl_i, kl_r, kl_l, kl_n, kl_z, bd_s, tl_s, tl_n, ap_c, ap_n, v_s, v_n, nd_1, nd_0, ct13, eq_self, iI_add, iI_sub, iI_mul, iI_nat, iI_eq, iI_lt, iI_le, iI_eq0, iI_lt0, ↓reduceIte, if_true, if_false, not_true_eq_false, not_false_eq_true, true_and, and_true, false_and, and_false, true_or, or_true, false_or, or_false, Int.reduceLT, Int.reduceLE, Int.reduceEq, Int.reduceAdd, Int.reduceSub, Int.reduceMul, Nat.reduceAdd, Nat.reduceLT, Nat.reduceEqDiff, Int.reduceNeg]
    simp
  | succ n ih =>
    intro k hk
    have e : ¬ (15 : Int) ≤ (k : Int) := by omega
    simp (disch := omega) only [s109_2, s109_3, s109_5, s109_8, s109_8v, s109_9, s109_12, s109_13, s109_13v, s109_14, s109_17, s109_19, s109_20, s109_21, s109_22, s109_23, s109_24, s109_25, kl_i, kl_r, kl_l, kl_n, kl_z, bd_s, tl_s, tl_n, ap_c, ap_n, v_s, v_n, nd_1, nd_0, ct13, eq_self, iI_add, iI_sub, iI_mul, iI_nat, iI_eq, iI_lt, iI_le, iI_eq0, iI_lt0, ↓reduceIte, if_true, if_false, not_true_eq_false, not_false_eq_true, true_and, and_true, false_and, and_false, true_or, or_true, false_or, or_false, Int.reduceLT, Int.reduceLE, Int.reduceEq, Int.reduceAdd, Int.reduceSub, Int.reduceMul, Nat.reduceAdd, Nat.reduceLT, Nat.reduceEqDiff, Int.reduceNeg, h.t193, h.r1, h.r4, h.b194, h.a196, e, ov_r, ov_o, ov_p, ov_w, bk_s]
    rw [s109_28]
    exact ih (k + 1) (by omega)
theorem m_goesBackTo (h : rM T R) (F : Int → Int) (f : Int) (hf : 0 ≤ f ∧ f < 11) : rn_c d 109 [.ref 193, .int (iI f)] (T, ov (ov I 196 F) 194 S, L, R, z, w) = some (none, (T, ov (ov I 196 F) 194 (bk S F f 15), L, R, z, w)) := by
  simp only [c109, s109_0, s109_1, kl_i, kl_r, kl_l, kl_n, kl_z, bd_s, tl_s, tl_n, ap_c, ap_n, v_s, v_n, nd_1, nd_0, ct13, eq_self, iI_add, iI_sub, iI_mul, iI_nat, iI_eq, iI_lt, iI_le, iI_eq0, iI_lt0, ↓reduceIte, if_true, if_false, not_true_eq_false, not_false_eq_true, true_and, and_true, false_and, and_false, true_or, or_true, false_or, or_false, Int.reduceLT, Int.reduceLE, Int.reduceEq, Int.reduceAdd, Int.reduceSub, Int.reduceMul, Nat.reduceAdd, Nat.reduceLT, Nat.reduceEqDiff, Int.reduceNeg]
  have := m_goesBackTo_loop (d := d) (I := I) (L := L) (z := z) (w := w) (S := S) h F f hf 15 0 rfl
  rw [show ((0 : Nat) : Int) = 0 from rfl, bk_0] at this
  exact this
end RM
