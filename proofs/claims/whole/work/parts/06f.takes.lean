/-! the reference's doesTake -/
section DT
variable {d : Nat} {T : Nat → Nat × Nat} {I : Nat → Nat → Int32} {L : Nat → Nat → Int64} {R : Nat → Nat → Option Nat} {z w : Nat} {S X V B : Int → Int}
def dOf (S : Int → Int) (p : Int) : Int := if S (4 + p) = 0 then S (162 + p) else S (168 + p)
def oOf (S : Int → Int) (p : Int) : Int := if S (4 + p) = 0 then S (168 + p) else S (162 + p)
/-- what must be so of the rows that are walked over -/
def okS (S : Int → Int) : Prop := (∀ j, -2147483648 ≤ S j ∧ S j < 2147483648) ∧ (∀ p, 0 ≤ p ∧ p < 6 → 0 ≤ S (162 + p) ∧ S (162 + p) < 4 ∧ 0 ≤ S (168 + p) ∧ S (168 + p) < 4) ∧ (∀ j, 0 ≤ j ∧ j < 4 → 0 ≤ S j ∧ S j ≤ 9) ∧ (0 ≤ S 10 ∧ S 10 < 1100)
theorem dOf_r (h : okS S) (p : Int) (hp : 0 ≤ p ∧ p < 6) : 0 ≤ dOf S p ∧ dOf S p < 4 := by
  have := h.2.1 p hp
  unfold dOf; split <;> omega
theorem oOf_r (h : okS S) (p : Int) (hp : 0 ≤ p ∧ p < 6) : 0 ≤ oOf S p ∧ oOf S p < 4 := by
  have := h.2.1 p hp
  unfold oOf; split <;> omega
theorem m_doorOf' (h : rM T R) (ho : okS S) (p : Int) (hp : 0 ≤ p ∧ p < 6) : rn_c d 132 [.ref 193, .int (iI p)] (T, ov I 194 S, L, R, z, w) = some (some (.int (iI (dOf S p))), (T, ov I 194 S, L, R, z, w)) := m_doorOf h ho.1 p hp
theorem m_otherOf' (h : rM T R) (ho : okS S) (p : Int) (hp : 0 ≤ p ∧ p < 6) : rn_c d 133 [.ref 193, .int (iI p)] (T, ov I 194 S, L, R, z, w) = some (some (.int (iI (oOf S p))), (T, ov I 194 S, L, R, z, w)) := m_otherOf h ho.1 p hp
/-- doesTake up to the question whether there is one -/
theorem dt_head (h : rM T R) (ho : okS S) (p sky : Int) (hp : 0 ≤ p ∧ p < 6) : rn_c (d + 1) 134 [.ref 193, .int (iI p), .int (iI sky)] (T, ov I 194 S, L, R, z, w) = rn_r (d + 1) 134 54 [some (.ref 193), some (.int (iI p)), some (.int (iI sky)), some (.int (iI (S (dOf S p)))), some (.int (iI (S (156 + p)))), some (.int (iI (if S (dOf S p) < S (156 + p) then 0 else if S (dOf S p) ≤ S (oOf S p) then 0 else 1)))] [] (T, ov I 194 S, L, R, z, w) := by
  have r1 := dOf_r ho p hp
  have r2 := oOf_r ho p hp
  have r3 := ho.2.2.1 _ r1
  have r4 := ho.2.2.1 _ r2
  have r5 := ho.1 (156 + p)
  by_cases c1 : S (dOf S p) < S (156 + p)
  · simp (disch := omega) only [c134, s134_0, s134_0v, s134_1, s134_4, s134_5, s134_5v, s134_6, s134_7, s134_10, s134_11, s134_12, s134_13, s134_13v, s134_14, s134_17, s134_20, s134_21, s134_22, s134_23, s134_25, s134_26, s134_28, s134_31, s134_32, s134_32v, s134_33, s134_36, s134_37, s134_37v, s134_38, s134_39, s134_42, s134_43, s134_44, s134_47, s134_48, s134_51, s134_52, kl_i, kl_r, kl_l, kl_n, kl_z, bd_s, tl_s, tl_n, ap_c, ap_n, v_s, v_n, nd_1, nd_0, ct13, eq_self, iI_add, iI_sub, iI_mul, iI_nat, iI_eq, iI_lt, iI_le, iI_eq0, iI_lt0, ↓reduceIte, if_true, if_false, not_true_eq_false, not_false_eq_true, true_and, and_true, false_and, and_false, true_or, or_true, false_or, or_false, Int.reduceLT, Int.reduceLE, Int.reduceEq, Int.reduceAdd, Int.reduceSub, Int.reduceMul, Nat.reduceAdd, Nat.reduceLT, Nat.reduceEqDiff, Int.reduceNeg, h.t193, h.r1, h.a194, ov_r, m_doorOf' h ho, m_otherOf' h ho, Int.zero_add, c1]
  · by_cases c2 : S (dOf S p) ≤ S (oOf S p) <;>
      simp (disch := omega) only [c134, s134_0, s134_0v, s134_1, s134_4, s134_5, s134_5v, s134_6, s134_7, s134_10, s134_11, s134_12, s134_13, s134_13v, s134_14, s134_17, s134_20, s134_21, s134_22, s134_23, s134_25, s134_26, s134_28, s134_31, s134_32, s134_32v, s134_33, s134_36, s134_37, s134_37v, s134_38, s134_39, s134_42, s134_43, s134_44, s134_47, s134_48, s134_51, s134_52, kl_i, kl_r, kl_l, kl_n, kl_z, bd_s, tl_s, tl_n, ap_c, ap_n, v_s, v_n, nd_1, nd_0, ct13, eq_self, iI_add, iI_sub, iI_mul, iI_nat, iI_eq, iI_lt, iI_le, iI_eq0, iI_lt0, ↓reduceIte, if_true, if_false, not_true_eq_false, not_false_eq_true, true_and, and_true, false_and, and_false, true_or, or_true, false_or, or_false, Int.reduceLT, Int.reduceLE, Int.reduceEq, Int.reduceAdd, Int.reduceSub, Int.reduceMul, Nat.reduceAdd, Nat.reduceLT, Nat.reduceEqDiff, Int.reduceNeg, h.t193, h.r1, h.a194, ov_r, m_doorOf' h ho, m_otherOf' h ho, Int.zero_add, c1, c2]
end DT
