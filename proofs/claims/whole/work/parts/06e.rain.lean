/-! looks, as a function of what is asked alone -/
section LK3
variable {d : Nat} {T : Nat → Nat × Nat} {I : Nat → Nat → Int32} {L : Nat → Nat → Int64} {R : Nat → Nat → Option Nat} {z w : Nat} {S X V B : Int → Int}
theorem lkG_V (B B' : Int → Int) (hB : ∀ j, 0 ≤ j ∧ j < 5 → B j = B' j) (hour : Int) : ∀ (ts : List Int) (top r l : Int) (V V' : Int → Int), lkOk ts top → (∀ j, 0 ≤ j ∧ j < top → V j = V' j) → (lkG B hour ts (V, top, r, l)).2.2 = (lkG B' hour ts (V', top, r, l)).2.2 := by
  intro ts
  induction ts with
  | nil => intro top r l V V' _ _; rfl
  | cons t ts ih =>
    intro top r l V V' ho hv
    obtain ⟨ho1, ho2⟩ := ho
    simp only [lkG]
    rcases ho1 with ⟨a1, a2, a3, a4⟩ | ⟨a1, a2, a3⟩ | ⟨a1, a2, a3⟩ | ⟨a1, a2, a3⟩
    · rw [lkT, if_pos a1] at ho2
      simp only [lkS, if_pos a1]
      refine ih _ _ _ _ _ ho2 ?_
      intro j hj
      rw [hB (t % 8) (by omega)]
      unfold up
      by_cases h : j = top
      · rw [if_pos h, if_pos h]
      · rw [if_neg h, if_neg h]; exact hv j (by omega)
    · have n1 : ¬ 0 ≤ t := by omega
      rw [lkT, if_neg n1, if_pos a1] at ho2
      simp only [lkS, if_neg n1, if_pos a1]
      refine ih _ _ _ _ _ ho2 ?_
      intro j hj
      simp only [hv (top - 1) (by omega)]
      unfold up
      by_cases h : j = top - 1
      · rw [if_pos h, if_pos h]
      · rw [if_neg h, if_neg h]; exact hv j hj
    · have n1 : ¬ 0 ≤ t := by omega
      have n2 : ¬ t = -1 := by omega
      have n3 : -10 < t := by omega
      rw [lkT, if_neg n1, if_neg n2, if_pos n3] at ho2
      simp only [lkS, if_neg n1, if_neg n2, if_pos n3]
      refine ih _ _ _ _ _ ho2 ?_
      intro j hj
      simp only [hv (top - 1) (by omega), hv (top - 2) (by omega)]
      unfold up
      by_cases h : j = top - 2
      · rw [if_pos h, if_pos h]
      · rw [if_neg h, if_neg h]; exact hv j (by omega)
    · have n1 : ¬ 0 ≤ t := by omega
      have n2 : ¬ t = -1 := by omega
      have n3 : ¬ -10 < t := by omega
      rw [lkT, if_neg n1, if_neg n2, if_neg n3] at ho2
      simp only [lkS, if_neg n1, if_neg n2, if_neg n3]
      simp only [hv 0 (by omega)]
      exact ih _ _ _ _ _ ho2 (fun j hj => by omega)
def lkRes (ts : List Int) (sky hour per door st : Int) : Int × Int := (lkG (lkB (fun _ => 0) sky hour per door st) hour ts (fun _ => 0, 0, 0, 0)).2.2
theorem lkB_same (B B' : Int → Int) (sky hour per door st : Int) : ∀ j, 0 ≤ j ∧ j < 5 → lkB B sky hour per door st j = lkB B' sky hour per door st j := by
  intro j hj
  unfold lkB up
  by_cases h4 : j = 4
  · rw [if_pos h4, if_pos h4]
  rw [if_neg h4, if_neg h4]
  by_cases h3 : j = 3
  · rw [if_pos h3, if_pos h3]
  rw [if_neg h3, if_neg h3]
  by_cases h2 : j = 2
  · rw [if_pos h2, if_pos h2]
  rw [if_neg h2, if_neg h2]
  by_cases h1 : j = 1
  · rw [if_pos h1, if_pos h1]
  rw [if_neg h1, if_neg h1, if_pos (by omega), if_pos (by omega)]
/-- RAIN, out of ten -/
def rainS (ts : List Int) (hour sky : Int) : Int := if (lkRes ts sky hour 99 99 99).1 ≤ 10 then (lkRes ts sky hour 99 99 99).1 else 10
def lostS (ts : List Int) (sky hour per door st : Int) : Int := (lkRes ts sky hour per door st).2
theorem m_looks2 (h : rM T R) (sky hour per door st : Int) (ts : List Int) (hts : held S ts) (hok : lkOk ts 0) (hr : ∀ j, -2147483648 ≤ S j ∧ S j < 2147483648) (hB : ∀ j, -2147483648 ≤ B j ∧ B j < 2147483648) (hV : ∀ j, 0 ≤ V j ∧ V j ≤ 1) (hh : 0 ≤ hour ∧ hour < 2000) (hsky : 0 ≤ sky ∧ sky ≤ 1) (hper : 0 ≤ per ∧ per < 100) (hdoor : 0 ≤ door ∧ door < 100) (hst : 0 ≤ st ∧ st < 100) :
    ∃ V' B' : Int → Int, (∀ j, 0 ≤ V' j ∧ V' j ≤ 1) ∧ (∀ j, -2147483648 ≤ B' j ∧ B' j < 2147483648) ∧ rn_c (d + 1) 127 [.ref 193, .int (iI sky), .int (iI hour), .int (iI per), .int (iI door), .int (iI st)] (T, lkM I X V B S, L, R, z, w) = some (none, (T, lkM I (lkX X (if (lkRes ts sky hour per door st).1 ≤ 10 then (lkRes ts sky hour per door st).1 else 10) (lostS ts sky hour per door st)) V' B' S, L, R, z, w)) := by
  have e := lkG_V (lkB B sky hour per door st) (lkB (fun _ => 0) sky hour per door st) (lkB_same _ _ _ _ _ _ _) hour ts 0 0 0 V (fun _ => 0) hok (fun j hj => by omega)
  have hmd : 0 ≤ hour % 24 ∧ hour % 24 < 24 := by omega
  refine ⟨(lkG (lkB B sky hour per door st) hour ts (V, 0, 0, 0)).1, lkB B sky hour per door st, lkG_01 (lkB B sky hour per door st) hour ts (V, 0, 0, 0) hV, (up_rng (up_rng (up_rng (up_rng (up_rng hB (by omega)) (by omega)) (by omega)) (by omega)) (by omega) : ∀ j, -2147483648 ≤ lkB B sky hour per door st j ∧ lkB B sky hour per door st j < 2147483648), ?_⟩
  rw [m_looks h sky hour per door st ts hts hok hr hB hV hh hsky hper hdoor hst, e]
  rfl
theorem m_rainOf (h : rM T R) (sky hour : Int) (ts : List Int) (hts : held S ts) (hok : lkOk ts 0) (hr : ∀ j, -2147483648 ≤ S j ∧ S j < 2147483648) (hB : ∀ j, -2147483648 ≤ B j ∧ B j < 2147483648) (hV : ∀ j, 0 ≤ V j ∧ V j ≤ 1) (hh : 0 ≤ hour ∧ hour < 2000) (hsky : 0 ≤ sky ∧ sky ≤ 1) :
    ∃ X' V' B' : Int → Int, (∀ j, 0 ≤ V' j ∧ V' j ≤ 1) ∧ (∀ j, -2147483648 ≤ B' j ∧ B' j < 2147483648) ∧ (∀ j, ¬ j = 12 → ¬ j = 13 → X' j = X j) ∧ rn_c (d + 2) 128 [.ref 193, .int (iI hour), .int (iI sky)] (T, lkM I X V B S, L, R, z, w) = some (some (.int (iI (rainS ts hour sky))), (T, lkM I X' V' B' S, L, R, z, w)) := by
  obtain ⟨V', B', hV', hB', hrun⟩ := m_looks2 (d := d) (I := I) (X := X) (L := L) (z := z) (w := w) h sky hour 99 99 99 ts hts hok hr hB hV hh hsky (by omega) (by omega) (by omega)
  refine ⟨lkX X (if (lkRes ts sky hour 99 99 99).1 ≤ 10 then (lkRes ts sky hour 99 99 99).1 else 10) (lostS ts sky hour 99 99 99), V', B', hV', hB', ?_, ?_⟩
  rotate_left
  · simp (disch := omega) only [c128, s128_0, s128_0v, s128_1, s128_2, s128_3, s128_5, s128_7, s128_9, s128_12, s128_12v, s128_13, s128_16, kl_i, kl_r, kl_l, kl_n, kl_z, bd_s, tl_s, tl_n, ap_c, ap_n, v_s, v_n, nd_1, nd_0, ct13, eq_self, iI_add, iI_sub, iI_mul, iI_nat, iI_eq, iI_lt, iI_le, iI_eq0, iI_lt0, ↓reduceIte, if_true, if_false, not_true_eq_false, not_false_eq_true, true_and, and_true, false_and, and_false, true_or, or_true, false_or, or_false, Int.reduceLT, Int.reduceLE, Int.reduceEq, Int.reduceAdd, Int.reduceSub, Int.reduceMul, Nat.reduceAdd, Nat.reduceLT, Nat.reduceEqDiff, Int.reduceNeg, h.t193, hrun, ov_o, rf12, lkX_12]
    rfl
  · intro j h1 h2
    unfold lkX
    rw [up_o h2, up_o h1]
end LK3
