/-! the class: feed -/
section FE
variable {d : Nat} {T : Nat → Nat × Nat} {L : Nat → Nat → Int64} {R : Nat → Nat → Option Nat} {z w : Nat} {J Q : mR} {t : Nat} {S : Int → Int} {cs : List CL}
/-- the byte as the class keeps it, a number -/
def cbI (u : Int64) (k : Nat) : Int := (cbS u k).toInt
theorem t88 (x : Int32) : x.toInt8.toInt32.toInt8 = x.toInt8 := by
  apply Int8.toBitVec_inj.mp
  rw [Int32.toBitVec_toInt8, Int8.toBitVec_toInt32]
  apply BitVec.eq_of_getLsbD_eq
  intro i hi
  rw [BitVec.getLsbD_signExtend, BitVec.getLsbD_signExtend]
  have h32 : i < 32 := by omega
  simp only [hi, h32, decide_true, Bool.true_and, if_true]
theorem fit8 (x : Int8) : fits .byte (.int x.toInt32) = true := by
  have e := Int8.toInt_toInt32 x
  have h1 := Int8.le_toInt x
  have h2 := Int8.toInt_lt x
  unfold fits
  simp only [Bool.and_eq_true, decide_eq_true_eq, Int32.le_iff_toInt_le]
  rw [e]
  exact ⟨by rw [show (-128 : Int32).toInt = -128 from rfl]; omega, by rw [show (127 : Int32).toInt = 127 from rfl]; omega⟩
theorem cb_I (u : Int64) (k : Nat) : iI (cbI u k) = cbS u k := by
  unfold cbI
  exact (iI_self _).symm
/-- the tape of the class -/
def fdJ (u : Int64) : Nat → mR → mR
  | 0, J => J
  | k + 1, J => fdJ u k (ur (ur J 115 (up (J 115) (J 101 7) (cbI u k))) 101 (up (J 101) 7 (J 101 7 + 1)))
theorem fdJ_o (u : Int64) : ∀ (k : Nat) (J : mR), (∀ b, ¬ b = 101 → ¬ b = 115 → fdJ u k J b = J b) ∧ (∀ j, ¬ j = 7 → fdJ u k J 101 j = J 101 j) ∧ fdJ u k J 101 7 = J 101 7 + k := by
  intro k
  induction k with
  | zero => intro J; exact ⟨fun _ _ _ => rfl, fun _ _ => rfl, by simp only [fdJ, nc_0, Int.add_zero]⟩
  | succ k ih =>
    intro J
    obtain ⟨a, b, c⟩ := ih (ur (ur J 115 (up (J 115) (J 101 7) (cbI u k))) 101 (up (J 101) 7 (J 101 7 + 1)))
    simp only [fdJ]
    refine ⟨fun b h1 h2 => (a b h1 h2).trans (by rw [ur_o h1, ur_o h2]), fun j hj => (b j hj).trans (by rw [ur_r, up_o hj]), ?_⟩
    rw [c, ur_r, up_r]; omega
theorem fdS_o (u : Int64) : ∀ (k : Nat) (S : Int → Int), 0 ≤ S 19 → S 19 + k ≤ 120 → ∀ j, ¬ j = 19 → ¬ (30 ≤ j ∧ j < 150) → fdS u k S j = S j := by
  intro k
  induction k with
  | zero => intro S _ _ j _ _; rfl
  | succ k ih =>
    intro S h1 h2 j hj hk
    simp only [fdS]
    rw [ih _ (by rw [up_r]; omega) (by rw [up_r]; omega) j hj hk, up_o hj, up_o (by omega)]
theorem fd_pl (u : Int64) : ∀ (k : Nat) (J : mR) (S : Int → Int), k ≤ 8 → 0 ≤ S 19 → S 19 + k ≤ 120 → (S 17 ≤ 20 ∧ S 18 ≤ 10) → cPl J S → cPl (fdJ u k J) (fdS u k S) := by
  intro k
  induction k with
  | zero => intro J S _ _ _ _ h; exact h
  | succ k ih =>
    intro J S hk h1 h2 hw h
    simp only [fdJ, fdS]
    obtain ⟨⟨p1, p2, p3, p4⟩, p5, p6, p7, p8⟩ := h
    refine ih _ _ (by omega) (by rw [up_r]; omega) (by rw [up_r]; omega) (by rw [up_o (by omega), up_o (by omega), up_o (by omega), up_o (by omega)]; exact hw) ?_
    unfold cPl
    rw [ur_r, ur_o (show ¬ 115 = 101 by omega), ur_r, ur_o (show ¬ 116 = 101 by omega), ur_o (show ¬ 116 = 115 by omega), ur_o (show ¬ 117 = 101 by omega), ur_o (show ¬ 117 = 115 by omega), ur_o (show ¬ 118 = 101 by omega), ur_o (show ¬ 118 = 115 by omega)]
    rw [p2]
    simp (disch := omega) only [up_o, up_r]
    refine ⟨⟨p1, trivial, p3, p4⟩, fun i i0 i1 => ?_, fun i i0 i1 => ?_, fun i i0 i1 => ?_, fun i i0 i1 => ?_⟩
    · rw [up_o (by omega), up_o (by omega)]; exact p5 i i0 i1
    · rw [up_o (by omega), up_o (by omega), up_o (by omega), up_o (by omega)]; exact p6 i i0 i1
    · by_cases e : i = S 19
      · rw [e, up_r, up_o (by omega), up_r, cb_I]
        exact feedC u k (by omega)
      · rw [up_o e, up_o (by omega), up_o (by omega)]; exact p7 i i0 (by omega)
    · by_cases e : i = S 19
      · rw [e, up_r, cb_I]; exact fit8 _
      · rw [up_o e]; exact p8 i i0 i1
end FE
