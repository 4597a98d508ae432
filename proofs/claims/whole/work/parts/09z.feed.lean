/-! the class: feed -/
section FE
variable {d : Nat} {T : Nat → Nat × Nat} {L : Nat → Nat → Int64} {R : Nat → Nat → Option Nat} {z w : Nat} {J Q : mR} {t : Nat} {S : Int → Int} {cs : List CL}
/-- the byte as the class keeps it, a number -/
def cbI (u : Int64) (k : Nat) : Int := (cbS u k).toInt
theorem t88 (x : Int32) : x.toInt8.toInt32.toInt8 = x.toInt8 := by
  apply Int8.toBitVec_inj.mp
  rw [Int32.toBitVec_toInt8, Int8.toBitVec_toInt32]
  apply BitVec.eq_of_getLsbD_eq
  intro i hi
  rw [BitVec.getLsbD_signExtend, BitVec.getLsbD_signExtend]
  have h32 : i < 32 := by omega
  simp only [hi, h32, decide_true, Bool.true_and, if_true]
theorem fit8 (x : Int8) : fits .byte (.int x.toInt32) = true := by
  have e := Int8.toInt_toInt32 x
  have h1 := Int8.le_toInt x
  have h2 := Int8.toInt_lt x
  unfold fits
  simp only [Bool.and_eq_true, decide_eq_true_eq, Int32.le_iff_toInt_le]
  rw [e]
  exact ⟨by rw [show (-128 : Int32).toInt = -128 from rfl]; omega, by rw [show (127 : Int32).toInt = 127 from rfl]; omega⟩
theorem cb_I (u : Int64) (k : Nat) : iI (cbI u k) = cbS u k := by
  unfold cbI
  exact (iI_self _).symm
/-- the tape of the class -/
def fdJ (u : Int64) : Nat → mR → mR
  | 0, J => J
  | k + 1, J => fdJ u k (ur (ur J 115 (up (J 115) (J 101 7) (cbI u k))) 101 (up (J 101) 7 (J 101 7 + 1)))
theorem fdJ_o (u : Int64) : ∀ (k : Nat) (J : mR), (∀ b, ¬ b = 101 → ¬ b = 115 → fdJ u k J b = J b) ∧ (∀ j, ¬ j = 7 → fdJ u k J 101 j = J 101 j) ∧ fdJ u k J 101 7 = J 101 7 + k := by
  intro k
  induction k with
  | zero => intro J; exact ⟨fun _ _ _ => rfl, fun _ _ => rfl, by simp only [fdJ, nc_0, Int.add_zero]⟩
  | succ k ih =>
    intro J
    obtain ⟨a, b, c⟩ := ih (ur (ur J 115 (up (J 115) (J 101 7) (cbI u k))) 101 (up (J 101) 7 (J 101 7 + 1)))
    simp only [fdJ]
    refine ⟨fun b h1 h2 => (a b h1 h2).trans (by rw [ur_o h1, ur_o h2]), fun j hj => (b j hj).trans (by rw [ur_r, up_o hj]), ?_⟩
    rw [c, ur_r, up_r]; omega
theorem fdS_o (u : Int64) : ∀ (k : Nat) (S : Int → Int), 0 ≤ S 19 → S 19 + k ≤ 120 → ∀ j, ¬ j = 19 → ¬ (30 ≤ j ∧ j < 150) → fdS u k S j = S j := by
  intro k
  induction k with
  | zero => intro S _ _ j _ _; rfl
  | succ k ih =>
    intro S h1 h2 j hj hk
    simp only [fdS]
    rw [ih _ (by rw [up_r]; omega) (by rw [up_r]; omega) j hj hk, up_o hj, up_o (by omega)]
theorem fd_pl (u : Int64) : ∀ (k : Nat) (J : mR) (S : Int → Int), k ≤ 8 → 0 ≤ S 19 → S 19 + k ≤ 120 → (S 17 ≤ 20 ∧ S 18 ≤ 10) → cPl J S → cPl (fdJ u k J) (fdS u k S) := by
  intro k
  induction k with
  | zero => intro J S _ _ _ _ h; exact h
  | succ k ih =>
    intro J S hk h1 h2 hw h
    simp only [fdJ, fdS]
    obtain ⟨⟨p1, p2, p3, p4⟩, p5, p6, p7, p8⟩ := h
    refine ih _ _ (by omega) (by rw [up_r]; omega) (by rw [up_r]; omega) (by rw [up_o (by omega), up_o (by omega), up_o (by omega), up_o (by omega)]; exact hw) ?_
    unfold cPl
    rw [ur_r, ur_o (show ¬ 115 = 101 by omega), ur_r, ur_o (show ¬ 116 = 101 by omega), ur_o (show ¬ 116 = 115 by omega), ur_o (show ¬ 117 = 101 by omega), ur_o (show ¬ 117 = 115 by omega), ur_o (show ¬ 118 = 101 by omega), ur_o (show ¬ 118 = 115 by omega)]
    rw [p2]
    simp (disch := omega) only [up_o, up_r]
    refine ⟨⟨p1, trivial, p3, p4⟩, fun i i0 i1 => ?_, fun i i0 i1 => ?_, fun i i0 i1 => ?_, fun i i0 i1 => ?_⟩
    · rw [up_o (by omega), up_o (by omega)]; exact p5 i i0 i1
    · rw [up_o (by omega), up_o (by omega), up_o (by omega), up_o (by omega)]; exact p6 i i0 i1
    · by_cases e : i = S 19
      · rw [e, up_r, up_o (by omega), up_r, cb_I]
        exact feedC u k (by omega)
      · rw [up_o e, up_o (by omega), up_o (by omega)]; exact p7 i i0 (by omega)
    · by_cases e : i = S 19
      · rw [e, up_r, cb_I]; exact fit8 _
      · rw [up_o e]; exact p8 i i0 i1
theorem cb_8 (u : Int64) (k : Nat) : (u.toUInt64 >>> ((jI (8 * (k : Int))).toUInt64 &&& Int64.toUInt64 63)).toInt64.toInt32.toInt8.toInt32 = iI (cbI u k) := (cb_I u k).symm
theorem cb_9 (u : Int64) (k : Nat) : (iI (cbI u k)).toInt8.toInt32 = iI (cbI u k) := by
  rw [cb_I]; unfold cbS
  exact congrArg Int8.toInt32 (t88 _)
theorem c_feed (hM : cM T R) (ho : oR (tokL cs) S) (hw : oW S) (h : cS T R J t cs S) (hP : cPl J S) (u : Int64) (n : Int) (hn : i32 n) : ∃ J' : mR, rn_c (d + 20) 64 [.ref 100, .long u, .int (iI n)] (T, oI J, L, R, z, w) = some (some (.int (iI (feedV S n))), (T, oI J', L, R, z, w)) ∧ fM t J J' ∧ cS T R J' t cs (feedS u S n) ∧ cPl J' (feedS u S n) := by
  have key : ∀ (k : Nat) (J : mR), k ≤ 8 → 0 ≤ J 101 7 → J 101 7 + k ≤ 120 → rn_r (d + 20) 64 36 [some (.ref 100), some (.long u), none, some (.int (iI n)), some (.int (iI ((k : Int) - 1)))] [] (T, oI J, L, R, z, w) = some (some (.int (iI (J 101 7 + k))), (T, oI (fdJ u k J), L, R, z, w)) := by
    intro k
    induction k with
    | zero =>
      intro J hk h0 h1
      simp only [fdJ, nc_0, Int.add_zero]
      simp (disch := first | omega | exact hJ _ _ | exact rJ_g hJ _ _ | (simp (disch := omega) only [ur_r, ur_o, up_r, up_o]; omega) | assumption) only [s64_36, b64_38, s64_84, s64_84v, s64_85, s64_88, s64_91, hM.t100, hM.t101, hM.r100_0, v_s, kl_i, kl_r, kl_l, kl_n, kl_z, bd_s, tl_s, tl_n, ap_c, ap_n, v_s, v_n, nd_1, nd_0, ct13, eq_self, iI_add, iI_sub, iI_mul, iI_nat, iI_eq, iI_lt, iI_le, iI_eq0, iI_lt0, ↓reduceIte, if_true, if_false, not_true_eq_false, not_false_eq_true, true_and, and_true, false_and, and_false, true_or, or_true, false_or, or_false, Int.reduceLT, Int.reduceLE, Int.reduceEq, Int.reduceAdd, Int.reduceSub, Int.reduceMul, Nat.reduceAdd, Nat.reduceLT, Nat.reduceEqDiff, Int.reduceNeg, nc_s, nc_0, Int.zero_add, Int.add_zero, oI_r, oI_w, oI_f0, oI_g0, oI_f1, oI_g1, oI_f2, oI_g2, oI_f3, oI_g3, oI_f4, oI_g4, oI_f5, oI_g5, oI_f6, oI_g6, oI_f7, oI_g7, oI_f8, oI_g8, oI_f9, oI_g9, oI_f10, oI_g10, oI_f11, oI_g11, oI_f12, oI_g12, oI_f13, oI_g13, oI_f14, oI_g14, oI_f15, oI_g15, oI_f16, oI_g16, oI_f17, oI_g17, oI_f18, oI_g18, oI_f19, oI_g19, oI_f20, oI_g20, oI_f21, oI_g21, oI_f22, oI_g22, oI_f23, oI_g23, oI_f24, oI_g24, oI_f25, oI_g25, ur_r, ur_o, ur_s, up_r, up_o, up_s, jI_add, jI_sub, jI_mul, jI_neg, jI_i, jI_n, lgc_j, cj_lt, cj_ge, cj_gt, cj_le, cj_eq, oL_r, oL_w, oL_f6, oL_g6, oL_f7, oL_g7, oL_f17, oL_g17, oL_f18, oL_g18, dl_T, dl_F, de_T, de_F, dle_T, dle_F, iI_divn, rem_n, nd_v, ct_s, Bool.false_eq_true]
    | succ k ih =>
      intro J hk h0 h1
      simp only [fdJ]
      have b5 := hM.b115 (J 101 7) (by omega)
      have e := ih (ur (ur J 115 (up (J 115) (J 101 7) (cbI u k))) 101 (up (J 101) 7 (J 101 7 + 1))) (by omega) (by rw [ur_r, up_r]; omega) (by rw [ur_r, up_r]; omega)
      have ev : (ur (ur J 115 (up (J 115) (J 101 7) (cbI u k))) 101 (up (J 101) 7 (J 101 7 + 1))) 101 7 + k = J 101 7 + ((k + 1 : Nat) : Int) := by rw [ur_r, up_r]; omega
      rw [ev] at e
      refine Eq.trans ?_ ((s64_81 ..).trans e)
      have e1 : (k : Int) + 1 - 1 = k := by omega
      have e2 : (k : Int) + -1 = k - 1 := by omega
      simp (disch := first | omega | exact hJ _ _ | exact rJ_g hJ _ _ | (simp (disch := omega) only [ur_r, ur_o, up_r, up_o]; omega) | assumption) only [s64_36, b64_38, s64_41, s64_41v, s64_42, s64_45, s64_48, s64_48v, s64_49, s64_52, s64_55, s64_56, s64_58, s64_60, s64_61, s64_62, s64_63, s64_64, s64_65, s64_65v, s64_66, s64_69, s64_70, s64_73, s64_74, s64_75, s64_78, hM.t100, hM.t101, hM.r100_0, hM.r101_6, v_s, b5, cb_8, cb_9, e1, e2, kl_i, kl_r, kl_l, kl_n, kl_z, bd_s, tl_s, tl_n, ap_c, ap_n, v_s, v_n, nd_1, nd_0, ct13, eq_self, iI_add, iI_sub, iI_mul, iI_nat, iI_eq, iI_lt, iI_le, iI_eq0, iI_lt0, ↓reduceIte, if_true, if_false, not_true_eq_false, not_false_eq_true, true_and, and_true, false_and, and_false, true_or, or_true, false_or, or_false, Int.reduceLT, Int.reduceLE, Int.reduceEq, Int.reduceAdd, Int.reduceSub, Int.reduceMul, Nat.reduceAdd, Nat.reduceLT, Nat.reduceEqDiff, Int.reduceNeg, nc_s, nc_0, Int.zero_add, Int.add_zero, oI_r, oI_w, oI_f0, oI_g0, oI_f1, oI_g1, oI_f2, oI_g2, oI_f3, oI_g3, oI_f4, oI_g4, oI_f5, oI_g5, oI_f6, oI_g6, oI_f7, oI_g7, oI_f8, oI_g8, oI_f9, oI_g9, oI_f10, oI_g10, oI_f11, oI_g11, oI_f12, oI_g12, oI_f13, oI_g13, oI_f14, oI_g14, oI_f15, oI_g15, oI_f16, oI_g16, oI_f17, oI_g17, oI_f18, oI_g18, oI_f19, oI_g19, oI_f20, oI_g20, oI_f21, oI_g21, oI_f22, oI_g22, oI_f23, oI_g23, oI_f24, oI_g24, oI_f25, oI_g25, ur_r, ur_o, ur_s, up_r, up_o, up_s, jI_add, jI_sub, jI_mul, jI_neg, jI_i, jI_n, lgc_j, cj_lt, cj_ge, cj_gt, cj_le, cj_eq, oL_r, oL_w, oL_f6, oL_g6, oL_f7, oL_g7, oL_f17, oL_g17, oL_f18, oL_g18, dl_T, dl_F, de_T, de_F, dle_T, dle_F, iI_divn, rem_n, nd_v, ct_s, Bool.false_eq_true]
  obtain ⟨w1, w2, w3, w4, w5⟩ := id hw
  obtain ⟨⟨p1, p2, p3, p4⟩, p5, p6, p7, p8⟩ := id hP
  unfold feedV feedS
  by_cases c : 1 ≤ n ∧ n ≤ 8 ∧ S 19 + n ≤ 120
  · have hnn : (n.toNat : Int) = n := by omega
    have e := key n.toNat J (by omega) (by omega) (by omega)
    rw [hnn, p2] at e
    obtain ⟨o1, o2, o3⟩ := fdJ_o u n.toNat J
    rw [if_neg (by omega), if_neg (by omega), if_neg (by omega), if_neg (by omega), if_neg (by omega), if_neg (by omega)]
    refine ⟨fdJ u n.toNat J, ?_, fun b b1 b2 _ _ => o1 b (by omega) (by omega), cS_o hM ho h (o2 3 (by omega)) (fun b b1 b2 => o1 b b1 (by omega)) (fun j hj => fdS_o u n.toNat S (by omega) (by omega) j (by omega) (by omega)), fd_pl u n.toNat J S (by omega) (by omega) (by omega) ⟨w2.2, w3.2⟩ hP⟩
    refine Eq.trans ?_ e
    simp (disch := first | omega | exact hJ _ _ | exact rJ_g hJ _ _ | (simp (disch := omega) only [ur_r, ur_o, up_r, up_o]; omega) | assumption) only [c64, s64_0, s64_1, b64_2, s64_5, s64_6, b64_8, s64_11, s64_13, s64_14, s64_14v, s64_15, s64_18, s64_21, s64_22, s64_23, b64_25, s64_28, s64_30, s64_31, s64_32, s64_33, s64_34, hM.t100, hM.t101, hM.r100_0, v_s, p2, kl_i, kl_r, kl_l, kl_n, kl_z, bd_s, tl_s, tl_n, ap_c, ap_n, v_s, v_n, nd_1, nd_0, ct13, eq_self, iI_add, iI_sub, iI_mul, iI_nat, iI_eq, iI_lt, iI_le, iI_eq0, iI_lt0, ↓reduceIte, if_true, if_false, not_true_eq_false, not_false_eq_true, true_and, and_true, false_and, and_false, true_or, or_true, false_or, or_false, Int.reduceLT, Int.reduceLE, Int.reduceEq, Int.reduceAdd, Int.reduceSub, Int.reduceMul, Nat.reduceAdd, Nat.reduceLT, Nat.reduceEqDiff, Int.reduceNeg, nc_s, nc_0, Int.zero_add, Int.add_zero, oI_r, oI_w, oI_f0, oI_g0, oI_f1, oI_g1, oI_f2, oI_g2, oI_f3, oI_g3, oI_f4, oI_g4, oI_f5, oI_g5, oI_f6, oI_g6, oI_f7, oI_g7, oI_f8, oI_g8, oI_f9, oI_g9, oI_f10, oI_g10, oI_f11, oI_g11, oI_f12, oI_g12, oI_f13, oI_g13, oI_f14, oI_g14, oI_f15, oI_g15, oI_f16, oI_g16, oI_f17, oI_g17, oI_f18, oI_g18, oI_f19, oI_g19, oI_f20, oI_g20, oI_f21, oI_g21, oI_f22, oI_g22, oI_f23, oI_g23, oI_f24, oI_g24, oI_f25, oI_g25, ur_r, ur_o, ur_s, up_r, up_o, up_s, jI_add, jI_sub, jI_mul, jI_neg, jI_i, jI_n, lgc_j, cj_lt, cj_ge, cj_gt, cj_le, cj_eq, oL_r, oL_w, oL_f6, oL_g6, oL_f7, oL_g7, oL_f17, oL_g17, oL_f18, oL_g18, dl_T, dl_F, de_T, de_F, dle_T, dle_F, iI_divn, rem_n, nd_v, ct_s, Bool.false_eq_true]
  · have es : (if n < 1 then S else if 8 < n then S else if 120 < S 19 + n then S else fdS u n.toNat S) = S := by
      repeat' split
      all_goals first | rfl | omega
    rw [es]
    refine ⟨J, ?_, fM.i, h, hP⟩
    (simp (disch := first | omega | exact hJ _ _ | exact rJ_g hJ _ _ | (simp (disch := omega) only [ur_r, ur_o, up_r, up_o]; omega) | assumption) only [c64, s64_0, s64_1, b64_2, s64_5, s64_6, b64_8, s64_11, s64_13, s64_14, s64_14v, s64_15, s64_18, s64_21, s64_22, s64_23, b64_25, s64_28, s64_30, hM.t100, hM.t101, hM.r100_0, v_s, p2, kl_i, kl_r, kl_l, kl_n, kl_z, bd_s, tl_s, tl_n, ap_c, ap_n, v_s, v_n, nd_1, nd_0, ct13, eq_self, iI_add, iI_sub, iI_mul, iI_nat, iI_eq, iI_lt, iI_le, iI_eq0, iI_lt0, ↓reduceIte, if_true, if_false, not_true_eq_false, not_false_eq_true, true_and, and_true, false_and, and_false, true_or, or_true, false_or, or_false, Int.reduceLT, Int.reduceLE, Int.reduceEq, Int.reduceAdd, Int.reduceSub, Int.reduceMul, Nat.reduceAdd, Nat.reduceLT, Nat.reduceEqDiff, Int.reduceNeg, nc_s, nc_0, Int.zero_add, Int.add_zero, oI_r, oI_w, oI_f0, oI_g0, oI_f1, oI_g1, oI_f2, oI_g2, oI_f3, oI_g3, oI_f4, oI_g4, oI_f5, oI_g5, oI_f6, oI_g6, oI_f7, oI_g7, oI_f8, oI_g8, oI_f9, oI_g9, oI_f10, oI_g10, oI_f11, oI_g11, oI_f12, oI_g12, oI_f13, oI_g13, oI_f14, oI_g14, oI_f15, oI_g15, oI_f16, oI_g16, oI_f17, oI_g17, oI_f18, oI_g18, oI_f19, oI_g19, oI_f20, oI_g20, oI_f21, oI_g21, oI_f22, oI_g22, oI_f23, oI_g23, oI_f24, oI_g24, oI_f25, oI_g25, ur_r, ur_o, ur_s, up_r, up_o, up_s, jI_add, jI_sub, jI_mul, jI_neg, jI_i, jI_n, lgc_j, cj_lt, cj_ge, cj_gt, cj_le, cj_eq, oL_r, oL_w, oL_f6, oL_g6, oL_f7, oL_g7, oL_f17, oL_g17, oL_f18, oL_g18, dl_T, dl_F, de_T, de_F, dle_T, dle_F, iI_divn, rem_n, nd_v, ct_s, Bool.false_eq_true]; repeat' (split <;> (try simp (disch := first | omega | exact hJ _ _ | exact rJ_g hJ _ _ | (simp (disch := omega) only [ur_r, ur_o, up_r, up_o]; omega) | assumption) only [c64, s64_0, s64_1, b64_2, s64_5, s64_6, b64_8, s64_11, s64_13, s64_14, s64_14v, s64_15, s64_18, s64_21, s64_22, s64_23, b64_25, s64_28, s64_30, hM.t100, hM.t101, hM.r100_0, v_s, p2, kl_i, kl_r, kl_l, kl_n, kl_z, bd_s, tl_s, tl_n, ap_c, ap_n, v_s, v_n, nd_1, nd_0, ct13, eq_self, iI_add, iI_sub, iI_mul, iI_nat, iI_eq, iI_lt, iI_le, iI_eq0, iI_lt0, ↓reduceIte, if_true, if_false, not_true_eq_false, not_false_eq_true, true_and, and_true, false_and, and_false, true_or, or_true, false_or, or_false, Int.reduceLT, Int.reduceLE, Int.reduceEq, Int.reduceAdd, Int.reduceSub, Int.reduceMul, Nat.reduceAdd, Nat.reduceLT, Nat.reduceEqDiff, Int.reduceNeg, nc_s, nc_0, Int.zero_add, Int.add_zero, oI_r, oI_w, oI_f0, oI_g0, oI_f1, oI_g1, oI_f2, oI_g2, oI_f3, oI_g3, oI_f4, oI_g4, oI_f5, oI_g5, oI_f6, oI_g6, oI_f7, oI_g7, oI_f8, oI_g8, oI_f9, oI_g9, oI_f10, oI_g10, oI_f11, oI_g11, oI_f12, oI_g12, oI_f13, oI_g13, oI_f14, oI_g14, oI_f15, oI_g15, oI_f16, oI_g16, oI_f17, oI_g17, oI_f18, oI_g18, oI_f19, oI_g19, oI_f20, oI_g20, oI_f21, oI_g21, oI_f22, oI_g22, oI_f23, oI_g23, oI_f24, oI_g24, oI_f25, oI_g25, ur_r, ur_o, ur_s, up_r, up_o, up_s, jI_add, jI_sub, jI_mul, jI_neg, jI_i, jI_n, lgc_j, cj_lt, cj_ge, cj_gt, cj_le, cj_eq, oL_r, oL_w, oL_f6, oL_g6, oL_f7, oL_g7, oL_f17, oL_g17, oL_f18, oL_g18, dl_T, dl_F, de_T, de_F, dle_T, dle_F, iI_divn, rem_n, nd_v, ct_s, Bool.false_eq_true])))
end FE
