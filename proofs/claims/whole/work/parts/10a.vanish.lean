/-! the class: vanish -/
section VN
variable {d : Nat} {T : Nat → Nat × Nat} {I : Nat → Nat → Int32} {L : Nat → Nat → Int64} {R : Nat → Nat → Option Nat} {z w : Nat} {J Q : mR} {t : Nat} {S : Int → Int} {cs : List CL}
theorem vs_0 (S : Int → Int) (a : Int) : ∀ r : Nat, (vsS S a r).2 = 0 → (vsS S a r).1 = 0 := by
  intro r
  induction r with
  | zero => intro _; rfl
  | succ r ih =>
    simp only [vsS]
    by_cases c : (vsS S a r).2 = 0
    · rw [if_pos c, ih c]
      by_cases e : S (200 + (r : Int)) = a
      · rw [if_pos e]; intro q; omega
      · rw [if_neg e, if_neg e]; intro _; rfl
    · rw [if_neg c]; intro q; omega
def vaI (v : Int × Int) : Int := if v.2 = 0 then -1 else v.1
theorem j_max (x y : Int) (hx : i32 x) (hy : i32 y) : rn_c d 191 [.int (iI x), .int (iI y)] (T, I, L, R, z, w) = some (some (.int (iI (if x < y then y else x))), (T, I, L, R, z, w)) := by
  by_cases c : x < y
  · rw [if_pos c]
    simp (disch := first | omega | exact hJ _ _ | exact rJ_g hJ _ _ | (simp (disch := omega) only [ur_r, ur_o, up_r, up_o]; omega) | assumption) only [c191, s191_0, s191_1, b191_2, s191_5, s191_6, s191_9, s191_10, kl_i, kl_r, kl_l, kl_n, kl_z, bd_s, tl_s, tl_n, ap_c, ap_n, v_s, v_n, nd_1, nd_0, ct13, eq_self, iI_add, iI_sub, iI_mul, iI_nat, iI_eq, iI_lt, iI_le, iI_eq0, iI_lt0, ↓reduceIte, if_true, if_false, not_true_eq_false, not_false_eq_true, true_and, and_true, false_and, and_false, true_or, or_true, false_or, or_false, Int.reduceLT, Int.reduceLE, Int.reduceEq, Int.reduceAdd, Int.reduceSub, Int.reduceMul, Nat.reduceAdd, Nat.reduceLT, Nat.reduceEqDiff, Int.reduceNeg, nc_s, nc_0, Int.zero_add, Int.add_zero, oI_r, oI_w, oI_f0, oI_g0, oI_f1, oI_g1, oI_f2, oI_g2, oI_f3, oI_g3, oI_f4, oI_g4, oI_f5, oI_g5, oI_f6, oI_g6, oI_f7, oI_g7, oI_f8, oI_g8, oI_f9, oI_g9, oI_f10, oI_g10, oI_f11, oI_g11, oI_f12, oI_g12, oI_f13, oI_g13, oI_f14, oI_g14, oI_f15, oI_g15, oI_f16, oI_g16, oI_f17, oI_g17, oI_f18, oI_g18, oI_f19, oI_g19, oI_f20, oI_g20, oI_f21, oI_g21, oI_f22, oI_g22, oI_f23, oI_g23, oI_f24, oI_g24, oI_f25, oI_g25, ur_r, ur_o, ur_s, up_r, up_o, up_s, jI_add, jI_sub, jI_mul, jI_neg, jI_i, jI_n, lgc_j, cj_lt, cj_ge, cj_gt, cj_le, cj_eq, oL_r, oL_w, oL_f6, oL_g6, oL_f7, oL_g7, oL_f17, oL_g17, oL_f18, oL_g18, dl_T, dl_F, de_T, de_F, dle_T, dle_F, iI_divn, rem_n, nd_v, ct_s, Bool.false_eq_true]
  · rw [if_neg c]
    simp (disch := first | omega | exact hJ _ _ | exact rJ_g hJ _ _ | (simp (disch := omega) only [ur_r, ur_o, up_r, up_o]; omega) | assumption) only [c191, s191_0, s191_1, b191_2, s191_5, s191_6, s191_9, s191_10, kl_i, kl_r, kl_l, kl_n, kl_z, bd_s, tl_s, tl_n, ap_c, ap_n, v_s, v_n, nd_1, nd_0, ct13, eq_self, iI_add, iI_sub, iI_mul, iI_nat, iI_eq, iI_lt, iI_le, iI_eq0, iI_lt0, ↓reduceIte, if_true, if_false, not_true_eq_false, not_false_eq_true, true_and, and_true, false_and, and_false, true_or, or_true, false_or, or_false, Int.reduceLT, Int.reduceLE, Int.reduceEq, Int.reduceAdd, Int.reduceSub, Int.reduceMul, Nat.reduceAdd, Nat.reduceLT, Nat.reduceEqDiff, Int.reduceNeg, nc_s, nc_0, Int.zero_add, Int.add_zero, oI_r, oI_w, oI_f0, oI_g0, oI_f1, oI_g1, oI_f2, oI_g2, oI_f3, oI_g3, oI_f4, oI_g4, oI_f5, oI_g5, oI_f6, oI_g6, oI_f7, oI_g7, oI_f8, oI_g8, oI_f9, oI_g9, oI_f10, oI_g10, oI_f11, oI_g11, oI_f12, oI_g12, oI_f13, oI_g13, oI_f14, oI_g14, oI_f15, oI_g15, oI_f16, oI_g16, oI_f17, oI_g17, oI_f18, oI_g18, oI_f19, oI_g19, oI_f20, oI_g20, oI_f21, oI_g21, oI_f22, oI_g22, oI_f23, oI_g23, oI_f24, oI_g24, oI_f25, oI_g25, ur_r, ur_o, ur_s, up_r, up_o, up_s, jI_add, jI_sub, jI_mul, jI_neg, jI_i, jI_n, lgc_j, cj_lt, cj_ge, cj_gt, cj_le, cj_eq, oL_r, oL_w, oL_f6, oL_g6, oL_f7, oL_g7, oL_f17, oL_g17, oL_f18, oL_g18, dl_T, dl_F, de_T, de_F, dle_T, dle_F, iI_divn, rem_n, nd_v, ct_s, Bool.false_eq_true]
theorem va_loop (hM : cM T R) (hw : oW S) (hP : cPl J S) (a : Int) (ha : 0 ≤ a ∧ a < 4) : ∀ (m r : Nat), (r : Int) + m = S 18 → rn_r (d + 1) 20 4 [some (.ref 101), some (.int (iI a)), some (.int (iI (vaI (vsS S a r)))), some (.int (iI r))] [] (T, oI J, L, R, z, w) = some (some (.int (iI (vaI (vsS S a (S 18).toNat)))), (T, oI J, L, R, z, w)) := by
  obtain ⟨⟨p1, p2, p3, p4⟩, p5, p6, p7, p8⟩ := id hP
  obtain ⟨w1, w2, w3, w4, w5, w6, w7⟩ := id hw
  intro m
  induction m with
  | zero =>
    intro r hr
    have e : (S 18).toNat = r := by omega
    rw [e]
    have hv := vsS_r w6 a r (by omega)
    have hi : i32 (vaI (vsS S a r)) := by unfold vaI; split <;> omega
    simp (disch := first | omega | exact hJ _ _ | exact rJ_g hJ _ _ | (simp (disch := omega) only [ur_r, ur_o, up_r, up_o]; omega) | assumption) only [s20_4, s20_5, s20_5v, s20_6, b20_9, s20_41, s20_42, hM.t101, p4, kl_i, kl_r, kl_l, kl_n, kl_z, bd_s, tl_s, tl_n, ap_c, ap_n, v_s, v_n, nd_1, nd_0, ct13, eq_self, iI_add, iI_sub, iI_mul, iI_nat, iI_eq, iI_lt, iI_le, iI_eq0, iI_lt0, ↓reduceIte, if_true, if_false, not_true_eq_false, not_false_eq_true, true_and, and_true, false_and, and_false, true_or, or_true, false_or, or_false, Int.reduceLT, Int.reduceLE, Int.reduceEq, Int.reduceAdd, Int.reduceSub, Int.reduceMul, Nat.reduceAdd, Nat.reduceLT, Nat.reduceEqDiff, Int.reduceNeg, nc_s, nc_0, Int.zero_add, Int.add_zero, oI_r, oI_w, oI_f0, oI_g0, oI_f1, oI_g1, oI_f2, oI_g2, oI_f3, oI_g3, oI_f4, oI_g4, oI_f5, oI_g5, oI_f6, oI_g6, oI_f7, oI_g7, oI_f8, oI_g8, oI_f9, oI_g9, oI_f10, oI_g10, oI_f11, oI_g11, oI_f12, oI_g12, oI_f13, oI_g13, oI_f14, oI_g14, oI_f15, oI_g15, oI_f16, oI_g16, oI_f17, oI_g17, oI_f18, oI_g18, oI_f19, oI_g19, oI_f20, oI_g20, oI_f21, oI_g21, oI_f22, oI_g22, oI_f23, oI_g23, oI_f24, oI_g24, oI_f25, oI_g25, ur_r, ur_o, ur_s, up_r, up_o, up_s, jI_add, jI_sub, jI_mul, jI_neg, jI_i, jI_n, lgc_j, cj_lt, cj_ge, cj_gt, cj_le, cj_eq, oL_r, oL_w, oL_f6, oL_g6, oL_f7, oL_g7, oL_f17, oL_g17, oL_f18, oL_g18, dl_T, dl_F, de_T, de_F, dle_T, dle_F, iI_divn, rem_n, nd_v, ct_s, Bool.false_eq_true]
  | succ m ih =>
    intro r hr
    have hv := vsS_r w6 a r (by omega)
    have wr := w6 r (by omega) (by omega)
    have h0 := vs_0 S a r
    obtain ⟨q7, q8⟩ := p6 r (by omega) (by omega)
    have a7 := hM.a117 r (by omega)
    have a8 := hM.a118 r (by omega)
    refine Eq.trans ?_ ((s20_38 ..).trans (ih (r + 1) (by omega)))
    have en : vaI (vsS S a (r + 1)) = if S (200 + (r : Int)) = a then (if vaI (vsS S a r) < 0 then 0 else vaI (vsS S a r)) + S (210 + (r : Int)) else vaI (vsS S a r) := by
      simp only [vsS, vaI]
      by_cases c1 : S (200 + (r : Int)) = a <;> by_cases c2 : (vsS S a r).2 = 0
      · simp only [if_pos c1, if_pos c2, h0 c2]; rfl
      · simp only [if_pos c1, if_neg c2]
        rw [if_neg (by omega), if_neg (by omega)]
      · simp only [if_neg c1, if_pos c2]; rfl
      · simp only [if_neg c1, if_neg c2]
        rw [if_neg (by omega)]; omega
    rw [en]
    have hi : -1 ≤ vaI (vsS S a r) ∧ vaI (vsS S a r) ≤ 990 := by unfold vaI; split <;> omega
    generalize vaI (vsS S a r) = x at *
    by_cases c1 : S (200 + (r : Int)) = a
    · rw [if_pos c1]
      simp (disch := first | omega | exact hJ _ _ | exact rJ_g hJ _ _ | (simp (disch := omega) only [ur_r, ur_o, up_r, up_o]; omega) | assumption) only [s20_4, s20_5, s20_5v, s20_6, b20_9, s20_12, s20_12v, s20_13, s20_16, s20_17, s20_18, b20_19, s20_22, s20_23, s20_24, s20_27, s20_27v, s20_28, s20_31, s20_32, s20_33, s20_34, s20_35, hM.t101, hM.r101_10, hM.r101_11, v_s, p4, a7, a8, q7, q8, j_max, kl_i, kl_r, kl_l, kl_n, kl_z, bd_s, tl_s, tl_n, ap_c, ap_n, v_s, v_n, nd_1, nd_0, ct13, eq_self, iI_add, iI_sub, iI_mul, iI_nat, iI_eq, iI_lt, iI_le, iI_eq0, iI_lt0, ↓reduceIte, if_true, if_false, not_true_eq_false, not_false_eq_true, true_and, and_true, false_and, and_false, true_or, or_true, false_or, or_false, Int.reduceLT, Int.reduceLE, Int.reduceEq, Int.reduceAdd, Int.reduceSub, Int.reduceMul, Nat.reduceAdd, Nat.reduceLT, Nat.reduceEqDiff, Int.reduceNeg, nc_s, nc_0, Int.zero_add, Int.add_zero, oI_r, oI_w, oI_f0, oI_g0, oI_f1, oI_g1, oI_f2, oI_g2, oI_f3, oI_g3, oI_f4, oI_g4, oI_f5, oI_g5, oI_f6, oI_g6, oI_f7, oI_g7, oI_f8, oI_g8, oI_f9, oI_g9, oI_f10, oI_g10, oI_f11, oI_g11, oI_f12, oI_g12, oI_f13, oI_g13, oI_f14, oI_g14, oI_f15, oI_g15, oI_f16, oI_g16, oI_f17, oI_g17, oI_f18, oI_g18, oI_f19, oI_g19, oI_f20, oI_g20, oI_f21, oI_g21, oI_f22, oI_g22, oI_f23, oI_g23, oI_f24, oI_g24, oI_f25, oI_g25, ur_r, ur_o, ur_s, up_r, up_o, up_s, jI_add, jI_sub, jI_mul, jI_neg, jI_i, jI_n, lgc_j, cj_lt, cj_ge, cj_gt, cj_le, cj_eq, oL_r, oL_w, oL_f6, oL_g6, oL_f7, oL_g7, oL_f17, oL_g17, oL_f18, oL_g18, dl_T, dl_F, de_T, de_F, dle_T, dle_F, iI_divn, rem_n, nd_v, ct_s, Bool.false_eq_true]
    · rw [if_neg c1]
      simp (disch := first | omega | exact hJ _ _ | exact rJ_g hJ _ _ | (simp (disch := omega) only [ur_r, ur_o, up_r, up_o]; omega) | assumption) only [s20_4, s20_5, s20_5v, s20_6, b20_9, s20_12, s20_12v, s20_13, s20_16, s20_17, s20_18, b20_19, s20_22, s20_23, s20_24, s20_27, s20_27v, s20_28, s20_31, s20_32, s20_33, s20_34, s20_35, hM.t101, hM.r101_10, hM.r101_11, v_s, p4, a7, a8, q7, q8, kl_i, kl_r, kl_l, kl_n, kl_z, bd_s, tl_s, tl_n, ap_c, ap_n, v_s, v_n, nd_1, nd_0, ct13, eq_self, iI_add, iI_sub, iI_mul, iI_nat, iI_eq, iI_lt, iI_le, iI_eq0, iI_lt0, ↓reduceIte, if_true, if_false, not_true_eq_false, not_false_eq_true, true_and, and_true, false_and, and_false, true_or, or_true, false_or, or_false, Int.reduceLT, Int.reduceLE, Int.reduceEq, Int.reduceAdd, Int.reduceSub, Int.reduceMul, Nat.reduceAdd, Nat.reduceLT, Nat.reduceEqDiff, Int.reduceNeg, nc_s, nc_0, Int.zero_add, Int.add_zero, oI_r, oI_w, oI_f0, oI_g0, oI_f1, oI_g1, oI_f2, oI_g2, oI_f3, oI_g3, oI_f4, oI_g4, oI_f5, oI_g5, oI_f6, oI_g6, oI_f7, oI_g7, oI_f8, oI_g8, oI_f9, oI_g9, oI_f10, oI_g10, oI_f11, oI_g11, oI_f12, oI_g12, oI_f13, oI_g13, oI_f14, oI_g14, oI_f15, oI_g15, oI_f16, oI_g16, oI_f17, oI_g17, oI_f18, oI_g18, oI_f19, oI_g19, oI_f20, oI_g20, oI_f21, oI_g21, oI_f22, oI_g22, oI_f23, oI_g23, oI_f24, oI_g24, oI_f25, oI_g25, ur_r, ur_o, ur_s, up_r, up_o, up_s, jI_add, jI_sub, jI_mul, jI_neg, jI_i, jI_n, lgc_j, cj_lt, cj_ge, cj_gt, cj_le, cj_eq, oL_r, oL_w, oL_f6, oL_g6, oL_f7, oL_g7, oL_f17, oL_g17, oL_f18, oL_g18, dl_T, dl_F, de_T, de_F, dle_T, dle_F, iI_divn, rem_n, nd_v, ct_s, Bool.false_eq_true]
theorem c_vanishedAt (hM : cM T R) (hw : oW S) (hP : cPl J S) (a : Int) (ha : 0 ≤ a ∧ a < 4) : rn_c (d + 1) 20 [.ref 101, .int (iI a)] (T, oI J, L, R, z, w) = some (some (.int (iI (vaI (vsS S a (S 18).toNat)))), (T, oI J, L, R, z, w)) := by
  have := va_loop (d := d) (L := L) (z := z) (w := w) hM hw hP a ha (S 18).toNat 0 (by have := hw.2.2.1; omega)
  refine Eq.trans ?_ this
  have e : vaI (vsS S a 0) = -1 := rfl
  rw [e]
  simp (disch := first | omega | exact hJ _ _ | exact rJ_g hJ _ _ | (simp (disch := omega) only [ur_r, ur_o, up_r, up_o]; omega) | assumption) only [c20, s20_0, s20_1, s20_2, s20_3, kl_i, kl_r, kl_l, kl_n, kl_z, bd_s, tl_s, tl_n, ap_c, ap_n, v_s, v_n, nd_1, nd_0, ct13, eq_self, iI_add, iI_sub, iI_mul, iI_nat, iI_eq, iI_lt, iI_le, iI_eq0, iI_lt0, ↓reduceIte, if_true, if_false, not_true_eq_false, not_false_eq_true, true_and, and_true, false_and, and_false, true_or, or_true, false_or, or_false, Int.reduceLT, Int.reduceLE, Int.reduceEq, Int.reduceAdd, Int.reduceSub, Int.reduceMul, Nat.reduceAdd, Nat.reduceLT, Nat.reduceEqDiff, Int.reduceNeg, nc_s, nc_0, Int.zero_add, Int.add_zero, oI_r, oI_w, oI_f0, oI_g0, oI_f1, oI_g1, oI_f2, oI_g2, oI_f3, oI_g3, oI_f4, oI_g4, oI_f5, oI_g5, oI_f6, oI_g6, oI_f7, oI_g7, oI_f8, oI_g8, oI_f9, oI_g9, oI_f10, oI_g10, oI_f11, oI_g11, oI_f12, oI_g12, oI_f13, oI_g13, oI_f14, oI_g14, oI_f15, oI_g15, oI_f16, oI_g16, oI_f17, oI_g17, oI_f18, oI_g18, oI_f19, oI_g19, oI_f20, oI_g20, oI_f21, oI_g21, oI_f22, oI_g22, oI_f23, oI_g23, oI_f24, oI_g24, oI_f25, oI_g25, ur_r, ur_o, ur_s, up_r, up_o, up_s, jI_add, jI_sub, jI_mul, jI_neg, jI_i, jI_n, lgc_j, cj_lt, cj_ge, cj_gt, cj_le, cj_eq, oL_r, oL_w, oL_f6, oL_g6, oL_f7, oL_g7, oL_f17, oL_g17, oL_f18, oL_g18, dl_T, dl_F, de_T, de_F, dle_T, dle_F, iI_divn, rem_n, nd_v, ct_s, Bool.false_eq_true]
theorem vz {a : Int} {v : Int × Int} {q : vQ} (ha : 0 ≤ a) (h : q.2.2.1 = -5 → q.1 = 0) : (vtS a v q).2.2.1 = -5 → (vtS a v q).1 = 0 := by
  unfold vtS
  simp only []
  by_cases c : v.2 = 0
  · rw [if_pos c, if_pos c]; intro e; have := h e; omega
  · rw [if_neg c, if_neg c]
    by_cases c2 : q.2.2.1 = -5
    · rw [if_pos c2]; intro e; omega
    · rw [if_neg c2]
      split <;> intro e <;> omega
theorem cv_step (hM : cM T R) (hw : oW S) (hP : cPl J S) (x1 a : Int) (g7 : Option Value) (ha : 0 ≤ a ∧ a < 4) (q : vQ) (hq : vOk a q) : rn_r (d + 2) 82 25 [some (.ref 100), some (.int (iI x1)), some (.int (iI q.1)), some (.int (iI q.2.1)), some (.int (iI q.2.2.1)), some (.int (iI q.2.2.2)), some (.int (iI a)), g7] [] (T, oI J, L, R, z, w) = rn_r (d + 2) 82 25 [some (.ref 100), some (.int (iI x1)), some (.int (iI (vtS a (vsS S a (S 18).toNat) q).1)), some (.int (iI (vtS a (vsS S a (S 18).toNat) q).2.1)), some (.int (iI (vtS a (vsS S a (S 18).toNat) q).2.2.1)), some (.int (iI (vtS a (vsS S a (S 18).toNat) q).2.2.2)), some (.int (iI (a + 1))), some (.int (iI (vaI (vsS S a (S 18).toNat))))] [] (T, oI J, L, R, z, w) := by
  have va := c_vanishedAt (d := d) (L := L) (z := z) (w := w) hM hw hP a ha
  have hv := vsS_r hw.2.2.2.2.2.1 a (S 18).toNat (by have := hw.2.2.1; omega)
  have h0 := vs_0 S a (S 18).toNat
  have w18 := hw.2.2.1
  generalize hvv : vsS S a (S 18).toNat = v at *
  obtain ⟨v1, v2⟩ := v
  obtain ⟨q1, q2, q3, q4⟩ := q
  obtain ⟨h1, h2, h3, h4, h5⟩ := hq
  simp only [] at *
  unfold vtS vaI
  unfold vaI at va
  simp only [] at va ⊢
  refine Eq.trans ?_ (s82_80 ..)
  by_cases c1 : v2 = 0
  · have := h0 c1
    rw [if_pos c1] at va
    simp only [if_pos c1]
    subst this
    simp (disch := first | omega | exact hJ _ _ | exact rJ_g hJ _ _ | (simp (disch := omega) only [ur_r, ur_o, up_r, up_o]; omega) | assumption) only [s82_25, s82_27, b82_28, s82_31, s82_31v, s82_32, s82_35, s82_37, s82_40, s82_42, b82_44, s82_47, s82_50, s82_51, s82_53, s82_54, s82_55, s82_57, b82_59, s82_62, s82_64, b82_66, s82_69, s82_71, s82_73, s82_75, s82_77, hM.t100, hM.t101, hM.r100_0, v_s, va, kl_i, kl_r, kl_l, kl_n, kl_z, bd_s, tl_s, tl_n, ap_c, ap_n, v_s, v_n, nd_1, nd_0, ct13, eq_self, iI_add, iI_sub, iI_mul, iI_nat, iI_eq, iI_lt, iI_le, iI_eq0, iI_lt0, ↓reduceIte, if_true, if_false, not_true_eq_false, not_false_eq_true, true_and, and_true, false_and, and_false, true_or, or_true, false_or, or_false, Int.reduceLT, Int.reduceLE, Int.reduceEq, Int.reduceAdd, Int.reduceSub, Int.reduceMul, Nat.reduceAdd, Nat.reduceLT, Nat.reduceEqDiff, Int.reduceNeg, nc_s, nc_0, Int.zero_add, Int.add_zero, oI_r, oI_w, oI_f0, oI_g0, oI_f1, oI_g1, oI_f2, oI_g2, oI_f3, oI_g3, oI_f4, oI_g4, oI_f5, oI_g5, oI_f6, oI_g6, oI_f7, oI_g7, oI_f8, oI_g8, oI_f9, oI_g9, oI_f10, oI_g10, oI_f11, oI_g11, oI_f12, oI_g12, oI_f13, oI_g13, oI_f14, oI_g14, oI_f15, oI_g15, oI_f16, oI_g16, oI_f17, oI_g17, oI_f18, oI_g18, oI_f19, oI_g19, oI_f20, oI_g20, oI_f21, oI_g21, oI_f22, oI_g22, oI_f23, oI_g23, oI_f24, oI_g24, oI_f25, oI_g25, ur_r, ur_o, ur_s, up_r, up_o, up_s, jI_add, jI_sub, jI_mul, jI_neg, jI_i, jI_n, lgc_j, cj_lt, cj_ge, cj_gt, cj_le, cj_eq, oL_r, oL_w, oL_f6, oL_g6, oL_f7, oL_g7, oL_f17, oL_g17, oL_f18, oL_g18, dl_T, dl_F, de_T, de_F, dle_T, dle_F, iI_divn, rem_n, nd_v, ct_s, Bool.false_eq_true]
  · rw [if_neg c1] at va
    simp only [if_neg c1]
    by_cases c2 : q3 = -5
    · simp only [if_pos c2]
      simp (disch := first | omega | exact hJ _ _ | exact rJ_g hJ _ _ | (simp (disch := omega) only [ur_r, ur_o, up_r, up_o]; omega) | assumption) only [s82_25, s82_27, b82_28, s82_31, s82_31v, s82_32, s82_35, s82_37, s82_40, s82_42, b82_44, s82_47, s82_50, s82_51, s82_53, s82_54, s82_55, s82_57, b82_59, s82_62, s82_64, b82_66, s82_69, s82_71, s82_73, s82_75, s82_77, hM.t100, hM.t101, hM.r100_0, v_s, va, kl_i, kl_r, kl_l, kl_n, kl_z, bd_s, tl_s, tl_n, ap_c, ap_n, v_s, v_n, nd_1, nd_0, ct13, eq_self, iI_add, iI_sub, iI_mul, iI_nat, iI_eq, iI_lt, iI_le, iI_eq0, iI_lt0, ↓reduceIte, if_true, if_false, not_true_eq_false, not_false_eq_true, true_and, and_true, false_and, and_false, true_or, or_true, false_or, or_false, Int.reduceLT, Int.reduceLE, Int.reduceEq, Int.reduceAdd, Int.reduceSub, Int.reduceMul, Nat.reduceAdd, Nat.reduceLT, Nat.reduceEqDiff, Int.reduceNeg, nc_s, nc_0, Int.zero_add, Int.add_zero, oI_r, oI_w, oI_f0, oI_g0, oI_f1, oI_g1, oI_f2, oI_g2, oI_f3, oI_g3, oI_f4, oI_g4, oI_f5, oI_g5, oI_f6, oI_g6, oI_f7, oI_g7, oI_f8, oI_g8, oI_f9, oI_g9, oI_f10, oI_g10, oI_f11, oI_g11, oI_f12, oI_g12, oI_f13, oI_g13, oI_f14, oI_g14, oI_f15, oI_g15, oI_f16, oI_g16, oI_f17, oI_g17, oI_f18, oI_g18, oI_f19, oI_g19, oI_f20, oI_g20, oI_f21, oI_g21, oI_f22, oI_g22, oI_f23, oI_g23, oI_f24, oI_g24, oI_f25, oI_g25, ur_r, ur_o, ur_s, up_r, up_o, up_s, jI_add, jI_sub, jI_mul, jI_neg, jI_i, jI_n, lgc_j, cj_lt, cj_ge, cj_gt, cj_le, cj_eq, oL_r, oL_w, oL_f6, oL_g6, oL_f7, oL_g7, oL_f17, oL_g17, oL_f18, oL_g18, dl_T, dl_F, de_T, de_F, dle_T, dle_F, iI_divn, rem_n, nd_v, ct_s, Bool.false_eq_true]
    · simp only [if_neg c2]
      by_cases c3 : q4 < v1
      · simp only [if_pos c3]
        simp (disch := first | omega | exact hJ _ _ | exact rJ_g hJ _ _ | (simp (disch := omega) only [ur_r, ur_o, up_r, up_o]; omega) | assumption) only [s82_25, s82_27, b82_28, s82_31, s82_31v, s82_32, s82_35, s82_37, s82_40, s82_42, b82_44, s82_47, s82_50, s82_51, s82_53, s82_54, s82_55, s82_57, b82_59, s82_62, s82_64, b82_66, s82_69, s82_71, s82_73, s82_75, s82_77, hM.t100, hM.t101, hM.r100_0, v_s, va, kl_i, kl_r, kl_l, kl_n, kl_z, bd_s, tl_s, tl_n, ap_c, ap_n, v_s, v_n, nd_1, nd_0, ct13, eq_self, iI_add, iI_sub, iI_mul, iI_nat, iI_eq, iI_lt, iI_le, iI_eq0, iI_lt0, ↓reduceIte, if_true, if_false, not_true_eq_false, not_false_eq_true, true_and, and_true, false_and, and_false, true_or, or_true, false_or, or_false, Int.reduceLT, Int.reduceLE, Int.reduceEq, Int.reduceAdd, Int.reduceSub, Int.reduceMul, Nat.reduceAdd, Nat.reduceLT, Nat.reduceEqDiff, Int.reduceNeg, nc_s, nc_0, Int.zero_add, Int.add_zero, oI_r, oI_w, oI_f0, oI_g0, oI_f1, oI_g1, oI_f2, oI_g2, oI_f3, oI_g3, oI_f4, oI_g4, oI_f5, oI_g5, oI_f6, oI_g6, oI_f7, oI_g7, oI_f8, oI_g8, oI_f9, oI_g9, oI_f10, oI_g10, oI_f11, oI_g11, oI_f12, oI_g12, oI_f13, oI_g13, oI_f14, oI_g14, oI_f15, oI_g15, oI_f16, oI_g16, oI_f17, oI_g17, oI_f18, oI_g18, oI_f19, oI_g19, oI_f20, oI_g20, oI_f21, oI_g21, oI_f22, oI_g22, oI_f23, oI_g23, oI_f24, oI_g24, oI_f25, oI_g25, ur_r, ur_o, ur_s, up_r, up_o, up_s, jI_add, jI_sub, jI_mul, jI_neg, jI_i, jI_n, lgc_j, cj_lt, cj_ge, cj_gt, cj_le, cj_eq, oL_r, oL_w, oL_f6, oL_g6, oL_f7, oL_g7, oL_f17, oL_g17, oL_f18, oL_g18, dl_T, dl_F, de_T, de_F, dle_T, dle_F, iI_divn, rem_n, nd_v, ct_s, Bool.false_eq_true]
      · simp only [if_neg c3]
        simp (disch := first | omega | exact hJ _ _ | exact rJ_g hJ _ _ | (simp (disch := omega) only [ur_r, ur_o, up_r, up_o]; omega) | assumption) only [s82_25, s82_27, b82_28, s82_31, s82_31v, s82_32, s82_35, s82_37, s82_40, s82_42, b82_44, s82_47, s82_50, s82_51, s82_53, s82_54, s82_55, s82_57, b82_59, s82_62, s82_64, b82_66, s82_69, s82_71, s82_73, s82_75, s82_77, hM.t100, hM.t101, hM.r100_0, v_s, va, kl_i, kl_r, kl_l, kl_n, kl_z, bd_s, tl_s, tl_n, ap_c, ap_n, v_s, v_n, nd_1, nd_0, ct13, eq_self, iI_add, iI_sub, iI_mul, iI_nat, iI_eq, iI_lt, iI_le, iI_eq0, iI_lt0, ↓reduceIte, if_true, if_false, not_true_eq_false, not_false_eq_true, true_and, and_true, false_and, and_false, true_or, or_true, false_or, or_false, Int.reduceLT, Int.reduceLE, Int.reduceEq, Int.reduceAdd, Int.reduceSub, Int.reduceMul, Nat.reduceAdd, Nat.reduceLT, Nat.reduceEqDiff, Int.reduceNeg, nc_s, nc_0, Int.zero_add, Int.add_zero, oI_r, oI_w, oI_f0, oI_g0, oI_f1, oI_g1, oI_f2, oI_g2, oI_f3, oI_g3, oI_f4, oI_g4, oI_f5, oI_g5, oI_f6, oI_g6, oI_f7, oI_g7, oI_f8, oI_g8, oI_f9, oI_g9, oI_f10, oI_g10, oI_f11, oI_g11, oI_f12, oI_g12, oI_f13, oI_g13, oI_f14, oI_g14, oI_f15, oI_g15, oI_f16, oI_g16, oI_f17, oI_g17, oI_f18, oI_g18, oI_f19, oI_g19, oI_f20, oI_g20, oI_f21, oI_g21, oI_f22, oI_g22, oI_f23, oI_g23, oI_f24, oI_g24, oI_f25, oI_g25, ur_r, ur_o, ur_s, up_r, up_o, up_s, jI_add, jI_sub, jI_mul, jI_neg, jI_i, jI_n, lgc_j, cj_lt, cj_ge, cj_gt, cj_le, cj_eq, oL_r, oL_w, oL_f6, oL_g6, oL_f7, oL_g7, oL_f17, oL_g17, oL_f18, oL_g18, dl_T, dl_F, de_T, de_F, dle_T, dle_F, iI_divn, rem_n, nd_v, ct_s, Bool.false_eq_true]
theorem c_vanish (hM : cM T R) (hw : oW S) (hP : cPl J S) (x : Int) (hx : i32 x) : rn_c (d + 2) 82 [.ref 100, .int (iI x)] (T, oI J, L, R, z, w) = some (some (.int (iI (vanV (vaF S) x))), (T, oI J, L, R, z, w)) := by
  by_cases c : 0 ≤ x ∧ x ≤ 1
  · have vr (a : Int) : 0 ≤ (vsS S a (S 18).toNat).1 ∧ (vsS S a (S 18).toNat).1 ≤ 1000 := by
      have := vsS_r hw.2.2.2.2.2.1 a (S 18).toNat (by have := hw.2.2.1; omega)
      have := hw.2.2.1
      omega
    have k0 : vOk 0 (0, 0, -5, 0) := by unfold vOk; exact ⟨by decide, by decide, by decide, by decide, fun h => absurd rfl h⟩
    have z0 : (0, 0, -5, 0).2.2.1 = (-5 : Int) → ((0 : Int), (0 : Int), (-5 : Int), (0 : Int)).1 = 0 := fun _ => rfl
    have ea := cv_step (d := d) (L := L) (z := z) (w := w) hM hw hP x 0 none (by omega) (0, 0, -5, 0) k0
    have k1 : vOk 1 (vtS 0 (vsS S 0 (S 18).toNat) (0, 0, -5, 0)) := vtS_ok k0 (vr 0) (by omega)
    have z1 : (vtS 0 (vsS S 0 (S 18).toNat) (0, 0, -5, 0)).2.2.1 = -5 → (vtS 0 (vsS S 0 (S 18).toNat) (0, 0, -5, 0)).1 = 0 := vz (by omega) (fun _ => rfl)
    generalize hq1 : vtS 0 (vsS S 0 (S 18).toNat) (0, 0, -5, 0) = q1 at *
    have eb := cv_step (d := d) (L := L) (z := z) (w := w) hM hw hP x 1 (some (.int (iI (vaI (vsS S 0 (S 18).toNat))))) (by omega) q1 k1
    have k2 : vOk 2 (vtS 1 (vsS S 1 (S 18).toNat) q1) := vtS_ok k1 (vr 1) (by omega)
    have z2 := vz (a := 1) (v := vsS S 1 (S 18).toNat) (by omega) z1
    generalize hq2 : vtS 1 (vsS S 1 (S 18).toNat) q1 = q2 at *
    have ec := cv_step (d := d) (L := L) (z := z) (w := w) hM hw hP x 2 (some (.int (iI (vaI (vsS S 1 (S 18).toNat))))) (by omega) q2 k2
    have k3 : vOk 3 (vtS 2 (vsS S 2 (S 18).toNat) q2) := vtS_ok k2 (vr 2) (by omega)
    have z3 := vz (a := 2) (v := vsS S 2 (S 18).toNat) (by omega) z2
    generalize hq3 : vtS 2 (vsS S 2 (S 18).toNat) q2 = q3 at *
    have ed := cv_step (d := d) (L := L) (z := z) (w := w) hM hw hP x 3 (some (.int (iI (vaI (vsS S 2 (S 18).toNat))))) (by omega) q3 k3
    have k4 : vOk 4 (vtS 3 (vsS S 3 (S 18).toNat) q3) := vtS_ok k3 (vr 3) (by omega)
    have z4 := vz (a := 3) (v := vsS S 3 (S 18).toNat) (by omega) z3
    generalize hq4 : vtS 3 (vsS S 3 (S 18).toNat) q3 = q4 at *
    have ev : vaF S = q4 := by unfold vaF; rw [hq1, hq2, hq3, hq4]
    have e01 : (0 : Int) + 1 = 1 := rfl
    have e12 : (1 : Int) + 1 = 2 := rfl
    have e23 : (2 : Int) + 1 = 3 := rfl
    rw [e01] at ea
    rw [e12] at eb
    rw [e23] at ec
    have r1 : rn_c (d + 2) 82 [.ref 100, .int (iI x)] (T, oI J, L, R, z, w) = rn_r (d + 2) 82 25 [some (.ref 100), some (.int (iI x)), some (.int (iI q4.1)), some (.int (iI q4.2.1)), some (.int (iI q4.2.2.1)), some (.int (iI q4.2.2.2)), some (.int (iI (3 + 1))), some (.int (iI (vaI (vsS S 3 (S 18).toNat))))] [] (T, oI J, L, R, z, w) := by
      rw [← ed, ← ec, ← eb, ← ea]
      by_cases x0 : x < 0
      · omega
      · simp (disch := first | omega | exact hJ _ _ | exact rJ_g hJ _ _ | (simp (disch := omega) only [ur_r, ur_o, up_r, up_o]; omega) | assumption) only [c82, s82_0, b82_1, s82_4, s82_5, b82_6, s82_9, s82_10, s82_11, s82_12, s82_13, s82_14, s82_15, s82_17, s82_19, s82_20, s82_22, s82_23, kl_i, kl_r, kl_l, kl_n, kl_z, bd_s, tl_s, tl_n, ap_c, ap_n, v_s, v_n, nd_1, nd_0, ct13, eq_self, iI_add, iI_sub, iI_mul, iI_nat, iI_eq, iI_lt, iI_le, iI_eq0, iI_lt0, ↓reduceIte, if_true, if_false, not_true_eq_false, not_false_eq_true, true_and, and_true, false_and, and_false, true_or, or_true, false_or, or_false, Int.reduceLT, Int.reduceLE, Int.reduceEq, Int.reduceAdd, Int.reduceSub, Int.reduceMul, Nat.reduceAdd, Nat.reduceLT, Nat.reduceEqDiff, Int.reduceNeg, nc_s, nc_0, Int.zero_add, Int.add_zero, oI_r, oI_w, oI_f0, oI_g0, oI_f1, oI_g1, oI_f2, oI_g2, oI_f3, oI_g3, oI_f4, oI_g4, oI_f5, oI_g5, oI_f6, oI_g6, oI_f7, oI_g7, oI_f8, oI_g8, oI_f9, oI_g9, oI_f10, oI_g10, oI_f11, oI_g11, oI_f12, oI_g12, oI_f13, oI_g13, oI_f14, oI_g14, oI_f15, oI_g15, oI_f16, oI_g16, oI_f17, oI_g17, oI_f18, oI_g18, oI_f19, oI_g19, oI_f20, oI_g20, oI_f21, oI_g21, oI_f22, oI_g22, oI_f23, oI_g23, oI_f24, oI_g24, oI_f25, oI_g25, ur_r, ur_o, ur_s, up_r, up_o, up_s, jI_add, jI_sub, jI_mul, jI_neg, jI_i, jI_n, lgc_j, cj_lt, cj_ge, cj_gt, cj_le, cj_eq, oL_r, oL_w, oL_f6, oL_g6, oL_f7, oL_g7, oL_f17, oL_g17, oL_f18, oL_g18, dl_T, dl_F, de_T, de_F, dle_T, dle_F, iI_divn, rem_n, nd_v, ct_s, Bool.false_eq_true]
    rw [r1, ev]
    obtain ⟨q1, q2, q3, q4⟩ := q4
    obtain ⟨h1, h2, h3, h4, h5⟩ := k4
    simp only [] at *
    unfold vanV
    simp only []
    rw [if_neg (by omega), if_neg (by omega)]
    by_cases x0 : x = 0
    · rw [if_pos x0]
      by_cases t0 : q1 = 0 <;>
        simp (disch := first | omega | exact hJ _ _ | exact rJ_g hJ _ _ | (simp (disch := omega) only [ur_r, ur_o, up_r, up_o]; omega) | assumption) only [s82_25, s82_27, b82_28, s82_83, b82_84, s82_87, b82_88, s82_91, s82_93, s82_94, s82_96, s82_98, s82_99, s82_100, s82_101, s82_102, s82_103, s82_104, s82_105, kl_i, kl_r, kl_l, kl_n, kl_z, bd_s, tl_s, tl_n, ap_c, ap_n, v_s, v_n, nd_1, nd_0, ct13, eq_self, iI_add, iI_sub, iI_mul, iI_nat, iI_eq, iI_lt, iI_le, iI_eq0, iI_lt0, ↓reduceIte, if_true, if_false, not_true_eq_false, not_false_eq_true, true_and, and_true, false_and, and_false, true_or, or_true, false_or, or_false, Int.reduceLT, Int.reduceLE, Int.reduceEq, Int.reduceAdd, Int.reduceSub, Int.reduceMul, Nat.reduceAdd, Nat.reduceLT, Nat.reduceEqDiff, Int.reduceNeg, nc_s, nc_0, Int.zero_add, Int.add_zero, oI_r, oI_w, oI_f0, oI_g0, oI_f1, oI_g1, oI_f2, oI_g2, oI_f3, oI_g3, oI_f4, oI_g4, oI_f5, oI_g5, oI_f6, oI_g6, oI_f7, oI_g7, oI_f8, oI_g8, oI_f9, oI_g9, oI_f10, oI_g10, oI_f11, oI_g11, oI_f12, oI_g12, oI_f13, oI_g13, oI_f14, oI_g14, oI_f15, oI_g15, oI_f16, oI_g16, oI_f17, oI_g17, oI_f18, oI_g18, oI_f19, oI_g19, oI_f20, oI_g20, oI_f21, oI_g21, oI_f22, oI_g22, oI_f23, oI_g23, oI_f24, oI_g24, oI_f25, oI_g25, ur_r, ur_o, ur_s, up_r, up_o, up_s, jI_add, jI_sub, jI_mul, jI_neg, jI_i, jI_n, lgc_j, cj_lt, cj_ge, cj_gt, cj_le, cj_eq, oL_r, oL_w, oL_f6, oL_g6, oL_f7, oL_g7, oL_f17, oL_g17, oL_f18, oL_g18, dl_T, dl_F, de_T, de_F, dle_T, dle_F, iI_divn, rem_n, nd_v, ct_s, Bool.false_eq_true]
    · rw [if_neg x0]
      by_cases t5 : q3 = -5
      · rw [if_pos t5]
        have := z4 t5
        simp (disch := first | omega | exact hJ _ _ | exact rJ_g hJ _ _ | (simp (disch := omega) only [ur_r, ur_o, up_r, up_o]; omega) | assumption) only [s82_25, s82_27, b82_28, s82_83, b82_84, s82_87, b82_88, s82_91, s82_93, s82_94, s82_96, s82_98, s82_99, s82_100, s82_101, s82_102, s82_103, s82_104, s82_105, kl_i, kl_r, kl_l, kl_n, kl_z, bd_s, tl_s, tl_n, ap_c, ap_n, v_s, v_n, nd_1, nd_0, ct13, eq_self, iI_add, iI_sub, iI_mul, iI_nat, iI_eq, iI_lt, iI_le, iI_eq0, iI_lt0, ↓reduceIte, if_true, if_false, not_true_eq_false, not_false_eq_true, true_and, and_true, false_and, and_false, true_or, or_true, false_or, or_false, Int.reduceLT, Int.reduceLE, Int.reduceEq, Int.reduceAdd, Int.reduceSub, Int.reduceMul, Nat.reduceAdd, Nat.reduceLT, Nat.reduceEqDiff, Int.reduceNeg, nc_s, nc_0, Int.zero_add, Int.add_zero, oI_r, oI_w, oI_f0, oI_g0, oI_f1, oI_g1, oI_f2, oI_g2, oI_f3, oI_g3, oI_f4, oI_g4, oI_f5, oI_g5, oI_f6, oI_g6, oI_f7, oI_g7, oI_f8, oI_g8, oI_f9, oI_g9, oI_f10, oI_g10, oI_f11, oI_g11, oI_f12, oI_g12, oI_f13, oI_g13, oI_f14, oI_g14, oI_f15, oI_g15, oI_f16, oI_g16, oI_f17, oI_g17, oI_f18, oI_g18, oI_f19, oI_g19, oI_f20, oI_g20, oI_f21, oI_g21, oI_f22, oI_g22, oI_f23, oI_g23, oI_f24, oI_g24, oI_f25, oI_g25, ur_r, ur_o, ur_s, up_r, up_o, up_s, jI_add, jI_sub, jI_mul, jI_neg, jI_i, jI_n, lgc_j, cj_lt, cj_ge, cj_gt, cj_le, cj_eq, oL_r, oL_w, oL_f6, oL_g6, oL_f7, oL_g7, oL_f17, oL_g17, oL_f18, oL_g18, dl_T, dl_F, de_T, de_F, dle_T, dle_F, iI_divn, rem_n, nd_v, ct_s, Bool.false_eq_true]
      · rw [if_neg t5]
        have := h5 t5
        have hm : 0 ≤ q4 * q1 ∧ q4 * q1 ≤ 4000 := ⟨Int.mul_nonneg (by omega) (by omega), Int.le_trans (Int.mul_le_mul (by omega) (show q1 ≤ 4 by omega) (by omega) (show (0 : Int) ≤ 1000 by omega)) (by omega)⟩
        simp (disch := first | omega | exact hJ _ _ | exact rJ_g hJ _ _ | (simp (disch := omega) only [ur_r, ur_o, up_r, up_o]; omega) | assumption) only [s82_25, s82_27, b82_28, s82_83, b82_84, s82_87, b82_88, s82_91, s82_93, s82_94, s82_96, s82_98, s82_99, s82_100, s82_101, s82_102, s82_103, s82_104, s82_105, iI_div, kl_i, kl_r, kl_l, kl_n, kl_z, bd_s, tl_s, tl_n, ap_c, ap_n, v_s, v_n, nd_1, nd_0, ct13, eq_self, iI_add, iI_sub, iI_mul, iI_nat, iI_eq, iI_lt, iI_le, iI_eq0, iI_lt0, ↓reduceIte, if_true, if_false, not_true_eq_false, not_false_eq_true, true_and, and_true, false_and, and_false, true_or, or_true, false_or, or_false, Int.reduceLT, Int.reduceLE, Int.reduceEq, Int.reduceAdd, Int.reduceSub, Int.reduceMul, Nat.reduceAdd, Nat.reduceLT, Nat.reduceEqDiff, Int.reduceNeg, nc_s, nc_0, Int.zero_add, Int.add_zero, oI_r, oI_w, oI_f0, oI_g0, oI_f1, oI_g1, oI_f2, oI_g2, oI_f3, oI_g3, oI_f4, oI_g4, oI_f5, oI_g5, oI_f6, oI_g6, oI_f7, oI_g7, oI_f8, oI_g8, oI_f9, oI_g9, oI_f10, oI_g10, oI_f11, oI_g11, oI_f12, oI_g12, oI_f13, oI_g13, oI_f14, oI_g14, oI_f15, oI_g15, oI_f16, oI_g16, oI_f17, oI_g17, oI_f18, oI_g18, oI_f19, oI_g19, oI_f20, oI_g20, oI_f21, oI_g21, oI_f22, oI_g22, oI_f23, oI_g23, oI_f24, oI_g24, oI_f25, oI_g25, ur_r, ur_o, ur_s, up_r, up_o, up_s, jI_add, jI_sub, jI_mul, jI_neg, jI_i, jI_n, lgc_j, cj_lt, cj_ge, cj_gt, cj_le, cj_eq, oL_r, oL_w, oL_f6, oL_g6, oL_f7, oL_g7, oL_f17, oL_g17, oL_f18, oL_g18, dl_T, dl_F, de_T, de_F, dle_T, dle_F, iI_divn, rem_n, nd_v, ct_s, Bool.false_eq_true]
  · unfold vanV
    (simp (disch := first | omega | exact hJ _ _ | exact rJ_g hJ _ _ | (simp (disch := omega) only [ur_r, ur_o, up_r, up_o]; omega) | assumption) only [c82, s82_0, b82_1, s82_4, s82_5, b82_6, s82_9, s82_10, kl_i, kl_r, kl_l, kl_n, kl_z, bd_s, tl_s, tl_n, ap_c, ap_n, v_s, v_n, nd_1, nd_0, ct13, eq_self, iI_add, iI_sub, iI_mul, iI_nat, iI_eq, iI_lt, iI_le, iI_eq0, iI_lt0, ↓reduceIte, if_true, if_false, not_true_eq_false, not_false_eq_true, true_and, and_true, false_and, and_false, true_or, or_true, false_or, or_false, Int.reduceLT, Int.reduceLE, Int.reduceEq, Int.reduceAdd, Int.reduceSub, Int.reduceMul, Nat.reduceAdd, Nat.reduceLT, Nat.reduceEqDiff, Int.reduceNeg, nc_s, nc_0, Int.zero_add, Int.add_zero, oI_r, oI_w, oI_f0, oI_g0, oI_f1, oI_g1, oI_f2, oI_g2, oI_f3, oI_g3, oI_f4, oI_g4, oI_f5, oI_g5, oI_f6, oI_g6, oI_f7, oI_g7, oI_f8, oI_g8, oI_f9, oI_g9, oI_f10, oI_g10, oI_f11, oI_g11, oI_f12, oI_g12, oI_f13, oI_g13, oI_f14, oI_g14, oI_f15, oI_g15, oI_f16, oI_g16, oI_f17, oI_g17, oI_f18, oI_g18, oI_f19, oI_g19, oI_f20, oI_g20, oI_f21, oI_g21, oI_f22, oI_g22, oI_f23, oI_g23, oI_f24, oI_g24, oI_f25, oI_g25, ur_r, ur_o, ur_s, up_r, up_o, up_s, jI_add, jI_sub, jI_mul, jI_neg, jI_i, jI_n, lgc_j, cj_lt, cj_ge, cj_gt, cj_le, cj_eq, oL_r, oL_w, oL_f6, oL_g6, oL_f7, oL_g7, oL_f17, oL_g17, oL_f18, oL_g18, dl_T, dl_F, de_T, de_F, dle_T, dle_F, iI_divn, rem_n, nd_v, ct_s, Bool.false_eq_true]; repeat' (split <;> (try simp (disch := first | omega | exact hJ _ _ | exact rJ_g hJ _ _ | (simp (disch := omega) only [ur_r, ur_o, up_r, up_o]; omega) | assumption) only [c82, s82_0, b82_1, s82_4, s82_5, b82_6, s82_9, s82_10, kl_i, kl_r, kl_l, kl_n, kl_z, bd_s, tl_s, tl_n, ap_c, ap_n, v_s, v_n, nd_1, nd_0, ct13, eq_self, iI_add, iI_sub, iI_mul, iI_nat, iI_eq, iI_lt, iI_le, iI_eq0, iI_lt0, ↓reduceIte, if_true, if_false, not_true_eq_false, not_false_eq_true, true_and, and_true, false_and, and_false, true_or, or_true, false_or, or_false, Int.reduceLT, Int.reduceLE, Int.reduceEq, Int.reduceAdd, Int.reduceSub, Int.reduceMul, Nat.reduceAdd, Nat.reduceLT, Nat.reduceEqDiff, Int.reduceNeg, nc_s, nc_0, Int.zero_add, Int.add_zero, oI_r, oI_w, oI_f0, oI_g0, oI_f1, oI_g1, oI_f2, oI_g2, oI_f3, oI_g3, oI_f4, oI_g4, oI_f5, oI_g5, oI_f6, oI_g6, oI_f7, oI_g7, oI_f8, oI_g8, oI_f9, oI_g9, oI_f10, oI_g10, oI_f11, oI_g11, oI_f12, oI_g12, oI_f13, oI_g13, oI_f14, oI_g14, oI_f15, oI_g15, oI_f16, oI_g16, oI_f17, oI_g17, oI_f18, oI_g18, oI_f19, oI_g19, oI_f20, oI_g20, oI_f21, oI_g21, oI_f22, oI_g22, oI_f23, oI_g23, oI_f24, oI_g24, oI_f25, oI_g25, ur_r, ur_o, ur_s, up_r, up_o, up_s, jI_add, jI_sub, jI_mul, jI_neg, jI_i, jI_n, lgc_j, cj_lt, cj_ge, cj_gt, cj_le, cj_eq, oL_r, oL_w, oL_f6, oL_g6, oL_f7, oL_g7, oL_f17, oL_g17, oL_f18, oL_g18, dl_T, dl_F, de_T, de_F, dle_T, dle_F, iI_divn, rem_n, nd_v, ct_s, Bool.false_eq_true])))
end VN
