/-! the class: penny; one who walks is made -/
section PN
variable {d : Nat} {T : Nat → Nat × Nat} {L : Nat → Nat → Int64} {R : Nat → Nat → Option Nat} {z w : Nat} {J Q : mR} {t : Nat} {S : Int → Int} {cs : List CL}
theorem tu_r {T : Nat → Nat × Nat} {c : Nat} {v : Nat × Nat} : am_tu T c v c = v := by unfold am_tu; simp
theorem tu_o {T : Nat → Nat × Nat} {c b : Nat} {v : Nat × Nat} (h : ¬ b = c) : am_tu T c v b = T b := by unfold am_tu; simp [h]
def wkV (V : Int → Int) (k p v a b : Int) : Int → Int := up (up (up (up (up V 0 k) 1 p) 4 v) 2 a) 3 b
theorem w_init (x : Nat) (k p v a b : Int) (h : [1, 2, 3, 4, 5, 6, 10].contains (T x).1 = true) : rn_c (d + 1) 45 [.ref x, .int (iI k), .int (iI p), .int (iI v), .int (iI a), .int (iI b)] (T, oI J, L, R, z, w) = some (none, (T, oI (ur J x (wkV (J x) k p v a b)), L, R, z, w)) := by
  have h0 : ¬ (T x).1 = 0 := by intro e; rw [e] at h; exact absurd h (by decide)
  have h1 : 1 ≤ (T x).1 ∧ (T x).1 < 30 := by
    have : (T x).1 = 1 ∨ (T x).1 = 2 ∨ (T x).1 = 3 ∨ (T x).1 = 4 ∨ (T x).1 = 5 ∨ (T x).1 = 6 ∨ (T x).1 = 10 := by simpa using h
    omega
  unfold wkV
  simp (disch := first | omega | exact hJ _ _ | exact rJ_g hJ _ _ | (simp (disch := omega) only [ur_r, ur_o, up_r, up_o]; omega) | assumption) only [c45, s45_0, s45_0v, s45_1, s45_4, s45_4v, s45_5, s45_6, s45_9, s45_9v, s45_10, s45_11, s45_14, s45_14v, s45_15, s45_16, s45_19, s45_19v, s45_20, s45_22, s45_25, s45_25v, s45_26, s45_28, s45_31, h, h0, h1, kl_i, kl_r, kl_l, kl_n, kl_z, bd_s, tl_s, tl_n, ap_c, ap_n, v_s, v_n, nd_1, nd_0, ct13, eq_self, iI_add, iI_sub, iI_mul, iI_nat, iI_eq, iI_lt, iI_le, iI_eq0, iI_lt0, ↓reduceIte, if_true, if_false, not_true_eq_false, not_false_eq_true, true_and, and_true, false_and, and_false, true_or, or_true, false_or, or_false, Int.reduceLT, Int.reduceLE, Int.reduceEq, Int.reduceAdd, Int.reduceSub, Int.reduceMul, Nat.reduceAdd, Nat.reduceLT, Nat.reduceEqDiff, Int.reduceNeg, nc_s, nc_0, Int.zero_add, Int.add_zero, oI_r, oI_w, oI_f0, oI_g0, oI_f1, oI_g1, oI_f2, oI_g2, oI_f3, oI_g3, oI_f4, oI_g4, oI_f5, oI_g5, oI_f6, oI_g6, oI_f7, oI_g7, oI_f8, oI_g8, oI_f9, oI_g9, oI_f10, oI_g10, oI_f11, oI_g11, oI_f12, oI_g12, oI_f13, oI_g13, oI_f14, oI_g14, oI_f15, oI_g15, oI_f16, oI_g16, oI_f17, oI_g17, oI_f18, oI_g18, oI_f19, oI_g19, oI_f20, oI_g20, oI_f21, oI_g21, oI_f22, oI_g22, oI_f23, oI_g23, oI_f24, oI_g24, oI_f25, oI_g25, ur_r, ur_o, ur_s, up_r, up_o, up_s, jI_add, jI_sub, jI_mul, jI_neg, jI_i, jI_n, lgc_j, cj_lt, cj_ge, cj_gt, cj_le, cj_eq, oL_r, oL_w, oL_f6, oL_g6, oL_f7, oL_g7, oL_f17, oL_g17, oL_f18, oL_g18, dl_T, dl_F, de_T, de_F, dle_T, dle_F, iI_divn, rem_n, nd_v, ct_s, Bool.false_eq_true]
theorem c_oneOf (k p v a b : Int) (hk : 0 ≤ k ∧ k ≤ 6) : rn_c (d + 4) 91 [.int (iI k), .int (iI p), .int (iI v), .int (iI a), .int (iI b)] (T, oI J, L, R, z, w) = some (some (.ref z), (am_tu T z (kT k, 0), oI (ur J z (wkV (J z) k p v a b)), L, R, z + 1, w + 5)) := by
  have i1 := fun (h : [1, 2, 3, 4, 5, 6, 10].contains (am_tu T z (kT k, 0) z).1 = true) => w_init (d := d) (T := am_tu T z (kT k, 0)) (J := J) (L := L) (R := R) (z := z + 1) (w := w + 5) z k p v a b h
  have i2 := fun (h : [1, 2, 3, 4, 5, 6, 10].contains (am_tu T z (kT k, 0) z).1 = true) => w_init (d := d + 1) (T := am_tu T z (kT k, 0)) (J := J) (L := L) (R := R) (z := z + 1) (w := w + 5) z k p v a b h
  have i3 := fun (h : [1, 2, 3, 4, 5, 6, 10].contains (am_tu T z (kT k, 0) z).1 = true) => w_init (d := d + 2) (T := am_tu T z (kT k, 0)) (J := J) (L := L) (R := R) (z := z + 1) (w := w + 5) z k p v a b h
  have : k = 0 ∨ k = 1 ∨ k = 2 ∨ k = 3 ∨ k = 4 ∨ k = 5 ∨ k = 6 := by omega
  rcases this with rfl | rfl | rfl | rfl | rfl | rfl | rfl <;> (simp only [tu_r] at i1 i2 i3; replace i1 := i1 (by decide); replace i2 := i2 (by decide); replace i3 := i3 (by decide))
  · have e : kT 0 = 10 := rfl
    rw [e] at i1 i2 i3 ⊢
    simp (disch := first | omega | exact hJ _ _ | exact rJ_g hJ _ _ | (simp (disch := omega) only [ur_r, ur_o, up_r, up_o]; omega) | assumption) only [c91, s91_0, b91_1, s91_124, s91_127, s91_128, s91_129, s91_130, s91_131, s91_132, s91_134, s91_137, s91_137n, tu_r, i1, i2, i3, List.contains_cons, List.contains_nil, beq_self_eq_true, Bool.true_or, Nat.reduceBEq, Bool.false_or, Bool.or_true, kl_i, kl_r, kl_l, kl_n, kl_z, bd_s, tl_s, tl_n, ap_c, ap_n, v_s, v_n, nd_1, nd_0, ct13, eq_self, iI_add, iI_sub, iI_mul, iI_nat, iI_eq, iI_lt, iI_le, iI_eq0, iI_lt0, ↓reduceIte, if_true, if_false, not_true_eq_false, not_false_eq_true, true_and, and_true, false_and, and_false, true_or, or_true, false_or, or_false, Int.reduceLT, Int.reduceLE, Int.reduceEq, Int.reduceAdd, Int.reduceSub, Int.reduceMul, Nat.reduceAdd, Nat.reduceLT, Nat.reduceEqDiff, Int.reduceNeg, nc_s, nc_0, Int.zero_add, Int.add_zero, oI_r, oI_w, oI_f0, oI_g0, oI_f1, oI_g1, oI_f2, oI_g2, oI_f3, oI_g3, oI_f4, oI_g4, oI_f5, oI_g5, oI_f6, oI_g6, oI_f7, oI_g7, oI_f8, oI_g8, oI_f9, oI_g9, oI_f10, oI_g10, oI_f11, oI_g11, oI_f12, oI_g12, oI_f13, oI_g13, oI_f14, oI_g14, oI_f15, oI_g15, oI_f16, oI_g16, oI_f17, oI_g17, oI_f18, oI_g18, oI_f19, oI_g19, oI_f20, oI_g20, oI_f21, oI_g21, oI_f22, oI_g22, oI_f23, oI_g23, oI_f24, oI_g24, oI_f25, oI_g25, ur_r, ur_o, ur_s, up_r, up_o, up_s, jI_add, jI_sub, jI_mul, jI_neg, jI_i, jI_n, lgc_j, cj_lt, cj_ge, cj_gt, cj_le, cj_eq, oL_r, oL_w, oL_f6, oL_g6, oL_f7, oL_g7, oL_f17, oL_g17, oL_f18, oL_g18, dl_T, dl_F, de_T, de_F, dle_T, dle_F, iI_divn, rem_n, nd_v, ct_s, Bool.false_eq_true]
  · have e : kT 1 = 1 := rfl
    rw [e] at i1 i2 i3 ⊢
    simp (disch := first | omega | exact hJ _ _ | exact rJ_g hJ _ _ | (simp (disch := omega) only [ur_r, ur_o, up_r, up_o]; omega) | assumption) only [c91, s91_0, b91_1, s91_40, s91_43, s91_44, s91_45, s91_46, s91_47, s91_48, s91_50, s91_53, s91_53n, c0, s0_0, s0_0v, s0_1, s0_2, s0_3, s0_4, s0_6, s0_8, s0_11, tu_r, i1, i2, i3, List.contains_cons, List.contains_nil, beq_self_eq_true, Bool.true_or, Nat.reduceBEq, Bool.false_or, Bool.or_true, kl_i, kl_r, kl_l, kl_n, kl_z, bd_s, tl_s, tl_n, ap_c, ap_n, v_s, v_n, nd_1, nd_0, ct13, eq_self, iI_add, iI_sub, iI_mul, iI_nat, iI_eq, iI_lt, iI_le, iI_eq0, iI_lt0, ↓reduceIte, if_true, if_false, not_true_eq_false, not_false_eq_true, true_and, and_true, false_and, and_false, true_or, or_true, false_or, or_false, Int.reduceLT, Int.reduceLE, Int.reduceEq, Int.reduceAdd, Int.reduceSub, Int.reduceMul, Nat.reduceAdd, Nat.reduceLT, Nat.reduceEqDiff, Int.reduceNeg, nc_s, nc_0, Int.zero_add, Int.add_zero, oI_r, oI_w, oI_f0, oI_g0, oI_f1, oI_g1, oI_f2, oI_g2, oI_f3, oI_g3, oI_f4, oI_g4, oI_f5, oI_g5, oI_f6, oI_g6, oI_f7, oI_g7, oI_f8, oI_g8, oI_f9, oI_g9, oI_f10, oI_g10, oI_f11, oI_g11, oI_f12, oI_g12, oI_f13, oI_g13, oI_f14, oI_g14, oI_f15, oI_g15, oI_f16, oI_g16, oI_f17, oI_g17, oI_f18, oI_g18, oI_f19, oI_g19, oI_f20, oI_g20, oI_f21, oI_g21, oI_f22, oI_g22, oI_f23, oI_g23, oI_f24, oI_g24, oI_f25, oI_g25, ur_r, ur_o, ur_s, up_r, up_o, up_s, jI_add, jI_sub, jI_mul, jI_neg, jI_i, jI_n, lgc_j, cj_lt, cj_ge, cj_gt, cj_le, cj_eq, oL_r, oL_w, oL_f6, oL_g6, oL_f7, oL_g7, oL_f17, oL_g17, oL_f18, oL_g18, dl_T, dl_F, de_T, de_F, dle_T, dle_F, iI_divn, rem_n, nd_v, ct_s, Bool.false_eq_true]
  · have e : kT 2 = 3 := rfl
    rw [e] at i1 i2 i3 ⊢
    simp (disch := first | omega | exact hJ _ _ | exact rJ_g hJ _ _ | (simp (disch := omega) only [ur_r, ur_o, up_r, up_o]; omega) | assumption) only [c91, s91_0, b91_1, s91_54, s91_57, s91_58, s91_59, s91_60, s91_61, s91_62, s91_64, s91_67, s91_67n, c6, s6_0, s6_0v, s6_1, s6_2, s6_3, s6_4, s6_6, s6_8, s6_11, tu_r, i1, i2, i3, List.contains_cons, List.contains_nil, beq_self_eq_true, Bool.true_or, Nat.reduceBEq, Bool.false_or, Bool.or_true, kl_i, kl_r, kl_l, kl_n, kl_z, bd_s, tl_s, tl_n, ap_c, ap_n, v_s, v_n, nd_1, nd_0, ct13, eq_self, iI_add, iI_sub, iI_mul, iI_nat, iI_eq, iI_lt, iI_le, iI_eq0, iI_lt0, ↓reduceIte, if_true, if_false, not_true_eq_false, not_false_eq_true, true_and, and_true, false_and, and_false, true_or, or_true, false_or, or_false, Int.reduceLT, Int.reduceLE, Int.reduceEq, Int.reduceAdd, Int.reduceSub, Int.reduceMul, Nat.reduceAdd, Nat.reduceLT, Nat.reduceEqDiff, Int.reduceNeg, nc_s, nc_0, Int.zero_add, Int.add_zero, oI_r, oI_w, oI_f0, oI_g0, oI_f1, oI_g1, oI_f2, oI_g2, oI_f3, oI_g3, oI_f4, oI_g4, oI_f5, oI_g5, oI_f6, oI_g6, oI_f7, oI_g7, oI_f8, oI_g8, oI_f9, oI_g9, oI_f10, oI_g10, oI_f11, oI_g11, oI_f12, oI_g12, oI_f13, oI_g13, oI_f14, oI_g14, oI_f15, oI_g15, oI_f16, oI_g16, oI_f17, oI_g17, oI_f18, oI_g18, oI_f19, oI_g19, oI_f20, oI_g20, oI_f21, oI_g21, oI_f22, oI_g22, oI_f23, oI_g23, oI_f24, oI_g24, oI_f25, oI_g25, ur_r, ur_o, ur_s, up_r, up_o, up_s, jI_add, jI_sub, jI_mul, jI_neg, jI_i, jI_n, lgc_j, cj_lt, cj_ge, cj_gt, cj_le, cj_eq, oL_r, oL_w, oL_f6, oL_g6, oL_f7, oL_g7, oL_f17, oL_g17, oL_f18, oL_g18, dl_T, dl_F, de_T, de_F, dle_T, dle_F, iI_divn, rem_n, nd_v, ct_s, Bool.false_eq_true]
  · have e : kT 3 = 5 := rfl
    rw [e] at i1 i2 i3 ⊢
    simp (disch := first | omega | exact hJ _ _ | exact rJ_g hJ _ _ | (simp (disch := omega) only [ur_r, ur_o, up_r, up_o]; omega) | assumption) only [c91, s91_0, b91_1, s91_68, s91_71, s91_72, s91_73, s91_74, s91_75, s91_76, s91_78, s91_81, s91_81n, c12, s12_0, s12_0v, s12_1, s12_2, s12_3, s12_4, s12_6, s12_8, s12_11, tu_r, i1, i2, i3, List.contains_cons, List.contains_nil, beq_self_eq_true, Bool.true_or, Nat.reduceBEq, Bool.false_or, Bool.or_true, kl_i, kl_r, kl_l, kl_n, kl_z, bd_s, tl_s, tl_n, ap_c, ap_n, v_s, v_n, nd_1, nd_0, ct13, eq_self, iI_add, iI_sub, iI_mul, iI_nat, iI_eq, iI_lt, iI_le, iI_eq0, iI_lt0, ↓reduceIte, if_true, if_false, not_true_eq_false, not_false_eq_true, true_and, and_true, false_and, and_false, true_or, or_true, false_or, or_false, Int.reduceLT, Int.reduceLE, Int.reduceEq, Int.reduceAdd, Int.reduceSub, Int.reduceMul, Nat.reduceAdd, Nat.reduceLT, Nat.reduceEqDiff, Int.reduceNeg, nc_s, nc_0, Int.zero_add, Int.add_zero, oI_r, oI_w, oI_f0, oI_g0, oI_f1, oI_g1, oI_f2, oI_g2, oI_f3, oI_g3, oI_f4, oI_g4, oI_f5, oI_g5, oI_f6, oI_g6, oI_f7, oI_g7, oI_f8, oI_g8, oI_f9, oI_g9, oI_f10, oI_g10, oI_f11, oI_g11, oI_f12, oI_g12, oI_f13, oI_g13, oI_f14, oI_g14, oI_f15, oI_g15, oI_f16, oI_g16, oI_f17, oI_g17, oI_f18, oI_g18, oI_f19, oI_g19, oI_f20, oI_g20, oI_f21, oI_g21, oI_f22, oI_g22, oI_f23, oI_g23, oI_f24, oI_g24, oI_f25, oI_g25, ur_r, ur_o, ur_s, up_r, up_o, up_s, jI_add, jI_sub, jI_mul, jI_neg, jI_i, jI_n, lgc_j, cj_lt, cj_ge, cj_gt, cj_le, cj_eq, oL_r, oL_w, oL_f6, oL_g6, oL_f7, oL_g7, oL_f17, oL_g17, oL_f18, oL_g18, dl_T, dl_F, de_T, de_F, dle_T, dle_F, iI_divn, rem_n, nd_v, ct_s, Bool.false_eq_true]
  · have e : kT 4 = 2 := rfl
    rw [e] at i1 i2 i3 ⊢
    simp (disch := first | omega | exact hJ _ _ | exact rJ_g hJ _ _ | (simp (disch := omega) only [ur_r, ur_o, up_r, up_o]; omega) | assumption) only [c91, s91_0, b91_1, s91_82, s91_85, s91_86, s91_87, s91_88, s91_89, s91_90, s91_92, s91_95, s91_95n, c3, s3_0, s3_0v, s3_1, s3_2, s3_3, s3_4, s3_6, s3_8, s3_11, c0, s0_0, s0_0v, s0_1, s0_2, s0_3, s0_4, s0_6, s0_8, s0_11, tu_r, i1, i2, i3, List.contains_cons, List.contains_nil, beq_self_eq_true, Bool.true_or, Nat.reduceBEq, Bool.false_or, Bool.or_true, kl_i, kl_r, kl_l, kl_n, kl_z, bd_s, tl_s, tl_n, ap_c, ap_n, v_s, v_n, nd_1, nd_0, ct13, eq_self, iI_add, iI_sub, iI_mul, iI_nat, iI_eq, iI_lt, iI_le, iI_eq0, iI_lt0, ↓reduceIte, if_true, if_false, not_true_eq_false, not_false_eq_true, true_and, and_true, false_and, and_false, true_or, or_true, false_or, or_false, Int.reduceLT, Int.reduceLE, Int.reduceEq, Int.reduceAdd, Int.reduceSub, Int.reduceMul, Nat.reduceAdd, Nat.reduceLT, Nat.reduceEqDiff, Int.reduceNeg, nc_s, nc_0, Int.zero_add, Int.add_zero, oI_r, oI_w, oI_f0, oI_g0, oI_f1, oI_g1, oI_f2, oI_g2, oI_f3, oI_g3, oI_f4, oI_g4, oI_f5, oI_g5, oI_f6, oI_g6, oI_f7, oI_g7, oI_f8, oI_g8, oI_f9, oI_g9, oI_f10, oI_g10, oI_f11, oI_g11, oI_f12, oI_g12, oI_f13, oI_g13, oI_f14, oI_g14, oI_f15, oI_g15, oI_f16, oI_g16, oI_f17, oI_g17, oI_f18, oI_g18, oI_f19, oI_g19, oI_f20, oI_g20, oI_f21, oI_g21, oI_f22, oI_g22, oI_f23, oI_g23, oI_f24, oI_g24, oI_f25, oI_g25, ur_r, ur_o, ur_s, up_r, up_o, up_s, jI_add, jI_sub, jI_mul, jI_neg, jI_i, jI_n, lgc_j, cj_lt, cj_ge, cj_gt, cj_le, cj_eq, oL_r, oL_w, oL_f6, oL_g6, oL_f7, oL_g7, oL_f17, oL_g17, oL_f18, oL_g18, dl_T, dl_F, de_T, de_F, dle_T, dle_F, iI_divn, rem_n, nd_v, ct_s, Bool.false_eq_true]
  · have e : kT 5 = 6 := rfl
    rw [e] at i1 i2 i3 ⊢
    simp (disch := first | omega | exact hJ _ _ | exact rJ_g hJ _ _ | (simp (disch := omega) only [ur_r, ur_o, up_r, up_o]; omega) | assumption) only [c91, s91_0, b91_1, s91_96, s91_99, s91_100, s91_101, s91_102, s91_103, s91_104, s91_106, s91_109, s91_109n, c15, s15_0, s15_0v, s15_1, s15_2, s15_3, s15_4, s15_6, s15_8, s15_11, c6, s6_0, s6_0v, s6_1, s6_2, s6_3, s6_4, s6_6, s6_8, s6_11, tu_r, i1, i2, i3, List.contains_cons, List.contains_nil, beq_self_eq_true, Bool.true_or, Nat.reduceBEq, Bool.false_or, Bool.or_true, kl_i, kl_r, kl_l, kl_n, kl_z, bd_s, tl_s, tl_n, ap_c, ap_n, v_s, v_n, nd_1, nd_0, ct13, eq_self, iI_add, iI_sub, iI_mul, iI_nat, iI_eq, iI_lt, iI_le, iI_eq0, iI_lt0, ↓reduceIte, if_true, if_false, not_true_eq_false, not_false_eq_true, true_and, and_true, false_and, and_false, true_or, or_true, false_or, or_false, Int.reduceLT, Int.reduceLE, Int.reduceEq, Int.reduceAdd, Int.reduceSub, Int.reduceMul, Nat.reduceAdd, Nat.reduceLT, Nat.reduceEqDiff, Int.reduceNeg, nc_s, nc_0, Int.zero_add, Int.add_zero, oI_r, oI_w, oI_f0, oI_g0, oI_f1, oI_g1, oI_f2, oI_g2, oI_f3, oI_g3, oI_f4, oI_g4, oI_f5, oI_g5, oI_f6, oI_g6, oI_f7, oI_g7, oI_f8, oI_g8, oI_f9, oI_g9, oI_f10, oI_g10, oI_f11, oI_g11, oI_f12, oI_g12, oI_f13, oI_g13, oI_f14, oI_g14, oI_f15, oI_g15, oI_f16, oI_g16, oI_f17, oI_g17, oI_f18, oI_g18, oI_f19, oI_g19, oI_f20, oI_g20, oI_f21, oI_g21, oI_f22, oI_g22, oI_f23, oI_g23, oI_f24, oI_g24, oI_f25, oI_g25, ur_r, ur_o, ur_s, up_r, up_o, up_s, jI_add, jI_sub, jI_mul, jI_neg, jI_i, jI_n, lgc_j, cj_lt, cj_ge, cj_gt, cj_le, cj_eq, oL_r, oL_w, oL_f6, oL_g6, oL_f7, oL_g7, oL_f17, oL_g17, oL_f18, oL_g18, dl_T, dl_F, de_T, de_F, dle_T, dle_F, iI_divn, rem_n, nd_v, ct_s, Bool.false_eq_true]
  · have e : kT 6 = 4 := rfl
    rw [e] at i1 i2 i3 ⊢
    simp (disch := first | omega | exact hJ _ _ | exact rJ_g hJ _ _ | (simp (disch := omega) only [ur_r, ur_o, up_r, up_o]; omega) | assumption) only [c91, s91_0, b91_1, s91_110, s91_113, s91_114, s91_115, s91_116, s91_117, s91_118, s91_120, s91_123, s91_123n, c9, s9_0, s9_0v, s9_1, s9_2, s9_3, s9_4, s9_6, s9_8, s9_11, c6, s6_0, s6_0v, s6_1, s6_2, s6_3, s6_4, s6_6, s6_8, s6_11, tu_r, i1, i2, i3, List.contains_cons, List.contains_nil, beq_self_eq_true, Bool.true_or, Nat.reduceBEq, Bool.false_or, Bool.or_true, kl_i, kl_r, kl_l, kl_n, kl_z, bd_s, tl_s, tl_n, ap_c, ap_n, v_s, v_n, nd_1, nd_0, ct13, eq_self, iI_add, iI_sub, iI_mul, iI_nat, iI_eq, iI_lt, iI_le, iI_eq0, iI_lt0, ↓reduceIte, if_true, if_false, not_true_eq_false, not_false_eq_true, true_and, and_true, false_and, and_false, true_or, or_true, false_or, or_false, Int.reduceLT, Int.reduceLE, Int.reduceEq, Int.reduceAdd, Int.reduceSub, Int.reduceMul, Nat.reduceAdd, Nat.reduceLT, Nat.reduceEqDiff, Int.reduceNeg, nc_s, nc_0, Int.zero_add, Int.add_zero, oI_r, oI_w, oI_f0, oI_g0, oI_f1, oI_g1, oI_f2, oI_g2, oI_f3, oI_g3, oI_f4, oI_g4, oI_f5, oI_g5, oI_f6, oI_g6, oI_f7, oI_g7, oI_f8, oI_g8, oI_f9, oI_g9, oI_f10, oI_g10, oI_f11, oI_g11, oI_f12, oI_g12, oI_f13, oI_g13, oI_f14, oI_g14, oI_f15, oI_g15, oI_f16, oI_g16, oI_f17, oI_g17, oI_f18, oI_g18, oI_f19, oI_g19, oI_f20, oI_g20, oI_f21, oI_g21, oI_f22, oI_g22, oI_f23, oI_g23, oI_f24, oI_g24, oI_f25, oI_g25, ur_r, ur_o, ur_s, up_r, up_o, up_s, jI_add, jI_sub, jI_mul, jI_neg, jI_i, jI_n, lgc_j, cj_lt, cj_ge, cj_gt, cj_le, cj_eq, oL_r, oL_w, oL_f6, oL_g6, oL_f7, oL_g7, oL_f17, oL_g17, oL_f18, oL_g18, dl_T, dl_F, de_T, de_F, dle_T, dle_F, iI_divn, rem_n, nd_v, ct_s, Bool.false_eq_true]
/-- cells stay what they are -/
def tE (T T' : Nat → Nat × Nat) : Prop := ∀ b, ¬ (T b).1 = 0 → T' b = T b
def rE (T : Nat → Nat × Nat) (R R' : Nat → Nat → Option Nat) : Prop := ∀ b j, ¬ (T b).1 = 0 → ¬ b = 106 → ¬ b = 124 → ¬ (b = 101 ∧ j = 4) → ¬ (b = 119 ∧ j = 4) → R' b j = R b j
theorem tE.i : tE T T := fun _ _ => rfl
theorem tE.tu {v : Nat × Nat} (h : T z = (0, 0)) : tE T (am_tu T z v) := fun b hb => tu_o (by intro e; rw [e, h] at hb; exact hb rfl)
theorem wc_x {T' : Nat → Nat × Nat} {R' : Nat → Nat → Option Nat} {a : Nat} (h : wc T R a) (hT : tE T T') (hR : ∀ j, R' a j = R a j) : wc T' R' a := by
  unfold wc at h ⊢
  obtain ⟨h1, h2, h3, h4, h5, h6, h7⟩ := h
  rw [hT a (by rw [h1]; decide), hT _ (by rw [h2]; decide), hT _ (by rw [h3]; decide), hT _ (by rw [h4]; decide)]
  simp only [hR]
  exact ⟨h1, h2, h3, h4, h5, h6, h7⟩
theorem cM_x {T' : Nat → Nat × Nat} {R' : Nat → Nat → Option Nat} (h : cM T R) (hT : tE T T') (hR : rE T R R') : cM T' R' := by
  have t : ∀ b v, T b = v → ¬ v.1 = 0 → T' b = v := fun b v e n => by rw [hT b (by rw [e]; exact n)]; exact e
  have r : ∀ b j {v}, ¬ (T b).1 = 0 → ¬ b = 106 → ¬ b = 124 → ¬ (b = 101 ∧ j = 4) → ¬ (b = 119 ∧ j = 4) → R b j = v → R' b j = v := fun b j v h1 h2 h3 h4 h5 e => by rw [hR b j h1 h2 h3 h4 h5]; exact e
  obtain ⟨h1, h2, h3, h4, h5, h6, h7, h8, h9, h10, h11, h12, h13, h14, h15, h16, h17, h18, h19, h20, h21, h22, h23, h24, h25, h26, h27, h28, h29, h30, h31, h32, h33, h34, h35, h36, h37, h38, h39, w1, w2, w3, w4⟩ := h
  exact ⟨t _ _ h1 (by decide), t _ _ h2 (by decide), t _ _ h3 (by decide), t _ _ h4 (by decide), t _ _ h5 (by decide), t _ _ h6 (by decide), t _ _ h7 (by decide), t _ _ h8 (by decide), t _ _ h9 (by decide), t _ _ h10 (by decide), t _ _ h11 (by decide), t _ _ h12 (by decide), t _ _ h13 (by decide), r _ _ (by rw [h2]; decide) (by decide) (by decide) (by decide) (by decide) h14, r _ _ (by rw [h2]; decide) (by decide) (by decide) (by decide) (by decide) h15, r _ _ (by rw [h2]; decide) (by decide) (by decide) (by decide) (by decide) h16, r _ _ (by rw [h2]; decide) (by decide) (by decide) (by decide) (by decide) h17, r _ _ (by rw [h2]; decide) (by decide) (by decide) (by decide) (by decide) h18, r _ _ (by rw [h2]; decide) (by decide) (by decide) (by decide) (by decide) h19, r _ _ (by rw [h2]; decide) (by decide) (by decide) (by decide) (by decide) h20, t _ _ h21 (by decide), t _ _ h22 (by decide), t _ _ h23 (by decide), t _ _ h24 (by decide), t _ _ h25 (by decide), t _ _ h26 (by decide), r _ _ (by rw [h3]; decide) (by decide) (by decide) (by decide) (by decide) h27, r _ _ (by rw [h3]; decide) (by decide) (by decide) (by decide) (by decide) h28, r _ _ (by rw [h3]; decide) (by decide) (by decide) (by decide) (by decide) h29, r _ _ (by rw [h3]; decide) (by decide) (by decide) (by decide) (by decide) h30, r _ _ (by rw [h3]; decide) (by decide) (by decide) (by decide) (by decide) h31, r _ _ (by rw [h3]; decide) (by decide) (by decide) (by decide) (by decide) h32, r _ _ (by rw [h3]; decide) (by decide) (by decide) (by decide) (by decide) h33, r _ _ (by rw [h1]; decide) (by decide) (by decide) (by decide) (by decide) h34, r _ _ (by rw [h1]; decide) (by decide) (by decide) (by decide) (by decide) h35, r _ _ (by rw [h1]; decide) (by decide) (by decide) (by decide) (by decide) h36, r _ _ (by rw [h1]; decide) (by decide) (by decide) (by decide) (by decide) h37, r _ _ (by rw [h1]; decide) (by decide) (by decide) (by decide) (by decide) h38, r _ _ (by rw [h4]; decide) (by decide) (by decide) (by decide) (by decide) h39, wc_x w1 hT (fun j => hR _ _ (by rw [w1.1]; decide) (by omega) (by omega) (by omega) (by omega)), wc_x w2 hT (fun j => hR _ _ (by rw [w2.1]; decide) (by omega) (by omega) (by omega) (by omega)), fun k hk => wc_x (w3 k hk) hT (fun j => hR _ _ (by rw [(w3 k hk).1]; decide) (by omega) (by omega) (by omega) (by omega)), fun k hk => r _ _ (by rw [h6]; decide) (by omega) (by omega) (by omega) (by omega) (w4 k hk)⟩
theorem tc_x {T' : Nat → Nat × Nat} {R' : Nat → Nat → Option Nat} (h : tc T R t) (hT : tE T T') (hR : rE T R R') (hl : tpl t) : tc T' R' t := by
  unfold tpl at hl
  obtain ⟨h1, h2, h3, h4, h5, h6, h7, h8⟩ := h
  have r : ∀ j, R' t j = R t j := fun j => hR t j (by rw [h1]; decide) (by omega) (by omega) (by omega) (by omega)
  unfold tc
  rw [hT t (by rw [h1]; decide), hT _ (by rw [h2]; decide), hT _ (by rw [h3]; decide), hT _ (by rw [h4]; decide), hT _ (by rw [h5]; decide), hT _ (by rw [h6]; decide), hT _ (by rw [h7]; decide)]
  simp only [r]
  exact ⟨h1, h2, h3, h4, h5, h6, h7, h8⟩
/-- what the methods change that may make things -/
def qZ (z z' t : Nat) (J J' : mR) : Prop := (∀ b, ¬ (z ≤ b ∧ b < z') → ¬ b = 100 → ¬ (141 ≤ b ∧ b ≤ 192) → ¬ b = t + 6 → J' b = J b) ∧ (∀ j, ¬ j = 8 → J' 100 j = J 100 j) ∧ (∀ j, 0 ≤ j → j < 5 → i32 (J' (t + 6) j)) ∧ cz J'
theorem qG.zz {J J' : mR} {z' : Nat} (h : qG t J J') : qZ z z' t J J' := ⟨fun b _ => h.1 b, h.2⟩
theorem cS_z {T' : Nat → Nat × Nat} {R' : Nat → Nat → Option Nat} {J' : mR} {z' : Nat} (hM : cM T R) (hz : ∀ b, z ≤ b → (T b).1 = 0) (h : cS T R J t cs S) (hT : tE T T') (hR : rE T R R') (hR4 : R' 101 4 = R 101 4) (hR6 : ∀ q, R' 106 q = R 106 q) (f : qZ z z' t J J') : cS T' R' J' t cs S := by
  obtain ⟨⟨h1, h2, h3, h4, h5, h6, h7⟩, ⟨n1, n2, n3, n4, n5⟩, hcz⟩ := h
  have lt : ∀ b, ¬ (T b).1 = 0 → ¬ (z ≤ b ∧ b < z') := fun b hb q => hb (hz b q.1)
  have h7' := h7
  unfold tpl at h7
  obtain ⟨k1, k2, k3, k4, k5, k6, k7, k8⟩ := id h1.1
  have ht : ∀ b, t ≤ b → b < t + 6 → J' b = J b := fun b b1 b2 => by
    refine f.1 b (lt b ?_) (by omega) (by omega) (by omega)
    have : b = t ∨ b = t + 1 ∨ b = t + 2 ∨ b = t + 3 ∨ b = t + 4 ∨ b = t + 5 := by omega
    rcases this with e | e | e | e | e | e <;> rw [e]
    · rw [k1]; decide
    · rw [k2]; decide
    · rw [k3]; decide
    · rw [k4]; decide
    · rw [k5]; decide
    · rw [k6]; decide
  have w := hM.w102
  have g1 : J' 101 = J 101 := f.1 101 (lt _ (by rw [hM.t101]; decide)) (by omega) (by omega) (by omega)
  have g2 : J' 102 = J 102 := f.1 102 (lt _ (by rw [w.1]; decide)) (by omega) (by omega) (by omega)
  have g3 : J' 103 = J 103 := f.1 103 (lt _ (by rw [w.2.1]; decide)) (by omega) (by omega) (by omega)
  have g4 : J' 104 = J 104 := f.1 104 (lt _ (by rw [w.2.2.1]; decide)) (by omega) (by omega) (by omega)
  have g5 : J' 105 = J 105 := f.1 105 (lt _ (by rw [w.2.2.2.1]; decide)) (by omega) (by omega) (by omega)
  have g7 : J' 107 = J 107 := f.1 107 (lt _ (by rw [hM.t107]; decide)) (by omega) (by omega) (by omega)
  have gt := ht t (by omega) (by omega)
  refine ⟨⟨?_, by rw [hR4]; exact h2, ?_, by rw [gt]; exact h4, by rw [gt]; exact h5, by rw [gt]; exact h6, h7'⟩, ⟨by rw [g3]; exact n1, by rw [g4]; exact n2, by rw [g2]; exact n3, by rw [g2]; exact n4, by rw [g5]; exact n5⟩, f.2.2.2⟩
  · obtain ⟨f1, f2, f3, f4, f5, f6, f7⟩ := h1
    refine ⟨tc_x f1 hT hR h7', f2, fun h s a1 a2 a3 a4 => ?_, loR_x gt (ht (t + 2) (by omega) (by omega)) (ht (t + 3) (by omega) (by omega)) (ht (t + 4) (by omega) (by omega)) (ht (t + 5) (by omega) (by omega)) cs 0 0 f4, ?_, ?_, f.2.2.1⟩
    · rw [ht (t + 1) (by omega) (by omega)]; exact f3 h s a1 a2 a3 a4
    · rw [gt]; exact f5
    · rw [gt]; exact f6
  · refine ⟨fun q hq => ?_, by rw [g1]; exact h3.2⟩
    obtain ⟨⟨y, y1, y2⟩, y3, y4⟩ := h3.1 q hq
    obtain ⟨l1, l2, l3, l4⟩ := y2.pl hM h1.1
    refine ⟨⟨y, by rw [hR6]; exact y1, ?_⟩, by rw [g7]; exact y3, y4⟩
    obtain ⟨q1, q2⟩ := id y2
    unfold pc1
    rw [f.1 y (lt y y2.nz) (by omega) l3 (by omega), hT y y2.nz]
    exact ⟨q1, q2⟩
theorem am_u_o {α : Type} {f : Nat → Nat → α} {a k b j : Nat} {x : α} (h : ¬ (b = a ∧ j = k)) : am_u f a k x b j = f b j := by unfold am_u; rw [if_neg h]
theorem am_u_r {α : Type} {f : Nat → Nat → α} {a k : Nat} {x : α} : am_u f a k x a k = x := by unfold am_u; rw [if_pos ⟨rfl, rfl⟩]
theorem am_u_b {α : Type} {f : Nat → Nat → α} {a k : Nat} {x y : α} (h : f a k = y) : am_u (am_u f a k x) a k y = f := by
  funext b j
  by_cases e : b = a ∧ j = k
  · rw [e.1, e.2, am_u_r, h]
  · rw [am_u_o e, am_u_o e]
theorem cS_k (hM : cM T R) (hz : ∀ b, z ≤ b → (T b).1 = 0) (h : cS T R J t cs S) (hT : oT S) {p : Int} (hp : 0 ≤ p ∧ p < S 15) (h15 : S 15 ≤ 6) : cS (am_tu T z (2, 0)) (am_u R 106 p.toNat (some z)) (ur J z (wkV (J z) 4 p (S (156 + p)) (S (162 + p)) (S (168 + p)))) t cs (up S (150 + p) 4) := by
  have h7 := h.1.2.2.2.2.2.2
  unfold tpl at h7
  have z100 : ¬ 100 = z := by intro e; have := hz 100 (by omega); rw [hM.t100] at this; exact absurd this (by decide)
  have zt : ¬ t + 6 = z := by intro e; have := hz (t + 6) (by omega); rw [h.1.1.1.2.2.2.2.2.2.1] at this; exact absurd this (by decide)
  have zk : ∀ k : Nat, k < 13 → ¬ 141 + 4 * k + 3 = z := by intro k hk e; have := hz (141 + 4 * k + 3) (by omega); rw [(hM.wt k hk).2.2.2.1] at this; exact absurd this (by decide)
  have tz : tE T (am_tu T z (2, 0)) := fun b hb => tu_o (fun e => hb (hz b (by omega)))
  have h' := cS_z (J' := ur J z (wkV (J z) 4 p (S (156 + p)) (S (162 + p)) (S (168 + p)))) (z' := z + 1) (T' := am_tu T z (2, 0)) (R' := R) hM hz h tz (fun _ _ _ _ _ _ _ => rfl) rfl (fun _ => rfl) ⟨fun b b1 _ _ _ => ur_o (by omega), fun j _ => by rw [ur_o z100], fun j j0 j5 => by rw [ur_o zt]; exact h.1.1.2.2.2.2.2.2 j j0 j5, fun k hk j hj => by rw [ur_o (zk k hk)]; exact h.2.2 k hk j hj⟩
  have hMT : cM (am_tu T z (2, 0)) R := cM_x hM tz (fun _ _ _ _ _ _ _ => rfl)
  obtain ⟨⟨g1, g2, g3, g4, g5, g6, g7⟩, ⟨n1, n2, n3, n4, n5⟩, hcz⟩ := h'
  have tl : ∀ a b, 200 ≤ a → tlS (up S (150 + p) 4) a b = tlS S a b := by
    intro a b ha
    unfold tlS
    rw [up_o (by omega)]
    split
    · rfl
    · have := hT.1
      rw [up_o (by omega)]
  have ro : ∀ b j, ¬ b = 106 → am_u R 106 p.toNat (some z) b j = R b j := fun b j hb => am_u_o (fun q => hb q.1)
  refine ⟨⟨?_, by rw [ro _ _ (by decide)]; exact g2, ?_, by rw [tl _ _ (by omega)]; exact g4, by rw [tl _ _ (by omega)]; exact g5, by rw [tl _ _ (by omega)]; exact g6, g7⟩, ⟨fun j hj => ?_, fun q hq => ?_, ?_, ?_, n5⟩, hcz⟩
  · obtain ⟨f1, f2⟩ := g1
    refine ⟨?_, f2⟩
    unfold tc
    simp only [ro t _ (show ¬ t = 106 by omega)]
    exact f1
  · refine ⟨fun q hq => ?_, by rw [up_o (by omega)]; exact g3.2⟩
    rw [up_o (by omega)] at hq
    obtain ⟨⟨y, y1, y2⟩, y3, y4⟩ := g3.1 q hq
    refine ⟨?_, by rw [up_o (by omega)]; exact y3, by rw [up_o (by omega), up_o (by omega)]; exact y4⟩
    by_cases e : (q : Int) = p
    · have eq : q = p.toNat := by omega
      refine ⟨z, by rw [eq, am_u_r], ?_⟩
      unfold pc1
      rw [tu_r, ur_r, e]
      unfold wkV
      simp (disch := omega) only [up_r, up_o]
      exact ⟨rfl, trivial, trivial, trivial, trivial, trivial⟩
    · refine ⟨y, by rw [am_u_o (by omega)]; exact y1, ?_⟩
      obtain ⟨q1, q2, q3, q4, q5, q6⟩ := y2
      unfold pc1
      simp (disch := omega) only [up_o]
      exact ⟨q1, q2, q3, q4, q5, q6⟩
  · rw [up_o (by omega)]; exact n1 j hj
  · rw [n2 q hq]; unfold dOf; simp (disch := omega) only [up_o]
  · rw [up_o (by omega)]; exact n3
  · rw [up_o (by omega)]; exact n4
theorem pen_7z (l0 l1 l2 l3 l5 l6 : Option Value) (st : List Value) (I : Nat → Nat → Int32) (L : Nat → Nat → Int64) : rn_r d 78 7 [l0, l1, l2, l3, some .null, l5, l6] st (T, I, L, R, z, w) = rn_r d 78 9 [l0, l1, l2, l3, some .null, l5, l6] (.null :: st) (T, I, L, R, z, w) := s78_7v d l0 l1 l2 l3 l5 l6 none st T I L R z w
theorem c_penny (hM : cM T R) (hz : ∀ b, z ≤ b → (T b).1 = 0) (ho : oR (tokL cs) S) (h : cS T R J t cs S) (p n part : Int) (hp : i32 p) (hn : i32 n) (hpa : i32 part) : ∃ (T' : Nat → Nat × Nat) (z' w' : Nat) (J' Q' : mR), rn_c (d + 22) 78 [.ref 100, .int (iI p), .int (iI n), .int (iI part)] (T, oI J, oL Q, R, z, w) = some (some (.long (jI (pennyV (tokL cs) S p n part))), (T', oI J', oL Q', R, z', w')) ∧ tE T T' ∧ (∀ b, ¬ (z ≤ b ∧ b < z') → T' b = T b) ∧ (z ≤ z' ∧ z' ≤ z + 1) ∧ (w ≤ w' ∧ w' ≤ w + 5) ∧ qZ z z' t J J' ∧ cF Q Q' := by
  have h15 := ho.1.2.2.2.2
  have pa := c_personAt (d := d + 21) (J := J) (L := oL Q) (z := z) (w := w) hM h.1.2.2.1 p hp h15
  have h7 := h.1.2.2.2.2.2.2
  by_cases c : 0 ≤ p ∧ p < S 15
  · obtain ⟨x, y1, hx, y3, y4, y5⟩ := cP1 hM h.1.2.2.1 p c h15.2
    rw [if_neg (by omega), if_neg (by omega), y1, v_s] at pa
    have tg := hx.tg
    have hp6 : 0 ≤ p ∧ p < 6 := by omega
    by_cases cn : 1 ≤ n ∧ n ≤ 6 ∧ 0 ≤ part ∧ part ≤ 1
    · have hnn : (n.toNat : Int) = n := by omega
      have hpl := hx.pl hM h.1.1.1
      have bg := c_begin (d := d + 20) (J := J) (Q := Q) (z := z) (w := w) hM
      obtain ⟨J1, Q1, hrun, hf, e6, e7, e8, hQ⟩ := c_think (d := d + 21) (Q := Q) (z := z) (w := w) hM ho n.toNat (by omega) h (by omega)
      have h1 := h.x hM ho.2.2.2.1 hf
      obtain ⟨l1, l2, l3, l4⟩ := id hpl
      have ex : J1 x = J x := hf.1 x l3 (by omega)
      obtain ⟨q1, q2, q3, q4, q5, q6⟩ := id hx
      have oo := c_oneOf (d := d + 17) (T := T) (J := J1) (L := oL Q1) (R := R) (z := z) (w := w) 4 p (S (156 + p)) (S (162 + p)) (S (168 + p)) (by omega)
      have k4 : kT 4 = 2 := rfl
      rw [k4] at oo
      have hK := cS_k hM hz h1 ho.2.2.2.1 c h15.2
      have tz : tE T (am_tu T z (2, 0)) := fun b hb => tu_o (fun e => hb (hz b (by omega)))
      have hMK : cM (am_tu T z (2, 0)) (am_u R 106 p.toNat (some z)) := cM_x hM tz (fun b j _ hb _ _ _ => am_u_o (fun q => hb q.1))
      have hMT : cM (am_tu T z (2, 0)) R := cM_x hM tz (fun _ _ _ _ _ _ _ => rfl)
      have hoK := oR_k ho hp6
      obtain ⟨K, hKe⟩ : ∃ K, K = ur J1 z (wkV (J1 z) 4 p (S (156 + p)) (S (162 + p)) (S (168 + p))) := ⟨_, rfl⟩
      rw [← hKe] at hK oo
      have bg2 := c_begin (d := d + 20) (J := K) (Q := Q1) (z := z + 1) (w := w + 5) hMK
      obtain ⟨J2, Q2, hrun2, hf2, f6, f7, f8, hQ2⟩ := c_think (d := d + 21) (Q := Q1) (z := z + 1) (w := w + 5) hMK hoK n.toNat (by omega) hK (by omega)
      obtain ⟨r1, _⟩ := mnS_r ho (n := n.toNat) (by omega)
      obtain ⟨r2, _⟩ := mnS_r hoK (n := n.toNat) (by omega)
      have hpw := c_tenTo (d := d + 21) (T := am_tu T z (2, 0)) (I := oI J2) (L := oL Q2) (R := R) (z := z + 1) (w := w + 5) n.toNat (by omega)
      have p1 := p10_le n.toNat (by omega)
      have p2 := p10_pos n.toNat
      have lw := c_fraction (d := d + 20) (T := am_tu T z (2, 0)) (I := oI J2) (L := oL Q2) (R := R) (z := z + 1) (w := w + 5) ((mnS (tokL cs) n.toNat S).1 - (mnS (tokL cs) n.toNat (up S (150 + p) 4)).1) (p10 n.toNat) part (by omega) (by omega) (by omega)
      rw [hnn] at hrun hrun2 hpw
      have v4 : J1 x 4 = S (156 + p) := by rw [ex]; exact q6
      have v2 : J1 x 2 = S (162 + p) := by rw [ex]; exact q4
      have v3 : J1 x 3 = S (168 + p) := by rw [ex]; exact q5
      have a6 := hMT.a106 p hp6
      have zx : ¬ x = z := by intro e; exact hx.nz (hz x (by omega))
      have tgx : [1, 2, 3, 4, 5, 6, 10].contains (am_tu T z (2, 0) x).1 = true := by rw [tu_o zx]; exact tg
      have tx0 : ¬ (am_tu T z (2, 0) x).1 = 0 := by rw [tu_o zx]; exact y5
      have f25 : am_arr (am_tu T z (2, 0)) [25] 106 (iI p) = true := ar_ok hMT.t106 rfl (by decide) hp6
      have f24 : am_arr (am_tu T z (2, 0)) [24] 106 (iI p) = false := by unfold am_arr; rw [hMT.t106]; rfl
      have tx11 : ((am_tu T z (2, 0) x).1 == 11) = false := by rw [tu_o zx, q1]; unfold kT; simp only []; repeat' split
                                                               all_goals rfl
      have rb := am_u_b (x := some z) y1
      refine ⟨_, z + 1, w + 5, J2, Q2, ?_, tz, fun b hb => tu_o (by omega), by omega, by omega, ⟨fun b b1 b2 b3 b4 => ?_, fun j hj => ?_, hf2.2.1, hf2.2.2⟩, hQ.tr hQ2⟩
      · unfold pennyV
        rw [if_neg (by omega), if_neg (by omega), if_neg (by omega), if_neg (by omega), if_neg (by omega), if_neg (by omega)]
        simp (disch := first | omega | exact hJ _ _ | exact rJ_g hJ _ _ | (simp (disch := omega) only [ur_r, ur_o, up_r, up_o]; omega) | assumption) only [c78, s78_0, s78_0v, s78_1, s78_2, s78_5, s78_5n, s78_5v, s78_7, s78_7v, s78_9, s78_9n, s78_12, s78_13, b78_14, s78_17, s78_18, b78_20, s78_23, b78_24, s78_27, s78_28, b78_29, s78_32, s78_35, s78_36, s78_36v, s78_37, s78_40, s78_41, s78_41v, s78_42, s78_43, s78_44, s78_45, s78_48, s78_48v, s78_49, s78_52, s78_54, s78_54v, s78_55, s78_58, s78_61, s78_62, s78_63, s78_64, s78_64v, s78_66, s78_69, s78_69v, s78_71, s78_74, s78_74v, s78_76, s78_79, s78_82, s78_83, s78_83v, s78_84, s78_87, s78_88, s78_88v, s78_89, s78_90, s78_91, s78_92, s78_95, s78_95v, s78_96, s78_99, s78_102, s78_103, s78_103v, s78_105, s78_106, s78_108, s78_108v, s78_109, s78_112, s78_113, s78_114, s78_117, s78_118, s78_121, hM.t100, hM.t101, hM.r100_0, hM.r101_1, pa, tg, y5, bg, hrun, e6, v4, v2, v3, oo, hMT.t100, hMT.t101, a6, tgx, tx0, bg2, hrun2, f6, rb, hpw, lw, tu_r, v_s, hMK.t100, hMK.r100_0, hMK.r101_1, f24, f25, tx11, List.contains_cons, List.contains_nil, beq_self_eq_true, Bool.true_or, Nat.reduceBEq, Bool.false_or, Bool.or_true, Bool.false_and, Bool.true_and, kl_i, kl_r, kl_l, kl_n, kl_z, bd_s, tl_s, tl_n, ap_c, ap_n, v_s, v_n, nd_1, nd_0, ct13, eq_self, iI_add, iI_sub, iI_mul, iI_nat, iI_eq, iI_lt, iI_le, iI_eq0, iI_lt0, ↓reduceIte, if_true, if_false, not_true_eq_false, not_false_eq_true, true_and, and_true, false_and, and_false, true_or, or_true, false_or, or_false, Int.reduceLT, Int.reduceLE, Int.reduceEq, Int.reduceAdd, Int.reduceSub, Int.reduceMul, Nat.reduceAdd, Nat.reduceLT, Nat.reduceEqDiff, Int.reduceNeg, nc_s, nc_0, Int.zero_add, Int.add_zero, oI_r, oI_w, oI_f0, oI_g0, oI_f1, oI_g1, oI_f2, oI_g2, oI_f3, oI_g3, oI_f4, oI_g4, oI_f5, oI_g5, oI_f6, oI_g6, oI_f7, oI_g7, oI_f8, oI_g8, oI_f9, oI_g9, oI_f10, oI_g10, oI_f11, oI_g11, oI_f12, oI_g12, oI_f13, oI_g13, oI_f14, oI_g14, oI_f15, oI_g15, oI_f16, oI_g16, oI_f17, oI_g17, oI_f18, oI_g18, oI_f19, oI_g19, oI_f20, oI_g20, oI_f21, oI_g21, oI_f22, oI_g22, oI_f23, oI_g23, oI_f24, oI_g24, oI_f25, oI_g25, ur_r, ur_o, ur_s, up_r, up_o, up_s, jI_add, jI_sub, jI_mul, jI_neg, jI_i, jI_n, lgc_j, cj_lt, cj_ge, cj_gt, cj_le, cj_eq, oL_r, oL_w, oL_f6, oL_g6, oL_f7, oL_g7, oL_f17, oL_g17, oL_f18, oL_g18, dl_T, dl_F, de_T, de_F, dle_T, dle_F, iI_divn, rem_n, nd_v, ct_s, Bool.false_eq_true]
      · rw [hf2.1 b b3 b4, hKe, ur_o (by omega), hf.1 b b3 b4]
      · have z100 : ¬ 100 = z := by intro e; have := hz 100 (by omega); rw [hM.t100] at this; exact absurd this (by decide)
        unfold tpl at h7
        rw [hf2.1 100 (by omega) (by omega), hKe, ur_o z100, hf.1 100 (by omega) (by omega)]
    · refine ⟨T, z, w, J, Q, ?_, fun _ _ => rfl, fun _ _ => rfl, by omega, by omega, ((qF.i h).g h7).zz, cF.i⟩
      unfold pennyV
      (simp (disch := first | omega | exact hJ _ _ | exact rJ_g hJ _ _ | (simp (disch := omega) only [ur_r, ur_o, up_r, up_o]; omega) | assumption) only [c78, s78_0, s78_0v, s78_1, s78_2, s78_5, s78_5n, s78_5v, s78_7, s78_7v, s78_9, s78_9n, s78_12, s78_13, b78_14, s78_17, s78_18, b78_20, s78_23, b78_24, s78_27, s78_28, b78_29, s78_32, s78_35, hM.t100, pa, tg, y5, jI_NO, kl_i, kl_r, kl_l, kl_n, kl_z, bd_s, tl_s, tl_n, ap_c, ap_n, v_s, v_n, nd_1, nd_0, ct13, eq_self, iI_add, iI_sub, iI_mul, iI_nat, iI_eq, iI_lt, iI_le, iI_eq0, iI_lt0, ↓reduceIte, if_true, if_false, not_true_eq_false, not_false_eq_true, true_and, and_true, false_and, and_false, true_or, or_true, false_or, or_false, Int.reduceLT, Int.reduceLE, Int.reduceEq, Int.reduceAdd, Int.reduceSub, Int.reduceMul, Nat.reduceAdd, Nat.reduceLT, Nat.reduceEqDiff, Int.reduceNeg, nc_s, nc_0, Int.zero_add, Int.add_zero, oI_r, oI_w, oI_f0, oI_g0, oI_f1, oI_g1, oI_f2, oI_g2, oI_f3, oI_g3, oI_f4, oI_g4, oI_f5, oI_g5, oI_f6, oI_g6, oI_f7, oI_g7, oI_f8, oI_g8, oI_f9, oI_g9, oI_f10, oI_g10, oI_f11, oI_g11, oI_f12, oI_g12, oI_f13, oI_g13, oI_f14, oI_g14, oI_f15, oI_g15, oI_f16, oI_g16, oI_f17, oI_g17, oI_f18, oI_g18, oI_f19, oI_g19, oI_f20, oI_g20, oI_f21, oI_g21, oI_f22, oI_g22, oI_f23, oI_g23, oI_f24, oI_g24, oI_f25, oI_g25, ur_r, ur_o, ur_s, up_r, up_o, up_s, jI_add, jI_sub, jI_mul, jI_neg, jI_i, jI_n, lgc_j, cj_lt, cj_ge, cj_gt, cj_le, cj_eq, oL_r, oL_w, oL_f6, oL_g6, oL_f7, oL_g7, oL_f17, oL_g17, oL_f18, oL_g18, dl_T, dl_F, de_T, de_F, dle_T, dle_F, iI_divn, rem_n, nd_v, ct_s, Bool.false_eq_true]; repeat' (split <;> (try simp (disch := first | omega | exact hJ _ _ | exact rJ_g hJ _ _ | (simp (disch := omega) only [ur_r, ur_o, up_r, up_o]; omega) | assumption) only [c78, s78_0, s78_0v, s78_1, s78_2, s78_5, s78_5n, s78_5v, s78_7, s78_7v, s78_9, s78_9n, s78_12, s78_13, b78_14, s78_17, s78_18, b78_20, s78_23, b78_24, s78_27, s78_28, b78_29, s78_32, s78_35, hM.t100, pa, tg, y5, jI_NO, kl_i, kl_r, kl_l, kl_n, kl_z, bd_s, tl_s, tl_n, ap_c, ap_n, v_s, v_n, nd_1, nd_0, ct13, eq_self, iI_add, iI_sub, iI_mul, iI_nat, iI_eq, iI_lt, iI_le, iI_eq0, iI_lt0, ↓reduceIte, if_true, if_false, not_true_eq_false, not_false_eq_true, true_and, and_true, false_and, and_false, true_or, or_true, false_or, or_false, Int.reduceLT, Int.reduceLE, Int.reduceEq, Int.reduceAdd, Int.reduceSub, Int.reduceMul, Nat.reduceAdd, Nat.reduceLT, Nat.reduceEqDiff, Int.reduceNeg, nc_s, nc_0, Int.zero_add, Int.add_zero, oI_r, oI_w, oI_f0, oI_g0, oI_f1, oI_g1, oI_f2, oI_g2, oI_f3, oI_g3, oI_f4, oI_g4, oI_f5, oI_g5, oI_f6, oI_g6, oI_f7, oI_g7, oI_f8, oI_g8, oI_f9, oI_g9, oI_f10, oI_g10, oI_f11, oI_g11, oI_f12, oI_g12, oI_f13, oI_g13, oI_f14, oI_g14, oI_f15, oI_g15, oI_f16, oI_g16, oI_f17, oI_g17, oI_f18, oI_g18, oI_f19, oI_g19, oI_f20, oI_g20, oI_f21, oI_g21, oI_f22, oI_g22, oI_f23, oI_g23, oI_f24, oI_g24, oI_f25, oI_g25, ur_r, ur_o, ur_s, up_r, up_o, up_s, jI_add, jI_sub, jI_mul, jI_neg, jI_i, jI_n, lgc_j, cj_lt, cj_ge, cj_gt, cj_le, cj_eq, oL_r, oL_w, oL_f6, oL_g6, oL_f7, oL_g7, oL_f17, oL_g17, oL_f18, oL_g18, dl_T, dl_F, de_T, de_F, dle_T, dle_F, iI_divn, rem_n, nd_v, ct_s, Bool.false_eq_true])))
  · refine ⟨T, z, w, J, Q, ?_, fun _ _ => rfl, fun _ _ => rfl, by omega, by omega, ((qF.i h).g h7).zz, cF.i⟩
    have pa' : rn_c (d + 21) 90 [.ref 100, .int (iI p)] (T, oI J, oL Q, R, z, w) = some (some .null, (T, oI J, oL Q, R, z, w)) := by
      rw [pa]
      by_cases c0 : p < 0
      · rw [if_pos c0]
      · rw [if_neg c0, if_pos (by omega)]
    unfold pennyV
    by_cases c0 : p < 0
    · rw [if_pos c0]
      simp (disch := first | omega | exact hJ _ _ | exact rJ_g hJ _ _ | (simp (disch := omega) only [ur_r, ur_o, up_r, up_o]; omega) | assumption) only [s78_0, s78_0v, s78_1, s78_2, s78_5, s78_5n, s78_5v, s78_7, s78_7v, s78_9, s78_9n, s78_12, s78_13, b78_14, s78_17, s78_18, b78_20, s78_23, b78_24, s78_27, s78_28, b78_29, s78_32, s78_35, c78, pen_7z, hM.t100, pa', jI_NO, kl_i, kl_r, kl_l, kl_n, kl_z, bd_s, tl_s, tl_n, ap_c, ap_n, v_s, v_n, nd_1, nd_0, ct13, eq_self, iI_add, iI_sub, iI_mul, iI_nat, iI_eq, iI_lt, iI_le, iI_eq0, iI_lt0, ↓reduceIte, if_true, if_false, not_true_eq_false, not_false_eq_true, true_and, and_true, false_and, and_false, true_or, or_true, false_or, or_false, Int.reduceLT, Int.reduceLE, Int.reduceEq, Int.reduceAdd, Int.reduceSub, Int.reduceMul, Nat.reduceAdd, Nat.reduceLT, Nat.reduceEqDiff, Int.reduceNeg, nc_s, nc_0, Int.zero_add, Int.add_zero, oI_r, oI_w, oI_f0, oI_g0, oI_f1, oI_g1, oI_f2, oI_g2, oI_f3, oI_g3, oI_f4, oI_g4, oI_f5, oI_g5, oI_f6, oI_g6, oI_f7, oI_g7, oI_f8, oI_g8, oI_f9, oI_g9, oI_f10, oI_g10, oI_f11, oI_g11, oI_f12, oI_g12, oI_f13, oI_g13, oI_f14, oI_g14, oI_f15, oI_g15, oI_f16, oI_g16, oI_f17, oI_g17, oI_f18, oI_g18, oI_f19, oI_g19, oI_f20, oI_g20, oI_f21, oI_g21, oI_f22, oI_g22, oI_f23, oI_g23, oI_f24, oI_g24, oI_f25, oI_g25, ur_r, ur_o, ur_s, up_r, up_o, up_s, jI_add, jI_sub, jI_mul, jI_neg, jI_i, jI_n, lgc_j, cj_lt, cj_ge, cj_gt, cj_le, cj_eq, oL_r, oL_w, oL_f6, oL_g6, oL_f7, oL_g7, oL_f17, oL_g17, oL_f18, oL_g18, dl_T, dl_F, de_T, de_F, dle_T, dle_F, iI_divn, rem_n, nd_v, ct_s, Bool.false_eq_true]
    · rw [if_neg c0, if_pos (by omega)]
      simp (disch := first | omega | exact hJ _ _ | exact rJ_g hJ _ _ | (simp (disch := omega) only [ur_r, ur_o, up_r, up_o]; omega) | assumption) only [s78_0, s78_0v, s78_1, s78_2, s78_5, s78_5n, s78_5v, s78_7, s78_7v, s78_9, s78_9n, s78_12, s78_13, b78_14, s78_17, s78_18, b78_20, s78_23, b78_24, s78_27, s78_28, b78_29, s78_32, s78_35, c78, pen_7z, hM.t100, pa', jI_NO, kl_i, kl_r, kl_l, kl_n, kl_z, bd_s, tl_s, tl_n, ap_c, ap_n, v_s, v_n, nd_1, nd_0, ct13, eq_self, iI_add, iI_sub, iI_mul, iI_nat, iI_eq, iI_lt, iI_le, iI_eq0, iI_lt0, ↓reduceIte, if_true, if_false, not_true_eq_false, not_false_eq_true, true_and, and_true, false_and, and_false, true_or, or_true, false_or, or_false, Int.reduceLT, Int.reduceLE, Int.reduceEq, Int.reduceAdd, Int.reduceSub, Int.reduceMul, Nat.reduceAdd, Nat.reduceLT, Nat.reduceEqDiff, Int.reduceNeg, nc_s, nc_0, Int.zero_add, Int.add_zero, oI_r, oI_w, oI_f0, oI_g0, oI_f1, oI_g1, oI_f2, oI_g2, oI_f3, oI_g3, oI_f4, oI_g4, oI_f5, oI_g5, oI_f6, oI_g6, oI_f7, oI_g7, oI_f8, oI_g8, oI_f9, oI_g9, oI_f10, oI_g10, oI_f11, oI_g11, oI_f12, oI_g12, oI_f13, oI_g13, oI_f14, oI_g14, oI_f15, oI_g15, oI_f16, oI_g16, oI_f17, oI_g17, oI_f18, oI_g18, oI_f19, oI_g19, oI_f20, oI_g20, oI_f21, oI_g21, oI_f22, oI_g22, oI_f23, oI_g23, oI_f24, oI_g24, oI_f25, oI_g25, ur_r, ur_o, ur_s, up_r, up_o, up_s, jI_add, jI_sub, jI_mul, jI_neg, jI_i, jI_n, lgc_j, cj_lt, cj_ge, cj_gt, cj_le, cj_eq, oL_r, oL_w, oL_f6, oL_g6, oL_f7, oL_g7, oL_f17, oL_g17, oL_f18, oL_g18, dl_T, dl_F, de_T, de_F, dle_T, dle_F, iI_divn, rem_n, nd_v, ct_s, Bool.false_eq_true]
end PN
