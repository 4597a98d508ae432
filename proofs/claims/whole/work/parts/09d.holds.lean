/-! the class: whether an E holds -/
section HD
variable {d : Nat} {T : Nat → Nat × Nat} {L : Nat → Nat → Int64} {R : Nat → Nat → Option Nat} {z w : Nat} {J : mR} {t : Nat}
theorem tc.a1 (h : tc T R t) (q : Int) (hq : 0 ≤ q ∧ q < 48) : am_arr T [20, 30] (t + 1) (iI q) = true := ar_ok h.2.1 rfl (by decide) hq
theorem tc.b1 (h : tc T R t) (q : Int) (hq : 0 ≤ q ∧ q < 48) : am_arr T [20] (t + 1) (iI q) = true := ar_ok h.2.1 rfl (by decide) hq
theorem tc.a2 (h : tc T R t) (q : Int) (hq : 0 ≤ q ∧ q < 10) : am_arr T [20, 30] (t + 2) (iI q) = true := ar_ok h.2.2.1 rfl (by decide) hq
theorem tc.b2 (h : tc T R t) (q : Int) (hq : 0 ≤ q ∧ q < 10) : am_arr T [20] (t + 2) (iI q) = true := ar_ok h.2.2.1 rfl (by decide) hq
theorem tc.a3 (h : tc T R t) (q : Int) (hq : 0 ≤ q ∧ q < 10) : am_arr T [20, 30] (t + 3) (iI q) = true := ar_ok h.2.2.2.1 rfl (by decide) hq
theorem tc.b3 (h : tc T R t) (q : Int) (hq : 0 ≤ q ∧ q < 10) : am_arr T [20] (t + 3) (iI q) = true := ar_ok h.2.2.2.1 rfl (by decide) hq
theorem tc.a4 (h : tc T R t) (q : Int) (hq : 0 ≤ q ∧ q < 10) : am_arr T [20, 30] (t + 4) (iI q) = true := ar_ok h.2.2.2.2.1 rfl (by decide) hq
theorem tc.b4 (h : tc T R t) (q : Int) (hq : 0 ≤ q ∧ q < 10) : am_arr T [20] (t + 4) (iI q) = true := ar_ok h.2.2.2.2.1 rfl (by decide) hq
theorem tc.a5 (h : tc T R t) (q : Int) (hq : 0 ≤ q ∧ q < 120) : am_arr T [20, 30] (t + 5) (iI q) = true := ar_ok h.2.2.2.2.2.1 rfl (by decide) hq
theorem tc.b5 (h : tc T R t) (q : Int) (hq : 0 ≤ q ∧ q < 120) : am_arr T [20] (t + 5) (iI q) = true := ar_ok h.2.2.2.2.2.1 rfl (by decide) hq
theorem tc.a6 (h : tc T R t) (q : Int) (hq : 0 ≤ q ∧ q < 5) : am_arr T [20, 30] (t + 6) (iI q) = true := ar_ok h.2.2.2.2.2.2.1 rfl (by decide) hq
theorem tc.b6 (h : tc T R t) (q : Int) (hq : 0 ≤ q ∧ q < 5) : am_arr T [20] (t + 6) (iI q) = true := ar_ok h.2.2.2.2.2.2.1 rfl (by decide) hq
theorem tc.r3 (h : tc T R t) : R t 3 = some (t + 1) := h.2.2.2.2.2.2.2.1
theorem tc.r4 (h : tc T R t) : R t 4 = some (t + 2) := h.2.2.2.2.2.2.2.2.1
theorem tc.r5 (h : tc T R t) : R t 5 = some (t + 3) := h.2.2.2.2.2.2.2.2.2.1
theorem tc.r6 (h : tc T R t) : R t 6 = some (t + 4) := h.2.2.2.2.2.2.2.2.2.2.1
theorem tc.r8 (h : tc T R t) : R t 8 = some (t + 5) := h.2.2.2.2.2.2.2.2.2.2.2.1
theorem tc.r10 (h : tc T R t) : R t 10 = some (t + 6) := h.2.2.2.2.2.2.2.2.2.2.2.2
theorem t_layFacts (h : tc T R t) (s hr p q u : Int) : rn_c d 24 [.ref t, .int (iI s), .int (iI hr), .int (iI p), .int (iI q), .int (iI u)] (T, oI J, L, R, z, w) = some (none, (T, oI (ur J (t + 6) (up (up (up (up (up (J (t + 6)) 0 s) 1 hr) 2 p) 3 q) 4 u)), L, R, z, w)) := by
  simp (disch := first | omega | exact hJ _ _ | exact rJ_g hJ _ _ | (simp (disch := omega) only [ur_r, ur_o, up_r, up_o]; omega) | assumption) only [c24, s24_0, s24_0v, s24_1, s24_4, s24_5, s24_6, s24_7, s24_7v, s24_8, s24_11, s24_12, s24_13, s24_14, s24_14v, s24_15, s24_18, s24_19, s24_20, s24_21, s24_21v, s24_22, s24_25, s24_26, s24_28, s24_29, s24_29v, s24_30, s24_33, s24_34, s24_36, s24_37, h.1, h.r10, h.b6, kl_i, kl_r, kl_l, kl_n, kl_z, bd_s, tl_s, tl_n, ap_c, ap_n, v_s, v_n, nd_1, nd_0, ct13, eq_self, iI_add, iI_sub, iI_mul, iI_nat, iI_eq, iI_lt, iI_le, iI_eq0, iI_lt0, ↓reduceIte, if_true, if_false, not_true_eq_false, not_false_eq_true, true_and, and_true, false_and, and_false, true_or, or_true, false_or, or_false, Int.reduceLT, Int.reduceLE, Int.reduceEq, Int.reduceAdd, Int.reduceSub, Int.reduceMul, Nat.reduceAdd, Nat.reduceLT, Nat.reduceEqDiff, Int.reduceNeg, nc_s, nc_0, Int.zero_add, Int.add_zero, oI_r, oI_w, oI_f0, oI_g0, oI_f1, oI_g1, oI_f2, oI_g2, oI_f3, oI_g3, oI_f4, oI_g4, oI_f5, oI_g5, oI_f6, oI_g6, oI_f7, oI_g7, oI_f8, oI_g8, oI_f9, oI_g9, oI_f10, oI_g10, oI_f11, oI_g11, oI_f12, oI_g12, oI_f13, oI_g13, oI_f14, oI_g14, oI_f15, oI_g15, oI_f16, oI_g16, oI_f17, oI_g17, oI_f18, oI_g18, oI_f19, oI_g19, oI_f20, oI_g20, oI_f21, oI_g21, oI_f22, oI_g22, oI_f23, oI_g23, oI_f24, oI_g24, oI_f25, oI_g25, ur_r, ur_o, ur_s, up_r, up_o, up_s, jI_add, jI_sub, jI_mul, jI_neg, jI_i, jI_n, lgc_j, cj_lt, cj_ge, cj_gt, cj_le, cj_eq, oL_r, oL_w, oL_f6, oL_g6, oL_f7, oL_g7, oL_f17, oL_g17, oL_f18, oL_g18, dl_T, dl_F, de_T, de_F, dle_T, dle_F, iI_divn, rem_n, nd_v, ct_s, Bool.false_eq_true]
/-- a token as the class keeps it -/
def trC (v : Int) : Int := if 0 ≤ v then (v / 32 * 5 + v % 8) * 3 + v / 8 % 4 else v
theorem t_testHolds (h : tc T R t) (v : Int) (hv : 0 ≤ v) (h8 : v % 8 < 5) (h4 : v / 8 % 4 < 3) (h32 : v / 32 ≤ 99) (hF : ∀ j, 0 ≤ j → j < 5 → i32 (J (t + 6) j)) : rn_c d 26 [.ref t, .int (iI (trC v))] (T, oI J, L, R, z, w) = some (some (.int (iI (tst (J (t + 6) (v % 8)) (v / 8 % 4) (v / 32)))), (T, oI J, L, R, z, w)) := by
  have g1 : ∀ x y q : Int, 0 ≤ y → y < 5 → 0 ≤ q → q < 3 → ((x * 5 + y) * 3 + q) / 3 % 5 = y ∧ ((x * 5 + y) * 3 + q) / 15 = x ∧ ((x * 5 + y) * 3 + q) % 3 = q := by
    intro x y q h1 h2 h3 h4; omega
  obtain ⟨e1, e2, e3⟩ := g1 (v / 32) (v % 8) (v / 8 % 4) (by omega) h8 (by omega) h4
  have et : trC v = (v / 32 * 5 + v % 8) * 3 + v / 8 % 4 := by unfold trC; rw [if_pos hv]
  rw [← et] at e1 e2 e3
  have r0 : 0 ≤ trC v ∧ trC v < 5000 := by unfold trC; rw [if_pos hv]; omega
  have rf := hF (v % 8) (by omega) h8
  have r32 : 0 ≤ v / 32 := by omega
  have r84 : 0 ≤ v / 8 % 4 := by omega
  have r8 : 0 ≤ v % 8 := by omega
  unfold tst
  generalize trC v = q at *
  by_cases k0 : v / 8 % 4 = 0
  · by_cases c : v / 32 ≤ J (t + 6) (v % 8) <;>
      simp (disch := first | omega | exact hJ _ _ | exact rJ_g hJ _ _ | (simp (disch := omega) only [ur_r, ur_o, up_r, up_o]; omega) | assumption) only [c26, s26_0, s26_0v, s26_1, s26_4, s26_5, s26_6, s26_7, s26_8, s26_9, s26_10, s26_11, s26_12, s26_14, s26_15, s26_16, s26_17, s26_18, b26_19, s26_44, s26_45, b26_46, s26_49, s26_50, s26_53, s26_54, s26_55, s26_56, b26_57, s26_60, s26_61, s26_64, s26_65, s26_66, s26_67, b26_68, s26_71, s26_72, s26_75, s26_76, h.1, h.r10, h.a6, e1, e2, e3, kl_i, kl_r, kl_l, kl_n, kl_z, bd_s, tl_s, tl_n, ap_c, ap_n, v_s, v_n, nd_1, nd_0, ct13, eq_self, iI_add, iI_sub, iI_mul, iI_nat, iI_eq, iI_lt, iI_le, iI_eq0, iI_lt0, ↓reduceIte, if_true, if_false, not_true_eq_false, not_false_eq_true, true_and, and_true, false_and, and_false, true_or, or_true, false_or, or_false, Int.reduceLT, Int.reduceLE, Int.reduceEq, Int.reduceAdd, Int.reduceSub, Int.reduceMul, Nat.reduceAdd, Nat.reduceLT, Nat.reduceEqDiff, Int.reduceNeg, nc_s, nc_0, Int.zero_add, Int.add_zero, oI_r, oI_w, oI_f0, oI_g0, oI_f1, oI_g1, oI_f2, oI_g2, oI_f3, oI_g3, oI_f4, oI_g4, oI_f5, oI_g5, oI_f6, oI_g6, oI_f7, oI_g7, oI_f8, oI_g8, oI_f9, oI_g9, oI_f10, oI_g10, oI_f11, oI_g11, oI_f12, oI_g12, oI_f13, oI_g13, oI_f14, oI_g14, oI_f15, oI_g15, oI_f16, oI_g16, oI_f17, oI_g17, oI_f18, oI_g18, oI_f19, oI_g19, oI_f20, oI_g20, oI_f21, oI_g21, oI_f22, oI_g22, oI_f23, oI_g23, oI_f24, oI_g24, oI_f25, oI_g25, ur_r, ur_o, ur_s, up_r, up_o, up_s, jI_add, jI_sub, jI_mul, jI_neg, jI_i, jI_n, lgc_j, cj_lt, cj_ge, cj_gt, cj_le, cj_eq, oL_r, oL_w, oL_f6, oL_g6, oL_f7, oL_g7, oL_f17, oL_g17, oL_f18, oL_g18, dl_T, dl_F, de_T, de_F, dle_T, dle_F, iI_divn, rem_n, nd_v, ct_s, Bool.false_eq_true]
  · by_cases k1 : v / 8 % 4 = 1
    · by_cases c : J (t + 6) (v % 8) = v / 32 <;>
        simp (disch := first | omega | exact hJ _ _ | exact rJ_g hJ _ _ | (simp (disch := omega) only [ur_r, ur_o, up_r, up_o]; omega) | assumption) only [c26, s26_0, s26_0v, s26_1, s26_4, s26_5, s26_6, s26_7, s26_8, s26_9, s26_10, s26_11, s26_12, s26_14, s26_15, s26_16, s26_17, s26_18, b26_19, s26_44, s26_45, b26_46, s26_49, s26_50, s26_53, s26_54, s26_55, s26_56, b26_57, s26_60, s26_61, s26_64, s26_65, s26_66, s26_67, b26_68, s26_71, s26_72, s26_75, s26_76, h.1, h.r10, h.a6, e1, e2, e3, kl_i, kl_r, kl_l, kl_n, kl_z, bd_s, tl_s, tl_n, ap_c, ap_n, v_s, v_n, nd_1, nd_0, ct13, eq_self, iI_add, iI_sub, iI_mul, iI_nat, iI_eq, iI_lt, iI_le, iI_eq0, iI_lt0, ↓reduceIte, if_true, if_false, not_true_eq_false, not_false_eq_true, true_and, and_true, false_and, and_false, true_or, or_true, false_or, or_false, Int.reduceLT, Int.reduceLE, Int.reduceEq, Int.reduceAdd, Int.reduceSub, Int.reduceMul, Nat.reduceAdd, Nat.reduceLT, Nat.reduceEqDiff, Int.reduceNeg, nc_s, nc_0, Int.zero_add, Int.add_zero, oI_r, oI_w, oI_f0, oI_g0, oI_f1, oI_g1, oI_f2, oI_g2, oI_f3, oI_g3, oI_f4, oI_g4, oI_f5, oI_g5, oI_f6, oI_g6, oI_f7, oI_g7, oI_f8, oI_g8, oI_f9, oI_g9, oI_f10, oI_g10, oI_f11, oI_g11, oI_f12, oI_g12, oI_f13, oI_g13, oI_f14, oI_g14, oI_f15, oI_g15, oI_f16, oI_g16, oI_f17, oI_g17, oI_f18, oI_g18, oI_f19, oI_g19, oI_f20, oI_g20, oI_f21, oI_g21, oI_f22, oI_g22, oI_f23, oI_g23, oI_f24, oI_g24, oI_f25, oI_g25, ur_r, ur_o, ur_s, up_r, up_o, up_s, jI_add, jI_sub, jI_mul, jI_neg, jI_i, jI_n, lgc_j, cj_lt, cj_ge, cj_gt, cj_le, cj_eq, oL_r, oL_w, oL_f6, oL_g6, oL_f7, oL_g7, oL_f17, oL_g17, oL_f18, oL_g18, dl_T, dl_F, de_T, de_F, dle_T, dle_F, iI_divn, rem_n, nd_v, ct_s, Bool.false_eq_true]
    · by_cases c : J (t + 6) (v % 8) ≤ v / 32 <;>
        simp (disch := first | omega | exact hJ _ _ | exact rJ_g hJ _ _ | (simp (disch := omega) only [ur_r, ur_o, up_r, up_o]; omega) | assumption) only [c26, s26_0, s26_0v, s26_1, s26_4, s26_5, s26_6, s26_7, s26_8, s26_9, s26_10, s26_11, s26_12, s26_14, s26_15, s26_16, s26_17, s26_18, b26_19, s26_44, s26_45, b26_46, s26_49, s26_50, s26_53, s26_54, s26_55, s26_56, b26_57, s26_60, s26_61, s26_64, s26_65, s26_66, s26_67, b26_68, s26_71, s26_72, s26_75, s26_76, h.1, h.r10, h.a6, e1, e2, e3, kl_i, kl_r, kl_l, kl_n, kl_z, bd_s, tl_s, tl_n, ap_c, ap_n, v_s, v_n, nd_1, nd_0, ct13, eq_self, iI_add, iI_sub, iI_mul, iI_nat, iI_eq, iI_lt, iI_le, iI_eq0, iI_lt0, ↓reduceIte, if_true, if_false, not_true_eq_false, not_false_eq_true, true_and, and_true, false_and, and_false, true_or, or_true, false_or, or_false, Int.reduceLT, Int.reduceLE, Int.reduceEq, Int.reduceAdd, Int.reduceSub, Int.reduceMul, Nat.reduceAdd, Nat.reduceLT, Nat.reduceEqDiff, Int.reduceNeg, nc_s, nc_0, Int.zero_add, Int.add_zero, oI_r, oI_w, oI_f0, oI_g0, oI_f1, oI_g1, oI_f2, oI_g2, oI_f3, oI_g3, oI_f4, oI_g4, oI_f5, oI_g5, oI_f6, oI_g6, oI_f7, oI_g7, oI_f8, oI_g8, oI_f9, oI_g9, oI_f10, oI_g10, oI_f11, oI_g11, oI_f12, oI_g12, oI_f13, oI_g13, oI_f14, oI_g14, oI_f15, oI_g15, oI_f16, oI_g16, oI_f17, oI_g17, oI_f18, oI_g18, oI_f19, oI_g19, oI_f20, oI_g20, oI_f21, oI_g21, oI_f22, oI_g22, oI_f23, oI_g23, oI_f24, oI_g24, oI_f25, oI_g25, ur_r, ur_o, ur_s, up_r, up_o, up_s, jI_add, jI_sub, jI_mul, jI_neg, jI_i, jI_n, lgc_j, cj_lt, cj_ge, cj_gt, cj_le, cj_eq, oL_r, oL_w, oL_f6, oL_g6, oL_f7, oL_g7, oL_f17, oL_g17, oL_f18, oL_g18, dl_T, dl_F, de_T, de_F, dle_T, dle_F, iI_divn, rem_n, nd_v, ct_s, Bool.false_eq_true]
theorem ho_loop (h : tc T R t) (hF : ∀ j, 0 ≤ j → j < 5 → i32 (J (t + 6) j)) (frm to : Int) (hto : 0 ≤ to ∧ to ≤ 120) : ∀ (ts : List Int) (st : List Int) (k : Int) (l5 l6 : Option Value), vE ts (st.length : Int) 1 → b01 st → seg (J (t + 5)) k (ts.map trC) → 0 ≤ k → k + (ts.length : Int) = to → ∃ x : Int, evE (J (t + 6)) ts st = [x] ∧ (x = 0 ∨ x = 1) ∧ rn_r (d + 1) 25 5 [some (.ref t), some (.int (iI frm)), some (.int (iI to)), some (.int (iI (bvN st))), some (.int (iI k)), l5, l6] [] (T, oI J, L, R, z, w) = some (some (.int (iI x)), (T, oI J, L, R, z, w)) := by
  intro ts
  induction ts with
  | nil =>
    intro st k l5 l6 hv h1 _ hk hl
    have hl' : k = to := by simpa using hl
    match st, hv with
    | [x], _ =>
      have hx := h1 x (List.mem_cons_self ..)
      refine ⟨x, rfl, hx, ?_⟩
      rcases hx with rfl | rfl
      · have e : ((bvN [0] : Nat) : Int) = 0 := rfl
        have e2 : iI 0 &&& iI 1 = iI 0 := by decide
        simp (disch := first | omega | exact hJ _ _ | exact rJ_g hJ _ _ | (simp (disch := omega) only [ur_r, ur_o, up_r, up_o]; omega) | assumption) only [s25_5, s25_7, b25_8, s25_100, s25_101, s25_102, s25_103, b25_104, s25_107, s25_108, s25_111, s25_112, h.1, e, e2, kl_i, kl_r, kl_l, kl_n, kl_z, bd_s, tl_s, tl_n, ap_c, ap_n, v_s, v_n, nd_1, nd_0, ct13, eq_self, iI_add, iI_sub, iI_mul, iI_nat, iI_eq, iI_lt, iI_le, iI_eq0, iI_lt0, ↓reduceIte, if_true, if_false, not_true_eq_false, not_false_eq_true, true_and, and_true, false_and, and_false, true_or, or_true, false_or, or_false, Int.reduceLT, Int.reduceLE, Int.reduceEq, Int.reduceAdd, Int.reduceSub, Int.reduceMul, Nat.reduceAdd, Nat.reduceLT, Nat.reduceEqDiff, Int.reduceNeg, nc_s, nc_0, Int.zero_add, Int.add_zero, oI_r, oI_w, oI_f0, oI_g0, oI_f1, oI_g1, oI_f2, oI_g2, oI_f3, oI_g3, oI_f4, oI_g4, oI_f5, oI_g5, oI_f6, oI_g6, oI_f7, oI_g7, oI_f8, oI_g8, oI_f9, oI_g9, oI_f10, oI_g10, oI_f11, oI_g11, oI_f12, oI_g12, oI_f13, oI_g13, oI_f14, oI_g14, oI_f15, oI_g15, oI_f16, oI_g16, oI_f17, oI_g17, oI_f18, oI_g18, oI_f19, oI_g19, oI_f20, oI_g20, oI_f21, oI_g21, oI_f22, oI_g22, oI_f23, oI_g23, oI_f24, oI_g24, oI_f25, oI_g25, ur_r, ur_o, ur_s, up_r, up_o, up_s, jI_add, jI_sub, jI_mul, jI_neg, jI_i, jI_n, lgc_j, cj_lt, cj_ge, cj_gt, cj_le, cj_eq, oL_r, oL_w, oL_f6, oL_g6, oL_f7, oL_g7, oL_f17, oL_g17, oL_f18, oL_g18, dl_T, dl_F, de_T, de_F, dle_T, dle_F, iI_divn, rem_n, nd_v, ct_s, Bool.false_eq_true]
      · have e : ((bvN [1] : Nat) : Int) = 1 := rfl
        have e2 : iI 1 &&& iI 1 = iI 1 := by decide
        simp (disch := first | omega | exact hJ _ _ | exact rJ_g hJ _ _ | (simp (disch := omega) only [ur_r, ur_o, up_r, up_o]; omega) | assumption) only [s25_5, s25_7, b25_8, s25_100, s25_101, s25_102, s25_103, b25_104, s25_107, s25_108, s25_111, s25_112, h.1, e, e2, kl_i, kl_r, kl_l, kl_n, kl_z, bd_s, tl_s, tl_n, ap_c, ap_n, v_s, v_n, nd_1, nd_0, ct13, eq_self, iI_add, iI_sub, iI_mul, iI_nat, iI_eq, iI_lt, iI_le, iI_eq0, iI_lt0, ↓reduceIte, if_true, if_false, not_true_eq_false, not_false_eq_true, true_and, and_true, false_and, and_false, true_or, or_true, false_or, or_false, Int.reduceLT, Int.reduceLE, Int.reduceEq, Int.reduceAdd, Int.reduceSub, Int.reduceMul, Nat.reduceAdd, Nat.reduceLT, Nat.reduceEqDiff, Int.reduceNeg, nc_s, nc_0, Int.zero_add, Int.add_zero, oI_r, oI_w, oI_f0, oI_g0, oI_f1, oI_g1, oI_f2, oI_g2, oI_f3, oI_g3, oI_f4, oI_g4, oI_f5, oI_g5, oI_f6, oI_g6, oI_f7, oI_g7, oI_f8, oI_g8, oI_f9, oI_g9, oI_f10, oI_g10, oI_f11, oI_g11, oI_f12, oI_g12, oI_f13, oI_g13, oI_f14, oI_g14, oI_f15, oI_g15, oI_f16, oI_g16, oI_f17, oI_g17, oI_f18, oI_g18, oI_f19, oI_g19, oI_f20, oI_g20, oI_f21, oI_g21, oI_f22, oI_g22, oI_f23, oI_g23, oI_f24, oI_g24, oI_f25, oI_g25, ur_r, ur_o, ur_s, up_r, up_o, up_s, jI_add, jI_sub, jI_mul, jI_neg, jI_i, jI_n, lgc_j, cj_lt, cj_ge, cj_gt, cj_le, cj_eq, oL_r, oL_w, oL_f6, oL_g6, oL_f7, oL_g7, oL_f17, oL_g17, oL_f18, oL_g18, dl_T, dl_F, de_T, de_F, dle_T, dle_F, iI_divn, rem_n, nd_v, ct_s, Bool.false_eq_true]
    | [], hv => exact absurd hv (by show ¬ ((0 : Int) = 1); decide)
    | _ :: _ :: r, hv =>
      exfalso
      have hv : ((r.length + 1 + 1 : Nat) : Int) = 1 := hv
      omega
  | cons v ts ih =>
    intro st k l5 l6 hv h1 hs hk hl
    rw [List.length_cons] at hl
    obtain ⟨hs1, hs2⟩ := hs
    have hl2 : k + 1 + (ts.length : Int) = to := by omega
    rcases hv with ⟨a1, a2, a3, a4, a5, a6, a7⟩ | ⟨a1, a2, a3, a4⟩ | ⟨a1, a2, a3, a4⟩
    · have hv0 : 0 ≤ trC v ∧ trC v < 5000 := by unfold trC; rw [if_pos a1]; omega
      have te := t_testHolds (d := d) (L := L) (z := z) (w := w) h v a1 a2 a3 a4 hF
      have t01 := tst_01 (J (t + 6) (v % 8)) (v / 8 % 4) (v / 32)
      have et : evT (J (t + 6)) v st = tst (J (t + 6) (v % 8)) (v / 8 % 4) (v / 32) :: st := by unfold evT; rw [if_pos a1]
      generalize htst : tst (J (t + 6) (v % 8)) (v / 8 % 4) (v / 32) = y at *
      have hb := bvN_lt st h1 (by omega)
      have hb2 : (2 : Nat) ^ st.length ≤ 2 ^ 20 := Nat.pow_le_pow_right (by omega) (by omega)
      have hp := bv_push (bvN st) y.toNat (by omega) (by omega)
      have ey : ((y.toNat : Nat) : Int) = y := by omega
      rw [← iI_nI, ← iI_nI, ← iI_nI, ey] at hp
      obtain ⟨x, e1, e2, e3⟩ := ih (y :: st) (k + 1) (some (.int (iI (trC v)))) (some (.int (iI ((bvN st : Int) % 2)))) (by rw [List.length_cons]; exact a7) (by rw [← et]; exact evT_01 h1) hs2 (by omega) hl2
      refine ⟨x, by show evE (J (t + 6)) ts (evT (J (t + 6)) v st) = [x]; rw [et]; exact e1, e2, ?_⟩
      refine Eq.trans ?_ ((s25_97 ..).trans e3)
      have hy : y = 0 ∨ y = 1 := by omega
      have en : ((bvN (y :: st) : Nat) : Int) = ((2 * bvN st + y.toNat : Nat) : Int) := rfl
      rw [en]
      rcases hy with rfl | rfl <;>
        simp (disch := first | omega | exact hJ _ _ | exact rJ_g hJ _ _ | (simp (disch := omega) only [ur_r, ur_o, up_r, up_o]; omega) | assumption) only [s25_5, s25_7, b25_8, s25_11, s25_11v, s25_12, s25_15, s25_17, s25_18, s25_20, s25_21, s25_22, s25_23, s25_25, s25_27, b25_28, s25_31, s25_32, s25_33, s25_34, s25_35, s25_38, s25_40, b25_42, s25_45, s25_46, s25_47, s25_48, s25_50, s25_52, s25_53, s25_54, s25_55, s25_58, s25_60, b25_62, s25_65, s25_66, s25_67, s25_68, s25_70, s25_71, s25_72, s25_75, s25_76, s25_77, s25_78, s25_78v, s25_79, s25_81, b25_84, s25_87, s25_88, s25_91, s25_92, s25_93, s25_94, h.1, h.r8, h.a5, hs1, te, hp, and1, kl_i, kl_r, kl_l, kl_n, kl_z, bd_s, tl_s, tl_n, ap_c, ap_n, v_s, v_n, nd_1, nd_0, ct13, eq_self, iI_add, iI_sub, iI_mul, iI_nat, iI_eq, iI_lt, iI_le, iI_eq0, iI_lt0, ↓reduceIte, if_true, if_false, not_true_eq_false, not_false_eq_true, true_and, and_true, false_and, and_false, true_or, or_true, false_or, or_false, Int.reduceLT, Int.reduceLE, Int.reduceEq, Int.reduceAdd, Int.reduceSub, Int.reduceMul, Nat.reduceAdd, Nat.reduceLT, Nat.reduceEqDiff, Int.reduceNeg, nc_s, nc_0, Int.zero_add, Int.add_zero, oI_r, oI_w, oI_f0, oI_g0, oI_f1, oI_g1, oI_f2, oI_g2, oI_f3, oI_g3, oI_f4, oI_g4, oI_f5, oI_g5, oI_f6, oI_g6, oI_f7, oI_g7, oI_f8, oI_g8, oI_f9, oI_g9, oI_f10, oI_g10, oI_f11, oI_g11, oI_f12, oI_g12, oI_f13, oI_g13, oI_f14, oI_g14, oI_f15, oI_g15, oI_f16, oI_g16, oI_f17, oI_g17, oI_f18, oI_g18, oI_f19, oI_g19, oI_f20, oI_g20, oI_f21, oI_g21, oI_f22, oI_g22, oI_f23, oI_g23, oI_f24, oI_g24, oI_f25, oI_g25, ur_r, ur_o, ur_s, up_r, up_o, up_s, jI_add, jI_sub, jI_mul, jI_neg, jI_i, jI_n, lgc_j, cj_lt, cj_ge, cj_gt, cj_le, cj_eq, oL_r, oL_w, oL_f6, oL_g6, oL_f7, oL_g7, oL_f17, oL_g17, oL_f18, oL_g18, dl_T, dl_F, de_T, de_F, dle_T, dle_F, iI_divn, rem_n, nd_v, ct_s, Bool.false_eq_true]
    · match st, h1, a2 with
      | [], _, a2 => exact absurd a2 (by decide)
      | y :: r, h1, a2 =>
        have hy := h1 y (List.mem_cons_self ..)
        have hr : b01 r := fun q hq => h1 q (List.mem_cons_of_mem _ hq)
        have et : evT (J (t + 6)) v (y :: r) = (if y = 0 then 1 else 0) :: r := by unfold evT; rw [if_neg (by omega), if_pos a1]
        have hb := bv_xor (bvN r) y.toNat (by omega)
        have hp : (1 : Nat) - y.toNat = (if y = 0 then (1 : Int) else 0).toNat := by rcases hy with rfl | rfl <;> rfl
        rw [hp, ← iI_nI, ← iI_nI, ← iI_nI] at hb
        obtain ⟨x, e1, e2, e3⟩ := ih ((if y = 0 then 1 else 0) :: r) (k + 1) (some (.int (iI (-1)))) (some (.int (iI ((bvN (y :: r) : Int) % 2)))) (by rw [List.length_cons]; rw [List.length_cons] at a4; exact a4) (by rw [← et]; exact evT_01 h1) hs2 (by omega) hl2
        refine ⟨x, by show evE (J (t + 6)) ts (evT (J (t + 6)) v (y :: r)) = [x]; rw [et]; exact e1, e2, ?_⟩
        refine Eq.trans ?_ ((s25_97 ..).trans e3)
        have ev : trC v = -1 := by rw [a1]; rfl
        have en : ((bvN (y :: r) : Nat) : Int) = ((2 * bvN r + y.toNat : Nat) : Int) := rfl
        have en2 : ((bvN ((if y = 0 then 1 else 0) :: r) : Nat) : Int) = ((2 * bvN r + (if y = 0 then (1 : Int) else 0).toNat : Nat) : Int) := rfl
        have e1' : ((1 : Nat) : Int) = 1 := rfl
        rw [e1'] at hb
        rw [en2, en]
        simp (disch := first | omega | exact hJ _ _ | exact rJ_g hJ _ _ | (simp (disch := omega) only [ur_r, ur_o, up_r, up_o]; omega) | assumption) only [s25_5, s25_7, b25_8, s25_11, s25_11v, s25_12, s25_15, s25_17, s25_18, s25_20, s25_21, s25_22, s25_23, s25_25, s25_27, b25_28, s25_31, s25_32, s25_33, s25_34, s25_35, s25_38, s25_40, b25_42, s25_45, s25_46, s25_47, s25_48, s25_50, s25_52, s25_53, s25_54, s25_55, s25_58, s25_60, b25_62, s25_65, s25_66, s25_67, s25_68, s25_70, s25_71, s25_72, s25_75, s25_76, s25_77, s25_78, s25_78v, s25_79, s25_81, b25_84, s25_87, s25_88, s25_91, s25_92, s25_93, s25_94, h.1, h.r8, h.a5, hs1, ev, hb, and1, kl_i, kl_r, kl_l, kl_n, kl_z, bd_s, tl_s, tl_n, ap_c, ap_n, v_s, v_n, nd_1, nd_0, ct13, eq_self, iI_add, iI_sub, iI_mul, iI_nat, iI_eq, iI_lt, iI_le, iI_eq0, iI_lt0, ↓reduceIte, if_true, if_false, not_true_eq_false, not_false_eq_true, true_and, and_true, false_and, and_false, true_or, or_true, false_or, or_false, Int.reduceLT, Int.reduceLE, Int.reduceEq, Int.reduceAdd, Int.reduceSub, Int.reduceMul, Nat.reduceAdd, Nat.reduceLT, Nat.reduceEqDiff, Int.reduceNeg, nc_s, nc_0, Int.zero_add, Int.add_zero, oI_r, oI_w, oI_f0, oI_g0, oI_f1, oI_g1, oI_f2, oI_g2, oI_f3, oI_g3, oI_f4, oI_g4, oI_f5, oI_g5, oI_f6, oI_g6, oI_f7, oI_g7, oI_f8, oI_g8, oI_f9, oI_g9, oI_f10, oI_g10, oI_f11, oI_g11, oI_f12, oI_g12, oI_f13, oI_g13, oI_f14, oI_g14, oI_f15, oI_g15, oI_f16, oI_g16, oI_f17, oI_g17, oI_f18, oI_g18, oI_f19, oI_g19, oI_f20, oI_g20, oI_f21, oI_g21, oI_f22, oI_g22, oI_f23, oI_g23, oI_f24, oI_g24, oI_f25, oI_g25, ur_r, ur_o, ur_s, up_r, up_o, up_s, jI_add, jI_sub, jI_mul, jI_neg, jI_i, jI_n, lgc_j, cj_lt, cj_ge, cj_gt, cj_le, cj_eq, oL_r, oL_w, oL_f6, oL_g6, oL_f7, oL_g7, oL_f17, oL_g17, oL_f18, oL_g18, dl_T, dl_F, de_T, de_F, dle_T, dle_F, iI_divn, rem_n, nd_v, ct_s, Bool.false_eq_true]
    · match st, h1, a2 with
      | [], _, a2 => exact absurd a2 (by decide)
      | [y], _, a2 => exact absurd a2 (by show ¬ (2 : Int) ≤ 1; decide)
      | y :: u :: r, h1, a2 =>
        have hy := h1 y (List.mem_cons_self ..)
        have hu := h1 u (List.mem_cons_of_mem _ (List.mem_cons_self ..))
        have hb0 := bvN_lt (u :: r) (fun q hq => h1 q (List.mem_cons_of_mem _ hq)) (by simp only [List.length_cons] at a3 ⊢; omega)
        have hb2 : (2 : Nat) ^ (u :: r).length ≤ 2 ^ 20 := Nat.pow_le_pow_right (by omega) (by simp only [List.length_cons] at a3 ⊢; omega)
        have hsh := bv_shr (bvN (u :: r)) y.toNat (by omega) (by omega)
        have en : ((bvN (y :: u :: r) : Nat) : Int) = ((2 * bvN (u :: r) + y.toNat : Nat) : Int) := rfl
        have enu : bvN (u :: r) = 2 * bvN r + u.toNat := rfl
        rw [← iI_nI, ← iI_nI, ← en] at hsh
        have ey : ((y.toNat : Nat) : Int) = y := by omega
        have el : (bvN (y :: u :: r) : Int) % 2 = y := by rw [en]; omega
        rcases a1 with q2 | q3
        · have et : evT (J (t + 6)) v (y :: u :: r) = (if u = 0 then 0 else if y = 0 then 0 else 1) :: r := by unfold evT; rw [if_neg (by omega), if_neg (by omega), if_pos q2]
          have hb := bv_and (bvN r) u.toNat y.toNat (by omega) (by omega)
          have hp : (if u.toNat = 0 then 0 else y.toNat) = (if u = 0 then (0 : Int) else if y = 0 then 0 else 1).toNat := by rcases hy with rfl | rfl <;> rcases hu with rfl | rfl <;> rfl
          rw [hp, ← enu, ← iI_nI, ← iI_nI, ← iI_nI, ey] at hb
          obtain ⟨x, e1, e2, e3⟩ := ih ((if u = 0 then 0 else if y = 0 then 0 else 1) :: r) (k + 1) (some (.int (iI (-2)))) (some (.int (iI y))) (by simp only [List.length_cons] at a4 ⊢; rw [show (((r.length + 1 : Nat)) : Int) = ((r.length + 1 + 1 : Nat) : Int) - 1 by omega]; exact a4) (by rw [← et]; exact evT_01 h1) hs2 (by omega) hl2
          refine ⟨x, by show evE (J (t + 6)) ts (evT (J (t + 6)) v (y :: u :: r)) = [x]; rw [et]; exact e1, e2, ?_⟩
          refine Eq.trans ?_ ((s25_97 ..).trans e3)
          have ev : trC v = -2 := by rw [q2]; rfl
          have en2 : ((bvN ((if u = 0 then 0 else if y = 0 then 0 else 1) :: r) : Nat) : Int) = ((2 * bvN r + (if u = 0 then (0 : Int) else if y = 0 then 0 else 1).toNat : Nat) : Int) := rfl
          rw [en2]
          simp (disch := first | omega | exact hJ _ _ | exact rJ_g hJ _ _ | (simp (disch := omega) only [ur_r, ur_o, up_r, up_o]; omega) | assumption) only [s25_5, s25_7, b25_8, s25_11, s25_11v, s25_12, s25_15, s25_17, s25_18, s25_20, s25_21, s25_22, s25_23, s25_25, s25_27, b25_28, s25_31, s25_32, s25_33, s25_34, s25_35, s25_38, s25_40, b25_42, s25_45, s25_46, s25_47, s25_48, s25_50, s25_52, s25_53, s25_54, s25_55, s25_58, s25_60, b25_62, s25_65, s25_66, s25_67, s25_68, s25_70, s25_71, s25_72, s25_75, s25_76, s25_77, s25_78, s25_78v, s25_79, s25_81, b25_84, s25_87, s25_88, s25_91, s25_92, s25_93, s25_94, h.1, h.r8, h.a5, hs1, ev, hsh, hb, and1, el, kl_i, kl_r, kl_l, kl_n, kl_z, bd_s, tl_s, tl_n, ap_c, ap_n, v_s, v_n, nd_1, nd_0, ct13, eq_self, iI_add, iI_sub, iI_mul, iI_nat, iI_eq, iI_lt, iI_le, iI_eq0, iI_lt0, ↓reduceIte, if_true, if_false, not_true_eq_false, not_false_eq_true, true_and, and_true, false_and, and_false, true_or, or_true, false_or, or_false, Int.reduceLT, Int.reduceLE, Int.reduceEq, Int.reduceAdd, Int.reduceSub, Int.reduceMul, Nat.reduceAdd, Nat.reduceLT, Nat.reduceEqDiff, Int.reduceNeg, nc_s, nc_0, Int.zero_add, Int.add_zero, oI_r, oI_w, oI_f0, oI_g0, oI_f1, oI_g1, oI_f2, oI_g2, oI_f3, oI_g3, oI_f4, oI_g4, oI_f5, oI_g5, oI_f6, oI_g6, oI_f7, oI_g7, oI_f8, oI_g8, oI_f9, oI_g9, oI_f10, oI_g10, oI_f11, oI_g11, oI_f12, oI_g12, oI_f13, oI_g13, oI_f14, oI_g14, oI_f15, oI_g15, oI_f16, oI_g16, oI_f17, oI_g17, oI_f18, oI_g18, oI_f19, oI_g19, oI_f20, oI_g20, oI_f21, oI_g21, oI_f22, oI_g22, oI_f23, oI_g23, oI_f24, oI_g24, oI_f25, oI_g25, ur_r, ur_o, ur_s, up_r, up_o, up_s, jI_add, jI_sub, jI_mul, jI_neg, jI_i, jI_n, lgc_j, cj_lt, cj_ge, cj_gt, cj_le, cj_eq, oL_r, oL_w, oL_f6, oL_g6, oL_f7, oL_g7, oL_f17, oL_g17, oL_f18, oL_g18, dl_T, dl_F, de_T, de_F, dle_T, dle_F, iI_divn, rem_n, nd_v, ct_s, Bool.false_eq_true]
        · have et : evT (J (t + 6)) v (y :: u :: r) = (if u = 0 then (if y = 0 then 0 else 1) else 1) :: r := by unfold evT; rw [if_neg (by omega), if_neg (by omega), if_neg (by omega)]
          have hb := bv_or (bvN r) u.toNat y.toNat (by omega) (by omega)
          have hp : (if u.toNat = 0 then y.toNat else 1) = (if u = 0 then (if y = 0 then (0 : Int) else 1) else 1).toNat := by rcases hy with rfl | rfl <;> rcases hu with rfl | rfl <;> rfl
          rw [hp, ← enu, ← iI_nI, ← iI_nI, ← iI_nI, ey] at hb
          obtain ⟨x, e1, e2, e3⟩ := ih ((if u = 0 then (if y = 0 then 0 else 1) else 1) :: r) (k + 1) (some (.int (iI (-3)))) (some (.int (iI y))) (by simp only [List.length_cons] at a4 ⊢; rw [show (((r.length + 1 : Nat)) : Int) = ((r.length + 1 + 1 : Nat) : Int) - 1 by omega]; exact a4) (by rw [← et]; exact evT_01 h1) hs2 (by omega) hl2
          refine ⟨x, by show evE (J (t + 6)) ts (evT (J (t + 6)) v (y :: u :: r)) = [x]; rw [et]; exact e1, e2, ?_⟩
          refine Eq.trans ?_ ((s25_97 ..).trans e3)
          have ev : trC v = -3 := by rw [q3]; rfl
          have en2 : ((bvN ((if u = 0 then (if y = 0 then 0 else 1) else 1) :: r) : Nat) : Int) = ((2 * bvN r + (if u = 0 then (if y = 0 then (0 : Int) else 1) else 1).toNat : Nat) : Int) := rfl
          rw [en2]
          simp (disch := first | omega | exact hJ _ _ | exact rJ_g hJ _ _ | (simp (disch := omega) only [ur_r, ur_o, up_r, up_o]; omega) | assumption) only [s25_5, s25_7, b25_8, s25_11, s25_11v, s25_12, s25_15, s25_17, s25_18, s25_20, s25_21, s25_22, s25_23, s25_25, s25_27, b25_28, s25_31, s25_32, s25_33, s25_34, s25_35, s25_38, s25_40, b25_42, s25_45, s25_46, s25_47, s25_48, s25_50, s25_52, s25_53, s25_54, s25_55, s25_58, s25_60, b25_62, s25_65, s25_66, s25_67, s25_68, s25_70, s25_71, s25_72, s25_75, s25_76, s25_77, s25_78, s25_78v, s25_79, s25_81, b25_84, s25_87, s25_88, s25_91, s25_92, s25_93, s25_94, h.1, h.r8, h.a5, hs1, ev, hsh, hb, and1, el, kl_i, kl_r, kl_l, kl_n, kl_z, bd_s, tl_s, tl_n, ap_c, ap_n, v_s, v_n, nd_1, nd_0, ct13, eq_self, iI_add, iI_sub, iI_mul, iI_nat, iI_eq, iI_lt, iI_le, iI_eq0, iI_lt0, ↓reduceIte, if_true, if_false, not_true_eq_false, not_false_eq_true, true_and, and_true, false_and, and_false, true_or, or_true, false_or, or_false, Int.reduceLT, Int.reduceLE, Int.reduceEq, Int.reduceAdd, Int.reduceSub, Int.reduceMul, Nat.reduceAdd, Nat.reduceLT, Nat.reduceEqDiff, Int.reduceNeg, nc_s, nc_0, Int.zero_add, Int.add_zero, oI_r, oI_w, oI_f0, oI_g0, oI_f1, oI_g1, oI_f2, oI_g2, oI_f3, oI_g3, oI_f4, oI_g4, oI_f5, oI_g5, oI_f6, oI_g6, oI_f7, oI_g7, oI_f8, oI_g8, oI_f9, oI_g9, oI_f10, oI_g10, oI_f11, oI_g11, oI_f12, oI_g12, oI_f13, oI_g13, oI_f14, oI_g14, oI_f15, oI_g15, oI_f16, oI_g16, oI_f17, oI_g17, oI_f18, oI_g18, oI_f19, oI_g19, oI_f20, oI_g20, oI_f21, oI_g21, oI_f22, oI_g22, oI_f23, oI_g23, oI_f24, oI_g24, oI_f25, oI_g25, ur_r, ur_o, ur_s, up_r, up_o, up_s, jI_add, jI_sub, jI_mul, jI_neg, jI_i, jI_n, lgc_j, cj_lt, cj_ge, cj_gt, cj_le, cj_eq, oL_r, oL_w, oL_f6, oL_g6, oL_f7, oL_g7, oL_f17, oL_g17, oL_f18, oL_g18, dl_T, dl_F, de_T, de_F, dle_T, dle_F, iI_divn, rem_n, nd_v, ct_s, Bool.false_eq_true]
/-- an E holds, where so much is known -/
def evV (B : Int → Int) (ts : List Int) : Int := (evE B ts []).headD 0
theorem t_holds (h : tc T R t) (hF : ∀ j, 0 ≤ j → j < 5 → i32 (J (t + 6) j)) (frm : Int) (ts : List Int) (hv : vE ts 0 1) (hs : seg (J (t + 5)) frm (ts.map trC)) (h0 : 0 ≤ frm) (hl : frm + (ts.length : Int) ≤ 120) : (evV (J (t + 6)) ts = 0 ∨ evV (J (t + 6)) ts = 1) ∧ rn_c (d + 1) 25 [.ref t, .int (iI frm), .int (iI (frm + (ts.length : Int)))] (T, oI J, L, R, z, w) = some (some (.int (iI (evV (J (t + 6)) ts))), (T, oI J, L, R, z, w)) := by
  obtain ⟨x, e1, e2, e3⟩ := ho_loop (d := d) (L := L) (z := z) (w := w) h hF frm (frm + (ts.length : Int)) (by omega) ts [] frm none none hv (fun q hq => absurd hq (List.not_mem_nil)) hs h0 rfl
  have ev : evV (J (t + 6)) ts = x := by unfold evV; rw [e1]; rfl
  rw [ev]
  refine ⟨e2, Eq.trans ?_ e3⟩
  have e0 : ((bvN [] : Nat) : Int) = 0 := rfl
  rw [e0]
  simp (disch := first | omega | exact hJ _ _ | exact rJ_g hJ _ _ | (simp (disch := omega) only [ur_r, ur_o, up_r, up_o]; omega) | assumption) only [c25, s25_0, s25_1, s25_2, s25_3, kl_i, kl_r, kl_l, kl_n, kl_z, bd_s, tl_s, tl_n, ap_c, ap_n, v_s, v_n, nd_1, nd_0, ct13, eq_self, iI_add, iI_sub, iI_mul, iI_nat, iI_eq, iI_lt, iI_le, iI_eq0, iI_lt0, ↓reduceIte, if_true, if_false, not_true_eq_false, not_false_eq_true, true_and, and_true, false_and, and_false, true_or, or_true, false_or, or_false, Int.reduceLT, Int.reduceLE, Int.reduceEq, Int.reduceAdd, Int.reduceSub, Int.reduceMul, Nat.reduceAdd, Nat.reduceLT, Nat.reduceEqDiff, Int.reduceNeg, nc_s, nc_0, Int.zero_add, Int.add_zero, oI_r, oI_w, oI_f0, oI_g0, oI_f1, oI_g1, oI_f2, oI_g2, oI_f3, oI_g3, oI_f4, oI_g4, oI_f5, oI_g5, oI_f6, oI_g6, oI_f7, oI_g7, oI_f8, oI_g8, oI_f9, oI_g9, oI_f10, oI_g10, oI_f11, oI_g11, oI_f12, oI_g12, oI_f13, oI_g13, oI_f14, oI_g14, oI_f15, oI_g15, oI_f16, oI_g16, oI_f17, oI_g17, oI_f18, oI_g18, oI_f19, oI_g19, oI_f20, oI_g20, oI_f21, oI_g21, oI_f22, oI_g22, oI_f23, oI_g23, oI_f24, oI_g24, oI_f25, oI_g25, ur_r, ur_o, ur_s, up_r, up_o, up_s, jI_add, jI_sub, jI_mul, jI_neg, jI_i, jI_n, lgc_j, cj_lt, cj_ge, cj_gt, cj_le, cj_eq, oL_r, oL_w, oL_f6, oL_g6, oL_f7, oL_g7, oL_f17, oL_g17, oL_f18, oL_g18, dl_T, dl_F, de_T, de_F, dle_T, dle_F, iI_divn, rem_n, nd_v, ct_s, Bool.false_eq_true]
end HD
