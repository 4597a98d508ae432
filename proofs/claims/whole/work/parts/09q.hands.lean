/-! the class: hand, go, cart -/
section CQ2
variable {d : Nat} {T : Nat → Nat × Nat} {I : Nat → Nat → Int32} {L : Nat → Nat → Int64} {R : Nat → Nat → Option Nat} {z w : Nat} {J Q : mR} {t : Nat} {S : Int → Int} {cs : List CL} {sky : Int}
theorem ch_loop (hM : cM T R) (ho : oR (tokL cs) S) (n : Nat) (x : Int) (hn : n ≤ 20) (hr : ∀ k : Nat, k < n → 0 ≤ S (180 + k) ∧ S (180 + k) ≤ 1) (hx : i32 x) : ∀ (m k : Nat) (J : mR), k + m = n → cX T R J t cs (ndW (tokL cs) S 0 k) → wR J 141 (ndW (tokL cs) S 0 k) → cz J → (∀ k : Int, 0 ≤ k → k < n → J 116 k = S (180 + k)) → ∃ J' : mR, rn_r (d + 6) 72 41 [some (.ref 100), some (.int (iI n)), some (.int (iI x)), some (.ref 141), some (.int (iI k))] [] (T, oI J, L, R, z, w) = rn_r (d + 6) 72 71 [some (.ref 100), some (.int (iI n)), some (.int (iI x)), some (.ref 141), some (.int (iI n))] [] (T, oI J', L, R, z, w) ∧ (∀ b, ¬ (141 ≤ b ∧ b ≤ 144) → ¬ b = t + 6 → J' b = J b) ∧ (∀ j, 0 ≤ j → j < 5 → i32 (J' (t + 6) j)) ∧ cz J' ∧ wR J' 141 (ndW (tokL cs) S 0 n) := by
  intro m
  induction m with
  | zero =>
    intro k J hk hX hR hz h6
    obtain rfl : k = n := by omega
    refine ⟨J, ?_, fun _ _ _ => rfl, hX.1.2.2.2.2.2.2, hz, hR⟩
    simp (disch := first | omega | exact hJ _ _ | exact rJ_g hJ _ _ | (simp (disch := omega) only [ur_r, ur_o, up_r, up_o]; omega) | assumption) only [s72_41, s72_43, b72_44, kl_i, kl_r, kl_l, kl_n, kl_z, bd_s, tl_s, tl_n, ap_c, ap_n, v_s, v_n, nd_1, nd_0, ct13, eq_self, iI_add, iI_sub, iI_mul, iI_nat, iI_eq, iI_lt, iI_le, iI_eq0, iI_lt0, ↓reduceIte, if_true, if_false, not_true_eq_false, not_false_eq_true, true_and, and_true, false_and, and_false, true_or, or_true, false_or, or_false, Int.reduceLT, Int.reduceLE, Int.reduceEq, Int.reduceAdd, Int.reduceSub, Int.reduceMul, Nat.reduceAdd, Nat.reduceLT, Nat.reduceEqDiff, Int.reduceNeg, nc_s, nc_0, Int.zero_add, Int.add_zero, oI_r, oI_w, oI_f0, oI_g0, oI_f1, oI_g1, oI_f2, oI_g2, oI_f3, oI_g3, oI_f4, oI_g4, oI_f5, oI_g5, oI_f6, oI_g6, oI_f7, oI_g7, oI_f8, oI_g8, oI_f9, oI_g9, oI_f10, oI_g10, oI_f11, oI_g11, oI_f12, oI_g12, oI_f13, oI_g13, oI_f14, oI_g14, oI_f15, oI_g15, oI_f16, oI_g16, oI_f17, oI_g17, oI_f18, oI_g18, oI_f19, oI_g19, oI_f20, oI_g20, oI_f21, oI_g21, oI_f22, oI_g22, oI_f23, oI_g23, oI_f24, oI_g24, oI_f25, oI_g25, ur_r, ur_o, ur_s, up_r, up_o, up_s, jI_add, jI_sub, jI_mul, jI_neg, jI_i, jI_n, lgc_j, cj_lt, cj_ge, cj_gt, cj_le, cj_eq, oL_r, oL_w, oL_f6, oL_g6, oL_f7, oL_g7, oL_f17, oL_g17, oL_f18, oL_g18, dl_T, dl_F, de_T, de_F, dle_T, dle_F, iI_divn, rem_n, nd_v, ct_s, Bool.false_eq_true]
  | succ m ih =>
    intro k J hk hX hR hz h6
    obtain ⟨a, b, c, e⟩ := ndW_p ho 0 k (by omega) (fun k hk => hr k (by omega))
    have hrk := hr k (by omega)
    have h999 := ho.2.2.2.2.2
    obtain ⟨x1, x2, x3, x4, x5, x6, x7⟩ := id hX
    have htp : 108 ≤ t ∧ (192 < t ∨ t + 6 < 141) := by unfold tpl at x7; omega
    have ht6 : ¬ 116 = t + 6 := by unfold tpl at x7; omega
    have hT := b.oT ho.2.2.2.1
    have w0 : wc T R 141 := hM.wt 0 (by omega)
    obtain ⟨J3, hp, hR3, f3, hF3⟩ := w_pass (d := d) (L := L) (z := z) (w := w) w0 x1 ho.2.2.1 (hM.nc x2) x3 a hT (by unfold tB at c ⊢; omega) hrk (by omega) (by omega) htp.1 x4 x5 hR
    obtain ⟨p1, p2, p3, p4, p5⟩ := hr_p (sky := S (180 + k)) ho.2.2.1 a c hT (by omega) hrk
    have q : ¬ 0 / 2 ^ k % 2 = 1 := by rw [Nat.zero_div]; omega
    have en : ndW (tokL cs) S 0 (k + 1) = hrS (tokL cs) (ndW (tokL cs) S 0 k) (S (180 + k)) := by
      simp only [ndW, if_neg q]
    have hX3 := cX_x hX hM (fun b b1 b2 b3 => f3 b (by omega) (by omega) (by omega) (by omega) b3) hF3 p2 hT
    have hz3 : cz J3 := by
      intro k' hk' j hj
      by_cases e : k' = 0
      · subst e; exact hR3.2.2.2.2.2.2.2 j hj
      · rw [f3 _ (by omega) (by omega) (by omega) (by omega) (by omega)]; exact hz k' hk' j hj
    rw [← en] at hR3 hX3
    obtain ⟨J4, hrun4, hf4, hF4, hz4, hR4⟩ := ih (k + 1) J3 (by omega) hX3 hR3 hz3 (by intro k k0 k1; rw [f3 116 (by omega) (by omega) (by omega) (by omega) ht6]; exact h6 k k0 k1)
    refine ⟨J4, ?_, fun b b1 b2 => (hf4 b b1 b2).trans (f3 b (by omega) (by omega) (by omega) (by omega) b2), hF4, hz4, hR4⟩
    refine Eq.trans ?_ ((s72_68 ..).trans hrun4)
    have e6 := h6 k (by omega) (by omega)
    have a6 := hM.a116 k (by omega)
    simp (disch := first | omega | exact hJ _ _ | exact rJ_g hJ _ _ | (simp (disch := omega) only [ur_r, ur_o, up_r, up_o]; omega) | assumption) only [s72_41, s72_43, b72_44, s72_47, s72_47v, s72_48, s72_48v, s72_49, s72_52, s72_52v, s72_53, s72_56, s72_59, s72_61, s72_62, s72_65, hM.t100, hM.t101, hM.r100_0, hM.r101_8, v_s, a6, e6, w0.t0, hp, kl_i, kl_r, kl_l, kl_n, kl_z, bd_s, tl_s, tl_n, ap_c, ap_n, v_s, v_n, nd_1, nd_0, ct13, eq_self, iI_add, iI_sub, iI_mul, iI_nat, iI_eq, iI_lt, iI_le, iI_eq0, iI_lt0, ↓reduceIte, if_true, if_false, not_true_eq_false, not_false_eq_true, true_and, and_true, false_and, and_false, true_or, or_true, false_or, or_false, Int.reduceLT, Int.reduceLE, Int.reduceEq, Int.reduceAdd, Int.reduceSub, Int.reduceMul, Nat.reduceAdd, Nat.reduceLT, Nat.reduceEqDiff, Int.reduceNeg, nc_s, nc_0, Int.zero_add, Int.add_zero, oI_r, oI_w, oI_f0, oI_g0, oI_f1, oI_g1, oI_f2, oI_g2, oI_f3, oI_g3, oI_f4, oI_g4, oI_f5, oI_g5, oI_f6, oI_g6, oI_f7, oI_g7, oI_f8, oI_g8, oI_f9, oI_g9, oI_f10, oI_g10, oI_f11, oI_g11, oI_f12, oI_g12, oI_f13, oI_g13, oI_f14, oI_g14, oI_f15, oI_g15, oI_f16, oI_g16, oI_f17, oI_g17, oI_f18, oI_g18, oI_f19, oI_g19, oI_f20, oI_g20, oI_f21, oI_g21, oI_f22, oI_g22, oI_f23, oI_g23, oI_f24, oI_g24, oI_f25, oI_g25, ur_r, ur_o, ur_s, up_r, up_o, up_s, jI_add, jI_sub, jI_mul, jI_neg, jI_i, jI_n, lgc_j, cj_lt, cj_ge, cj_gt, cj_le, cj_eq, oL_r, oL_w, oL_f6, oL_g6, oL_f7, oL_g7, oL_f17, oL_g17, oL_f18, oL_g18, dl_T, dl_F, de_T, de_F, dle_T, dle_F, iI_divn, rem_n, nd_v, ct_s, Bool.false_eq_true]
theorem c_hand (hM : cM T R) (ho : oR (tokL cs) S) (h : cS T R J t cs S) (hP : cPl J S) (h17 : 0 ≤ S 17 ∧ S 17 ≤ 20) (hr : ∀ k, 0 ≤ k → k < S 17 → 0 ≤ S (180 + k) ∧ S (180 + k) ≤ 1) (n x : Int) (hn : i32 n) (hx : i32 x) : ∃ J' Q' : mR, rn_c (d + 20) 72 [.ref 100, .int (iI n), .int (iI x)] (T, oI J, oL Q, R, z, w) = some (some (.int (iI (handV (tokL cs) S n x))), (T, oI J', oL Q', R, z, w)) ∧ qF t J J' ∧ cF Q Q' := by
  have e17 := hP.1.2.2.1
  by_cases c : 0 ≤ x ∧ x ≤ 6 ∧ 0 ≤ n ∧ n ≤ S 17
  · have bg := c_begin (d := d + 18) (J := J) (Q := Q) (z := z) (w := w) hM
    have hq := bgJ_q h
    have hX := cX_x h.1 hM hq.wf hq.2.1 sx.i ho.2.2.2.1
    have h7 := h.1.2.2.2.2.2.2
    unfold tpl at h7
    obtain ⟨J2, hrun2, hf2, hF2, hz2, hR2⟩ := ch_loop (d := d + 14) (L := oL (zQ Q)) (z := z) (w := w) hM ho n.toNat x (by omega) (fun k hk => hr k (by omega) (by omega)) hx n.toNat 0 (bgJ J) (by omega) hX (bgJ_R h.2.1 ho.2.2.2.2.1 h.2.2) hq.2.2 (by intro k k0 k1; rw [bgJ_f (by omega) (by omega) (by omega)]; exact hP.2.1 k k0 (by omega))
    have hnn : (n.toNat : Int) = n := by omega
    rw [hnn] at hrun2
    have r1 : rn_c (d + 20) 72 [.ref 100, .int (iI n), .int (iI x)] (T, oI J, oL Q, R, z, w) = rn_r (d + 20) 72 71 [some (.ref 100), some (.int (iI n)), some (.int (iI x)), some (.ref 141), some (.int (iI n))] [] (T, oI J2, oL (zQ Q), R, z, w) := by
      refine Eq.trans ?_ hrun2
      simp (disch := first | omega | exact hJ _ _ | exact rJ_g hJ _ _ | (simp (disch := omega) only [ur_r, ur_o, up_r, up_o]; omega) | assumption) only [c72, s72_0, b72_1, s72_4, s72_5, b72_7, s72_10, s72_13, s72_14, b72_15, s72_18, s72_19, s72_19v, s72_20, s72_23, b72_26, s72_29, s72_32, s72_33, s72_33v, s72_34, s72_37, s72_37n, s72_37v, s72_38, s72_39, hM.t100, hM.t101, hM.r100_0, e17, v_s, bg, kl_i, kl_r, kl_l, kl_n, kl_z, bd_s, tl_s, tl_n, ap_c, ap_n, v_s, v_n, nd_1, nd_0, ct13, eq_self, iI_add, iI_sub, iI_mul, iI_nat, iI_eq, iI_lt, iI_le, iI_eq0, iI_lt0, ↓reduceIte, if_true, if_false, not_true_eq_false, not_false_eq_true, true_and, and_true, false_and, and_false, true_or, or_true, false_or, or_false, Int.reduceLT, Int.reduceLE, Int.reduceEq, Int.reduceAdd, Int.reduceSub, Int.reduceMul, Nat.reduceAdd, Nat.reduceLT, Nat.reduceEqDiff, Int.reduceNeg, nc_s, nc_0, Int.zero_add, Int.add_zero, oI_r, oI_w, oI_f0, oI_g0, oI_f1, oI_g1, oI_f2, oI_g2, oI_f3, oI_g3, oI_f4, oI_g4, oI_f5, oI_g5, oI_f6, oI_g6, oI_f7, oI_g7, oI_f8, oI_g8, oI_f9, oI_g9, oI_f10, oI_g10, oI_f11, oI_g11, oI_f12, oI_g12, oI_f13, oI_g13, oI_f14, oI_g14, oI_f15, oI_g15, oI_f16, oI_g16, oI_f17, oI_g17, oI_f18, oI_g18, oI_f19, oI_g19, oI_f20, oI_g20, oI_f21, oI_g21, oI_f22, oI_g22, oI_f23, oI_g23, oI_f24, oI_g24, oI_f25, oI_g25, ur_r, ur_o, ur_s, up_r, up_o, up_s, jI_add, jI_sub, jI_mul, jI_neg, jI_i, jI_n, lgc_j, cj_lt, cj_ge, cj_gt, cj_le, cj_eq, oL_r, oL_w, oL_f6, oL_g6, oL_f7, oL_g7, oL_f17, oL_g17, oL_f18, oL_g18, dl_T, dl_F, de_T, de_F, dle_T, dle_F, iI_divn, rem_n, nd_v, ct_s, Bool.false_eq_true]
    refine ⟨J2, zQ Q, ?_, hq.tr ⟨fun b b1 b2 => hf2 b (by omega) b2, hF2, hz2⟩, fun b b1 b2 => by unfold zQ cQ; simp only [ur_o b1, ur_o b2]⟩
    rw [r1]
    obtain ⟨w1, w2, w3, w4, w5, w6, w7, w8⟩ := hR2
    have w0 : wc T R 141 := hM.wt 0 (by omega)
    unfold handV
    by_cases c0 : x = 0
    · simp (disch := first | omega | exact hJ _ _ | exact rJ_g hJ _ _ | (simp (disch := omega) only [ur_r, ur_o, up_r, up_o]; omega) | assumption) only [s72_71, b72_72, s72_108, s72_108v, s72_109, s72_112, w0.t0, w5, kl_i, kl_r, kl_l, kl_n, kl_z, bd_s, tl_s, tl_n, ap_c, ap_n, v_s, v_n, nd_1, nd_0, ct13, eq_self, iI_add, iI_sub, iI_mul, iI_nat, iI_eq, iI_lt, iI_le, iI_eq0, iI_lt0, ↓reduceIte, if_true, if_false, not_true_eq_false, not_false_eq_true, true_and, and_true, false_and, and_false, true_or, or_true, false_or, or_false, Int.reduceLT, Int.reduceLE, Int.reduceEq, Int.reduceAdd, Int.reduceSub, Int.reduceMul, Nat.reduceAdd, Nat.reduceLT, Nat.reduceEqDiff, Int.reduceNeg, nc_s, nc_0, Int.zero_add, Int.add_zero, oI_r, oI_w, oI_f0, oI_g0, oI_f1, oI_g1, oI_f2, oI_g2, oI_f3, oI_g3, oI_f4, oI_g4, oI_f5, oI_g5, oI_f6, oI_g6, oI_f7, oI_g7, oI_f8, oI_g8, oI_f9, oI_g9, oI_f10, oI_g10, oI_f11, oI_g11, oI_f12, oI_g12, oI_f13, oI_g13, oI_f14, oI_g14, oI_f15, oI_g15, oI_f16, oI_g16, oI_f17, oI_g17, oI_f18, oI_g18, oI_f19, oI_g19, oI_f20, oI_g20, oI_f21, oI_g21, oI_f22, oI_g22, oI_f23, oI_g23, oI_f24, oI_g24, oI_f25, oI_g25, ur_r, ur_o, ur_s, up_r, up_o, up_s, jI_add, jI_sub, jI_mul, jI_neg, jI_i, jI_n, lgc_j, cj_lt, cj_ge, cj_gt, cj_le, cj_eq, oL_r, oL_w, oL_f6, oL_g6, oL_f7, oL_g7, oL_f17, oL_g17, oL_f18, oL_g18, dl_T, dl_F, de_T, de_F, dle_T, dle_F, iI_divn, rem_n, nd_v, ct_s, Bool.false_eq_true]
    by_cases c1 : x = 1
    · simp (disch := first | omega | exact hJ _ _ | exact rJ_g hJ _ _ | (simp (disch := omega) only [ur_r, ur_o, up_r, up_o]; omega) | assumption) only [s72_71, b72_72, s72_113, s72_113v, s72_114, s72_117, w0.t0, w6, kl_i, kl_r, kl_l, kl_n, kl_z, bd_s, tl_s, tl_n, ap_c, ap_n, v_s, v_n, nd_1, nd_0, ct13, eq_self, iI_add, iI_sub, iI_mul, iI_nat, iI_eq, iI_lt, iI_le, iI_eq0, iI_lt0, ↓reduceIte, if_true, if_false, not_true_eq_false, not_false_eq_true, true_and, and_true, false_and, and_false, true_or, or_true, false_or, or_false, Int.reduceLT, Int.reduceLE, Int.reduceEq, Int.reduceAdd, Int.reduceSub, Int.reduceMul, Nat.reduceAdd, Nat.reduceLT, Nat.reduceEqDiff, Int.reduceNeg, nc_s, nc_0, Int.zero_add, Int.add_zero, oI_r, oI_w, oI_f0, oI_g0, oI_f1, oI_g1, oI_f2, oI_g2, oI_f3, oI_g3, oI_f4, oI_g4, oI_f5, oI_g5, oI_f6, oI_g6, oI_f7, oI_g7, oI_f8, oI_g8, oI_f9, oI_g9, oI_f10, oI_g10, oI_f11, oI_g11, oI_f12, oI_g12, oI_f13, oI_g13, oI_f14, oI_g14, oI_f15, oI_g15, oI_f16, oI_g16, oI_f17, oI_g17, oI_f18, oI_g18, oI_f19, oI_g19, oI_f20, oI_g20, oI_f21, oI_g21, oI_f22, oI_g22, oI_f23, oI_g23, oI_f24, oI_g24, oI_f25, oI_g25, ur_r, ur_o, ur_s, up_r, up_o, up_s, jI_add, jI_sub, jI_mul, jI_neg, jI_i, jI_n, lgc_j, cj_lt, cj_ge, cj_gt, cj_le, cj_eq, oL_r, oL_w, oL_f6, oL_g6, oL_f7, oL_g7, oL_f17, oL_g17, oL_f18, oL_g18, dl_T, dl_F, de_T, de_F, dle_T, dle_F, iI_divn, rem_n, nd_v, ct_s, Bool.false_eq_true]
    by_cases c6 : x = 6
    · simp (disch := first | omega | exact hJ _ _ | exact rJ_g hJ _ _ | (simp (disch := omega) only [ur_r, ur_o, up_r, up_o]; omega) | assumption) only [s72_71, b72_72, s72_118, s72_118v, s72_119, s72_122, w0.t0, w7, kl_i, kl_r, kl_l, kl_n, kl_z, bd_s, tl_s, tl_n, ap_c, ap_n, v_s, v_n, nd_1, nd_0, ct13, eq_self, iI_add, iI_sub, iI_mul, iI_nat, iI_eq, iI_lt, iI_le, iI_eq0, iI_lt0, ↓reduceIte, if_true, if_false, not_true_eq_false, not_false_eq_true, true_and, and_true, false_and, and_false, true_or, or_true, false_or, or_false, Int.reduceLT, Int.reduceLE, Int.reduceEq, Int.reduceAdd, Int.reduceSub, Int.reduceMul, Nat.reduceAdd, Nat.reduceLT, Nat.reduceEqDiff, Int.reduceNeg, nc_s, nc_0, Int.zero_add, Int.add_zero, oI_r, oI_w, oI_f0, oI_g0, oI_f1, oI_g1, oI_f2, oI_g2, oI_f3, oI_g3, oI_f4, oI_g4, oI_f5, oI_g5, oI_f6, oI_g6, oI_f7, oI_g7, oI_f8, oI_g8, oI_f9, oI_g9, oI_f10, oI_g10, oI_f11, oI_g11, oI_f12, oI_g12, oI_f13, oI_g13, oI_f14, oI_g14, oI_f15, oI_g15, oI_f16, oI_g16, oI_f17, oI_g17, oI_f18, oI_g18, oI_f19, oI_g19, oI_f20, oI_g20, oI_f21, oI_g21, oI_f22, oI_g22, oI_f23, oI_g23, oI_f24, oI_g24, oI_f25, oI_g25, ur_r, ur_o, ur_s, up_r, up_o, up_s, jI_add, jI_sub, jI_mul, jI_neg, jI_i, jI_n, lgc_j, cj_lt, cj_ge, cj_gt, cj_le, cj_eq, oL_r, oL_w, oL_f6, oL_g6, oL_f7, oL_g7, oL_f17, oL_g17, oL_f18, oL_g18, dl_T, dl_F, de_T, de_F, dle_T, dle_F, iI_divn, rem_n, nd_v, ct_s, Bool.false_eq_true]
    have v := w1 (x - 2) (by omega)
    have a1 := w0.a1 (x - 2) (by omega)
    simp (disch := first | omega | exact hJ _ _ | exact rJ_g hJ _ _ | (simp (disch := omega) only [ur_r, ur_o, up_r, up_o]; omega) | assumption) only [s72_71, b72_72, s72_123, s72_123v, s72_124, s72_127, s72_128, s72_129, s72_130, s72_131, w0.t0, w0.r0, v, a1, kl_i, kl_r, kl_l, kl_n, kl_z, bd_s, tl_s, tl_n, ap_c, ap_n, v_s, v_n, nd_1, nd_0, ct13, eq_self, iI_add, iI_sub, iI_mul, iI_nat, iI_eq, iI_lt, iI_le, iI_eq0, iI_lt0, ↓reduceIte, if_true, if_false, not_true_eq_false, not_false_eq_true, true_and, and_true, false_and, and_false, true_or, or_true, false_or, or_false, Int.reduceLT, Int.reduceLE, Int.reduceEq, Int.reduceAdd, Int.reduceSub, Int.reduceMul, Nat.reduceAdd, Nat.reduceLT, Nat.reduceEqDiff, Int.reduceNeg, nc_s, nc_0, Int.zero_add, Int.add_zero, oI_r, oI_w, oI_f0, oI_g0, oI_f1, oI_g1, oI_f2, oI_g2, oI_f3, oI_g3, oI_f4, oI_g4, oI_f5, oI_g5, oI_f6, oI_g6, oI_f7, oI_g7, oI_f8, oI_g8, oI_f9, oI_g9, oI_f10, oI_g10, oI_f11, oI_g11, oI_f12, oI_g12, oI_f13, oI_g13, oI_f14, oI_g14, oI_f15, oI_g15, oI_f16, oI_g16, oI_f17, oI_g17, oI_f18, oI_g18, oI_f19, oI_g19, oI_f20, oI_g20, oI_f21, oI_g21, oI_f22, oI_g22, oI_f23, oI_g23, oI_f24, oI_g24, oI_f25, oI_g25, ur_r, ur_o, ur_s, up_r, up_o, up_s, jI_add, jI_sub, jI_mul, jI_neg, jI_i, jI_n, lgc_j, cj_lt, cj_ge, cj_gt, cj_le, cj_eq, oL_r, oL_w, oL_f6, oL_g6, oL_f7, oL_g7, oL_f17, oL_g17, oL_f18, oL_g18, dl_T, dl_F, de_T, de_F, dle_T, dle_F, iI_divn, rem_n, nd_v, ct_s, Bool.false_eq_true]
  · refine ⟨J, Q, ?_, qF.i h, cF.i⟩
    unfold handV
    (simp (disch := first | omega | exact hJ _ _ | exact rJ_g hJ _ _ | (simp (disch := omega) only [ur_r, ur_o, up_r, up_o]; omega) | assumption) only [s72_0, b72_1, s72_4, s72_5, b72_7, s72_10, s72_13, s72_14, b72_15, s72_18, s72_19, s72_19v, s72_20, s72_23, b72_26, s72_29, s72_32, c72, hM.t100, hM.t101, hM.r100_0, e17, v_s, kl_i, kl_r, kl_l, kl_n, kl_z, bd_s, tl_s, tl_n, ap_c, ap_n, v_s, v_n, nd_1, nd_0, ct13, eq_self, iI_add, iI_sub, iI_mul, iI_nat, iI_eq, iI_lt, iI_le, iI_eq0, iI_lt0, ↓reduceIte, if_true, if_false, not_true_eq_false, not_false_eq_true, true_and, and_true, false_and, and_false, true_or, or_true, false_or, or_false, Int.reduceLT, Int.reduceLE, Int.reduceEq, Int.reduceAdd, Int.reduceSub, Int.reduceMul, Nat.reduceAdd, Nat.reduceLT, Nat.reduceEqDiff, Int.reduceNeg, nc_s, nc_0, Int.zero_add, Int.add_zero, oI_r, oI_w, oI_f0, oI_g0, oI_f1, oI_g1, oI_f2, oI_g2, oI_f3, oI_g3, oI_f4, oI_g4, oI_f5, oI_g5, oI_f6, oI_g6, oI_f7, oI_g7, oI_f8, oI_g8, oI_f9, oI_g9, oI_f10, oI_g10, oI_f11, oI_g11, oI_f12, oI_g12, oI_f13, oI_g13, oI_f14, oI_g14, oI_f15, oI_g15, oI_f16, oI_g16, oI_f17, oI_g17, oI_f18, oI_g18, oI_f19, oI_g19, oI_f20, oI_g20, oI_f21, oI_g21, oI_f22, oI_g22, oI_f23, oI_g23, oI_f24, oI_g24, oI_f25, oI_g25, ur_r, ur_o, ur_s, up_r, up_o, up_s, jI_add, jI_sub, jI_mul, jI_neg, jI_i, jI_n, lgc_j, cj_lt, cj_ge, cj_gt, cj_le, cj_eq, oL_r, oL_w, oL_f6, oL_g6, oL_f7, oL_g7, oL_f17, oL_g17, oL_f18, oL_g18, dl_T, dl_F, de_T, de_F, dle_T, dle_F, iI_divn, rem_n, nd_v, ct_s, Bool.false_eq_true]; repeat' (split <;> (try simp (disch := first | omega | exact hJ _ _ | exact rJ_g hJ _ _ | (simp (disch := omega) only [ur_r, ur_o, up_r, up_o]; omega) | assumption) only [s72_0, b72_1, s72_4, s72_5, b72_7, s72_10, s72_13, s72_14, b72_15, s72_18, s72_19, s72_19v, s72_20, s72_23, b72_26, s72_29, s72_32, c72, hM.t100, hM.t101, hM.r100_0, e17, v_s, kl_i, kl_r, kl_l, kl_n, kl_z, bd_s, tl_s, tl_n, ap_c, ap_n, v_s, v_n, nd_1, nd_0, ct13, eq_self, iI_add, iI_sub, iI_mul, iI_nat, iI_eq, iI_lt, iI_le, iI_eq0, iI_lt0, ↓reduceIte, if_true, if_false, not_true_eq_false, not_false_eq_true, true_and, and_true, false_and, and_false, true_or, or_true, false_or, or_false, Int.reduceLT, Int.reduceLE, Int.reduceEq, Int.reduceAdd, Int.reduceSub, Int.reduceMul, Nat.reduceAdd, Nat.reduceLT, Nat.reduceEqDiff, Int.reduceNeg, nc_s, nc_0, Int.zero_add, Int.add_zero, oI_r, oI_w, oI_f0, oI_g0, oI_f1, oI_g1, oI_f2, oI_g2, oI_f3, oI_g3, oI_f4, oI_g4, oI_f5, oI_g5, oI_f6, oI_g6, oI_f7, oI_g7, oI_f8, oI_g8, oI_f9, oI_g9, oI_f10, oI_g10, oI_f11, oI_g11, oI_f12, oI_g12, oI_f13, oI_g13, oI_f14, oI_g14, oI_f15, oI_g15, oI_f16, oI_g16, oI_f17, oI_g17, oI_f18, oI_g18, oI_f19, oI_g19, oI_f20, oI_g20, oI_f21, oI_g21, oI_f22, oI_g22, oI_f23, oI_g23, oI_f24, oI_g24, oI_f25, oI_g25, ur_r, ur_o, ur_s, up_r, up_o, up_s, jI_add, jI_sub, jI_mul, jI_neg, jI_i, jI_n, lgc_j, cj_lt, cj_ge, cj_gt, cj_le, cj_eq, oL_r, oL_w, oL_f6, oL_g6, oL_f7, oL_g7, oL_f17, oL_g17, oL_f18, oL_g18, dl_T, dl_F, de_T, de_F, dle_T, dle_F, iI_divn, rem_n, nd_v, ct_s, Bool.false_eq_true])))
theorem cPl_x {J' : mR} {S' : Int → Int} (h : cPl J S) (f : wF t J J') (ht : tpl t) (hx : sx S S') : cPl J' S' := by
  unfold tpl at ht
  obtain ⟨⟨a1, a2, a3, a4⟩, b, c, e, g⟩ := h
  unfold cPl
  rw [f 101 (by omega) (by omega) (by omega), f 115 (by omega) (by omega) (by omega), f 116 (by omega) (by omega) (by omega), f 117 (by omega) (by omega) (by omega), f 118 (by omega) (by omega) (by omega), hx 16 (by omega), hx 17 (by omega), hx 18 (by omega), hx 19 (by omega)]
  refine ⟨⟨a1, a2, a3, a4⟩, fun k k0 k1 => ?_, fun k k0 k1 => ?_, fun k k0 k1 => ?_, g⟩
  · rw [hx _ (by omega)]; exact b k k0 k1
  · rw [hx _ (by omega), hx _ (by omega)]; exact c k k0 k1
  · rw [hx _ (by omega)]; exact e k k0 k1
theorem go_x (ts : List Int) (hok : lkOk ts 0) (ho : oS S) (hc : tB 0 S) (hT : oT S) (h10 : S 10 ≤ 999) (s : Int) : sx S (goS ts S s) := by
  unfold goS
  split
  · exact sx.i
  split
  · exact sx.i
  split
  · exact sx.i
  obtain ⟨p1, p2, p3, p4, p5⟩ := hr_p (sky := s) hok ho hc hT (by omega) (by omega)
  exact ((p2.t (sx.u (by omega))).t (sx.u (by omega))).t (sx.u (by omega))
theorem c_go (hM : cM T R) (ho : oR (tokL cs) S) (h : cS T R J t cs S) (s : Int) (hs : i32 s) : ∃ J' : mR, rn_c (d + 20) 70 [.ref 100, .int (iI s)] (T, oI J, L, R, z, w) = some (some (.int (iI (goV (tokL cs) S s))), (T, oI J', L, R, z, w)) ∧ wF t J J' ∧ cS T R J' t cs (goS (tokL cs) S s) := by
  obtain ⟨hX, ⟨n1, n2, n3, n4, n5⟩, hz⟩ := id h
  obtain ⟨x1, x2, x3, x4, x5, x6, x7⟩ := id hX
  have h999 := ho.2.2.2.2.2
  have h10 := ho.1.2.2.1
  by_cases c : 0 ≤ s ∧ s ≤ 1 ∧ ¬ S 10 = 999
  · have htp : 108 ≤ t ∧ (192 < t ∨ t + 6 < 141) := by unfold tpl at x7; omega
    have fg := w_forget (d := d + 19) (J := J) (L := L) (z := z) (w := w) hM.w102
    obtain ⟨J1, hJ1⟩ : ∃ J1, J1 = ur J 102 (fgV (J 102)) := ⟨_, rfl⟩
    rw [← hJ1] at fg
    have f1 : ∀ b, ¬ b = 102 → J1 b = J b := fun b hb => by rw [hJ1, ur_o hb]
    have e1 : J1 102 = fgV (J 102) := by rw [hJ1, ur_r]
    have hc := ho.2.2.2.2.1
    have hR : wR J1 102 S := by
      refine ⟨fun j hj => ?_, fun p hp => ?_, ?_, ?_, ?_, ?_, ?_, fun j hj => ?_⟩
      · rw [f1 _ (by omega)]; exact n1 j hj
      · rw [f1 _ (by omega)]; exact n2 p hp
      · rw [e1]; unfold fgV; simp (disch := decide) only [up_r, up_o]; exact n3
      · rw [e1]; unfold fgV; simp (disch := decide) only [up_r, up_o]; exact n4
      · rw [e1]; unfold fgV; simp (disch := decide) only [up_r, up_o]; unfold tB at hc; omega
      · rw [e1]; unfold fgV; simp (disch := decide) only [up_r, up_o]; unfold tB at hc; omega
      · rw [e1]; unfold fgV; simp (disch := decide) only [up_r, up_o]; unfold tB at hc; omega
      · rw [f1 _ (by omega)]; exact n5 j hj
    have g1 : wF t J J1 := fun b b1 b2 b3 => f1 b (by omega)
    have hX1 := cX_x hX hM g1 (fun j j0 j5 => by rw [f1 _ (by omega)]; exact x1.2.2.2.2.2.2 j j0 j5) sx.i ho.2.2.2.1
    obtain ⟨J3, hp, hR3, f3, hF3⟩ := w_pass (d := d + 14) (L := L) (z := z) (w := w) hM.w102 hX1.1 ho.2.2.1 (hM.nc x2) hX1.2.2.1 ho.1 ho.2.2.2.1 (by unfold tB at hc ⊢; omega) (sky := s) (by omega) (by unfold tpl at x7; omega) (by omega) htp.1 hX1.2.2.2.1 hX1.2.2.2.2.1 hR
    have g3 : wF t J J3 := fun b b1 b2 b3 => by rw [f3 b (by omega) (by omega) (by omega) (by omega) b3]; exact g1 b b1 b2 b3
    have px := go_x (tokL cs) ho.2.2.1 ho.1 hc ho.2.2.2.1 h999 s
    refine ⟨J3, ?_, g3, cX_x hX hM g3 hF3 px ho.2.2.2.1, ?_, fun k hk j hj => ?_⟩
    · have v := hR3.2.2.2.2.1
      unfold goV
      have p3 : J 102 2 < 999 := by omega
      by_cases s0 : s = 0 <;>
        simp (disch := first | omega | exact hJ _ _ | exact rJ_g hJ _ _ | (simp (disch := omega) only [ur_r, ur_o, up_r, up_o]; omega) | assumption) only [c70, s70_0, b70_1, s70_4, s70_5, b70_6, s70_9, s70_12, s70_13, s70_13v, s70_14, s70_17, s70_20, s70_23, b70_26, s70_29, s70_32, s70_33, s70_33v, s70_34, s70_37, s70_40, s70_43, s70_43v, s70_44, s70_47, s70_50, s70_50v, s70_51, s70_54, s70_55, s70_58, s70_58v, s70_59, s70_62, s70_65, s70_68, hM.t100, hM.t101, hM.r100_0, hM.r101_0, hM.w102.t0, v_s, fg, hp, v, n3, kl_i, kl_r, kl_l, kl_n, kl_z, bd_s, tl_s, tl_n, ap_c, ap_n, v_s, v_n, nd_1, nd_0, ct13, eq_self, iI_add, iI_sub, iI_mul, iI_nat, iI_eq, iI_lt, iI_le, iI_eq0, iI_lt0, ↓reduceIte, if_true, if_false, not_true_eq_false, not_false_eq_true, true_and, and_true, false_and, and_false, true_or, or_true, false_or, or_false, Int.reduceLT, Int.reduceLE, Int.reduceEq, Int.reduceAdd, Int.reduceSub, Int.reduceMul, Nat.reduceAdd, Nat.reduceLT, Nat.reduceEqDiff, Int.reduceNeg, nc_s, nc_0, Int.zero_add, Int.add_zero, oI_r, oI_w, oI_f0, oI_g0, oI_f1, oI_g1, oI_f2, oI_g2, oI_f3, oI_g3, oI_f4, oI_g4, oI_f5, oI_g5, oI_f6, oI_g6, oI_f7, oI_g7, oI_f8, oI_g8, oI_f9, oI_g9, oI_f10, oI_g10, oI_f11, oI_g11, oI_f12, oI_g12, oI_f13, oI_g13, oI_f14, oI_g14, oI_f15, oI_g15, oI_f16, oI_g16, oI_f17, oI_g17, oI_f18, oI_g18, oI_f19, oI_g19, oI_f20, oI_g20, oI_f21, oI_g21, oI_f22, oI_g22, oI_f23, oI_g23, oI_f24, oI_g24, oI_f25, oI_g25, ur_r, ur_o, ur_s, up_r, up_o, up_s, jI_add, jI_sub, jI_mul, jI_neg, jI_i, jI_n, lgc_j, cj_lt, cj_ge, cj_gt, cj_le, cj_eq, oL_r, oL_w, oL_f6, oL_g6, oL_f7, oL_g7, oL_f17, oL_g17, oL_f18, oL_g18, dl_T, dl_F, de_T, de_F, dle_T, dle_F, iI_divn, rem_n, nd_v, ct_s, Bool.false_eq_true]
    · obtain ⟨w1, w2, w3, w4, w5, w6, w7, w8⟩ := hR3
      unfold goS
      rw [if_neg (by omega), if_neg (by omega), if_neg (by omega)]
      refine ⟨fun j hj => ?_, fun p hp => ?_, ?_, ?_, w8⟩
      · rw [w1 j hj]; simp (disch := omega) only [up_o]
      · rw [w2 p hp]; unfold dOf; simp (disch := omega) only [up_o]
      · rw [w3]; simp (disch := omega) only [up_o]
      · rw [w4]; simp (disch := omega) only [up_o]
    · rw [f3 _ (by omega) (by omega) (by omega) (by omega) (by unfold tpl at x7; omega), f1 _ (by omega)]; exact hz k hk j hj
  · have e1 : goS (tokL cs) S s = S := by unfold goS; repeat' split
                                          all_goals first | rfl | omega
    rw [e1]
    refine ⟨J, ?_, wF.i, h⟩
    unfold goV
    (simp (disch := first | omega | exact hJ _ _ | exact rJ_g hJ _ _ | (simp (disch := omega) only [ur_r, ur_o, up_r, up_o]; omega) | assumption) only [s70_0, b70_1, s70_4, s70_5, b70_6, s70_9, s70_12, s70_13, s70_13v, s70_14, s70_17, s70_20, s70_23, b70_26, s70_29, s70_32, c70, hM.t100, hM.t101, hM.r100_0, hM.r101_0, hM.w102.t0, v_s, n3, kl_i, kl_r, kl_l, kl_n, kl_z, bd_s, tl_s, tl_n, ap_c, ap_n, v_s, v_n, nd_1, nd_0, ct13, eq_self, iI_add, iI_sub, iI_mul, iI_nat, iI_eq, iI_lt, iI_le, iI_eq0, iI_lt0, ↓reduceIte, if_true, if_false, not_true_eq_false, not_false_eq_true, true_and, and_true, false_and, and_false, true_or, or_true, false_or, or_false, Int.reduceLT, Int.reduceLE, Int.reduceEq, Int.reduceAdd, Int.reduceSub, Int.reduceMul, Nat.reduceAdd, Nat.reduceLT, Nat.reduceEqDiff, Int.reduceNeg, nc_s, nc_0, Int.zero_add, Int.add_zero, oI_r, oI_w, oI_f0, oI_g0, oI_f1, oI_g1, oI_f2, oI_g2, oI_f3, oI_g3, oI_f4, oI_g4, oI_f5, oI_g5, oI_f6, oI_g6, oI_f7, oI_g7, oI_f8, oI_g8, oI_f9, oI_g9, oI_f10, oI_g10, oI_f11, oI_g11, oI_f12, oI_g12, oI_f13, oI_g13, oI_f14, oI_g14, oI_f15, oI_g15, oI_f16, oI_g16, oI_f17, oI_g17, oI_f18, oI_g18, oI_f19, oI_g19, oI_f20, oI_g20, oI_f21, oI_g21, oI_f22, oI_g22, oI_f23, oI_g23, oI_f24, oI_g24, oI_f25, oI_g25, ur_r, ur_o, ur_s, up_r, up_o, up_s, jI_add, jI_sub, jI_mul, jI_neg, jI_i, jI_n, lgc_j, cj_lt, cj_ge, cj_gt, cj_le, cj_eq, oL_r, oL_w, oL_f6, oL_g6, oL_f7, oL_g7, oL_f17, oL_g17, oL_f18, oL_g18, dl_T, dl_F, de_T, de_F, dle_T, dle_F, iI_divn, rem_n, nd_v, ct_s, Bool.false_eq_true]; repeat' (split <;> (try simp (disch := first | omega | exact hJ _ _ | exact rJ_g hJ _ _ | (simp (disch := omega) only [ur_r, ur_o, up_r, up_o]; omega) | assumption) only [s70_0, b70_1, s70_4, s70_5, b70_6, s70_9, s70_12, s70_13, s70_13v, s70_14, s70_17, s70_20, s70_23, b70_26, s70_29, s70_32, c70, hM.t100, hM.t101, hM.r100_0, hM.r101_0, hM.w102.t0, v_s, n3, kl_i, kl_r, kl_l, kl_n, kl_z, bd_s, tl_s, tl_n, ap_c, ap_n, v_s, v_n, nd_1, nd_0, ct13, eq_self, iI_add, iI_sub, iI_mul, iI_nat, iI_eq, iI_lt, iI_le, iI_eq0, iI_lt0, ↓reduceIte, if_true, if_false, not_true_eq_false, not_false_eq_true, true_and, and_true, false_and, and_false, true_or, or_true, false_or, or_false, Int.reduceLT, Int.reduceLE, Int.reduceEq, Int.reduceAdd, Int.reduceSub, Int.reduceMul, Nat.reduceAdd, Nat.reduceLT, Nat.reduceEqDiff, Int.reduceNeg, nc_s, nc_0, Int.zero_add, Int.add_zero, oI_r, oI_w, oI_f0, oI_g0, oI_f1, oI_g1, oI_f2, oI_g2, oI_f3, oI_g3, oI_f4, oI_g4, oI_f5, oI_g5, oI_f6, oI_g6, oI_f7, oI_g7, oI_f8, oI_g8, oI_f9, oI_g9, oI_f10, oI_g10, oI_f11, oI_g11, oI_f12, oI_g12, oI_f13, oI_g13, oI_f14, oI_g14, oI_f15, oI_g15, oI_f16, oI_g16, oI_f17, oI_g17, oI_f18, oI_g18, oI_f19, oI_g19, oI_f20, oI_g20, oI_f21, oI_g21, oI_f22, oI_g22, oI_f23, oI_g23, oI_f24, oI_g24, oI_f25, oI_g25, ur_r, ur_o, ur_s, up_r, up_o, up_s, jI_add, jI_sub, jI_mul, jI_neg, jI_i, jI_n, lgc_j, cj_lt, cj_ge, cj_gt, cj_le, cj_eq, oL_r, oL_w, oL_f6, oL_g6, oL_f7, oL_g7, oL_f17, oL_g17, oL_f18, oL_g18, dl_T, dl_F, de_T, de_F, dle_T, dle_F, iI_divn, rem_n, nd_v, ct_s, Bool.false_eq_true])))
theorem ga_c {V W : Int → Int} (h : ∀ j, 0 ≤ j ∧ j < 4 → V j = W j) : gaS V = gaS W ∧ laS V = laS W := by
  unfold gaS laS
  rw [h 0 (by omega), h 1 (by omega), h 2 (by omega), h 3 (by omega)]
  simp only []
  constructor <;> (repeat' split) <;> simp_all
theorem ca_c {V W : Int → Int} (h : ∀ j, 0 ≤ j ∧ j < 4 → V j = W j) (x : Int) : caN V x = caN W x ∧ (∀ j, 0 ≤ j ∧ j < 4 → caS V x j = caS W x j) := by
  obtain ⟨g, l⟩ := ga_c h
  have r1 := gaS_r W
  have r2 := laS_r W
  have e : caN V x = caN W x := by
    unfold caN
    rw [g, l, h _ r1, h _ r2]
  refine ⟨e, fun j hj => ?_⟩
  unfold caS
  rw [g, l, e, h _ r1, h _ r2]
  split
  · exact h j hj
  · unfold up
    repeat' split
    all_goals first | rfl | exact h j hj
theorem ca_o (V : Int → Int) (x j : Int) (hj : 4 ≤ j) : caS V x j = V j := by
  have r1 := gaS_r V
  have r2 := laS_r V
  unfold caS
  split
  · rfl
  · rw [up_o (by omega), up_o (by omega)]
theorem c_cart (hM : cM T R) (ho : oR (tokL cs) S) (h : cS T R J t cs S) : ∃ J' : mR, rn_c (d + 20) 79 [.ref 100] (T, oI J, L, R, z, w) = some (some (.int (iI (caN S (tlS S 230 2)))), (T, oI J', L, R, z, w)) ∧ wF t J J' ∧ cS T R J' t cs (caS S (tlS S 230 2)) := by
  obtain ⟨hX, ⟨n1, n2, n3, n4, n5⟩, hz⟩ := id h
  obtain ⟨x1, x2, x3, x4, x5, x6, x7⟩ := id hX
  have hT := ho.2.2.2.1
  have mv := w_moveCart (d := d + 18) (J := J) (L := L) (R := R) (z := z) (w := w) hM.w102 (fun j hj => by rw [n1 j hj]; exact ho.1.2.1 j hj) (tlS S 230 2) hT.2.2.2
  obtain ⟨e1, e2⟩ := ca_c n1 (tlS S 230 2)
  simp only [Nat.reduceAdd] at mv
  rw [e1] at mv
  have px : sx S (caS S (tlS S 230 2)) := fun j hj => ca_o S _ j (by omega)
  have fx : wF t J (ur J 103 (caS (J 103) (tlS S 230 2))) := fun b b1 b2 b3 => ur_o (by omega)
  have hk : tpl t := x7
  unfold tpl at hk
  refine ⟨ur J 103 (caS (J 103) (tlS S 230 2)), ?_, fx, cX_x hX hM fx (fun j j0 j5 => by rw [ur_o (by omega)]; exact x1.2.2.2.2.2.2 j j0 j5) px hT, ⟨fun j hj => ?_, fun p hp => ?_, ?_, ?_, fun j hj => ?_⟩, fun k hk j hj => ?_⟩
  · simp (disch := first | omega | exact hJ _ _ | exact rJ_g hJ _ _ | (simp (disch := omega) only [ur_r, ur_o, up_r, up_o]; omega) | assumption) only [c79, s79_0, s79_0v, s79_1, s79_4, s79_7, s79_7v, s79_8, s79_11, s79_14, s79_17, s79_20, hM.t100, hM.t101, hM.r100_0, hM.r101_0, hM.w102.t0, v_s, x2, x1.1.1, x6, mv, kl_i, kl_r, kl_l, kl_n, kl_z, bd_s, tl_s, tl_n, ap_c, ap_n, v_s, v_n, nd_1, nd_0, ct13, eq_self, iI_add, iI_sub, iI_mul, iI_nat, iI_eq, iI_lt, iI_le, iI_eq0, iI_lt0, ↓reduceIte, if_true, if_false, not_true_eq_false, not_false_eq_true, true_and, and_true, false_and, and_false, true_or, or_true, false_or, or_false, Int.reduceLT, Int.reduceLE, Int.reduceEq, Int.reduceAdd, Int.reduceSub, Int.reduceMul, Nat.reduceAdd, Nat.reduceLT, Nat.reduceEqDiff, Int.reduceNeg, nc_s, nc_0, Int.zero_add, Int.add_zero, oI_r, oI_w, oI_f0, oI_g0, oI_f1, oI_g1, oI_f2, oI_g2, oI_f3, oI_g3, oI_f4, oI_g4, oI_f5, oI_g5, oI_f6, oI_g6, oI_f7, oI_g7, oI_f8, oI_g8, oI_f9, oI_g9, oI_f10, oI_g10, oI_f11, oI_g11, oI_f12, oI_g12, oI_f13, oI_g13, oI_f14, oI_g14, oI_f15, oI_g15, oI_f16, oI_g16, oI_f17, oI_g17, oI_f18, oI_g18, oI_f19, oI_g19, oI_f20, oI_g20, oI_f21, oI_g21, oI_f22, oI_g22, oI_f23, oI_g23, oI_f24, oI_g24, oI_f25, oI_g25, ur_r, ur_o, ur_s, up_r, up_o, up_s, jI_add, jI_sub, jI_mul, jI_neg, jI_i, jI_n, lgc_j, cj_lt, cj_ge, cj_gt, cj_le, cj_eq, oL_r, oL_w, oL_f6, oL_g6, oL_f7, oL_g7, oL_f17, oL_g17, oL_f18, oL_g18, dl_T, dl_F, de_T, de_F, dle_T, dle_F, iI_divn, rem_n, nd_v, ct_s, Bool.false_eq_true]
  · rw [ur_r]; exact e2 j hj
  · rw [ur_o (by omega), n2 p hp]; unfold dOf; rw [ca_o S _ _ (by omega), ca_o S _ _ (by omega), ca_o S _ _ (by omega)]
  · rw [ur_o (by omega), n3, ca_o S _ _ (by omega)]
  · rw [ur_o (by omega), n4, ca_o S _ _ (by omega)]
  · rw [ur_o (by omega)]; exact n5 j hj
  · rw [ur_o (by omega)]; exact hz k hk j hj
end CQ2
