/-! the class: loses -/
section LF
variable {d : Nat} {T : Nat → Nat × Nat} {L : Nat → Nat → Int64} {R : Nat → Nat → Option Nat} {z w : Nat} {J : mR} {t : Nat}
theorem lo_loop (h : tc T R t) (sky hour p q u : Int) (hh : 0 ≤ hour ∧ hour < 2000) (hs : i32 sky) (hp : i32 p) (hq : i32 q) (hu : i32 u) (h7 : J t 7 ≤ 10) (h9 : J t 9 ≤ 120) : ∀ (cs : List CL) (ps k : Int) (F : Int → Int) (l7 : Option Value), wfL cs → loR J t cs ps k → 0 ≤ ps → 0 ≤ k → (∀ j, 0 ≤ j → j < 5 → i32 (F j)) → ∃ F' : Int → Int, (∀ j, 0 ≤ j → j < 5 → i32 (F' j)) ∧ rn_r (d + 3) 23 3 [some (.ref t), some (.int (iI hour)), some (.int (iI sky)), some (.int (iI p)), some (.int (iI q)), some (.int (iI u)), some (.int (iI k)), l7] [] (T, oI (ur J (t + 6) F), L, R, z, w) = some (some (.int (iI (lsC (knB sky hour p q u) hour cs))), (T, oI (ur J (t + 6) F'), L, R, z, w)) := by
  intro cs
  induction cs with
  | nil =>
    intro ps k F l7 _ hl h0 hk hF
    have e7 := hl.1
    refine ⟨F, hF, ?_⟩
    simp only [lsC]
    simp (disch := first | omega | exact hJ _ _ | exact rJ_g hJ _ _ | (simp (disch := omega) only [ur_r, ur_o, up_r, up_o]; omega) | assumption) only [s23_3, s23_5, s23_5v, s23_6, b23_9, s23_78, s23_79, h.1, e7, kl_i, kl_r, kl_l, kl_n, kl_z, bd_s, tl_s, tl_n, ap_c, ap_n, v_s, v_n, nd_1, nd_0, ct13, eq_self, iI_add, iI_sub, iI_mul, iI_nat, iI_eq, iI_lt, iI_le, iI_eq0, iI_lt0, ↓reduceIte, if_true, if_false, not_true_eq_false, not_false_eq_true, true_and, and_true, false_and, and_false, true_or, or_true, false_or, or_false, Int.reduceLT, Int.reduceLE, Int.reduceEq, Int.reduceAdd, Int.reduceSub, Int.reduceMul, Nat.reduceAdd, Nat.reduceLT, Nat.reduceEqDiff, Int.reduceNeg, nc_s, nc_0, Int.zero_add, Int.add_zero, oI_r, oI_w, oI_f0, oI_g0, oI_f1, oI_g1, oI_f2, oI_g2, oI_f3, oI_g3, oI_f4, oI_g4, oI_f5, oI_g5, oI_f6, oI_g6, oI_f7, oI_g7, oI_f8, oI_g8, oI_f9, oI_g9, oI_f10, oI_g10, oI_f11, oI_g11, oI_f12, oI_g12, oI_f13, oI_g13, oI_f14, oI_g14, oI_f15, oI_g15, oI_f16, oI_g16, oI_f17, oI_g17, oI_f18, oI_g18, oI_f19, oI_g19, oI_f20, oI_g20, oI_f21, oI_g21, oI_f22, oI_g22, oI_f23, oI_g23, oI_f24, oI_g24, oI_f25, oI_g25, ur_r, ur_o, ur_s, up_r, up_o, up_s, jI_add, jI_sub, jI_mul, jI_neg, jI_i, jI_n, lgc_j, cj_lt, cj_ge, cj_gt, cj_le, cj_eq, oL_r, oL_w, oL_f6, oL_g6, oL_f7, oL_g7, oL_f17, oL_g17, oL_f18, oL_g18, dl_T, dl_F, de_T, de_F, dle_T, dle_F, iI_divn, rem_n, nd_v, ct_s, Bool.false_eq_true]
  | cons c cs ih =>
    intro ps k F l7 hw hl h0 hk hF
    have hc := hw c (List.mem_cons_self ..)
    have hcs : wfL cs := fun q hq => hw q (List.mem_cons_of_mem _ hq)
    unfold loR at hl
    by_cases k0 : c.1 = 0
    · rw [if_pos k0] at hl
      obtain ⟨F', a1, a2⟩ := ih (ps + (c.2.2.length : Int)) k F l7 hcs hl.2 (by omega) hk hF
      refine ⟨F', a1, ?_⟩
      rw [a2]
      simp only [lsC]
      rw [if_neg (by omega : ¬ c.1 = 3)]
    rw [if_neg k0] at hl
    by_cases k3 : c.1 = 3
    · rw [if_pos k3] at hl
      obtain ⟨l1, l2, l3, l4, l5⟩ := hl
      obtain ⟨_, ⟨n0, n9⟩, hv⟩ := hc
      have hv := hv (Or.inr k3)
      have kk := loR_k J t cs _ _ l5
      have hk7 : k < J t 7 := by omega
      simp only [lsC, if_pos k3]
      by_cases m0 : c.2.1 ≤ 0
      · obtain ⟨F', a1, a2⟩ := ih (ps + (c.2.2.length : Int)) (k + 1) F (some (.int (iI c.2.1))) hcs l5 (by omega) (by omega) hF
        refine ⟨F', a1, ?_⟩
        have e : (if evV (knB sky hour p q u) c.2.2 = 0 then lsC (knB sky hour p q u) hour cs else if c.2.1 ≤ 0 then lsC (knB sky hour p q u) hour cs else if (hour + 1) % c.2.1 = 0 then 1 else lsC (knB sky hour p q u) hour cs) = lsC (knB sky hour p q u) hour cs := by
          rw [if_pos m0]; split <;> rfl
        rw [e]
        refine Eq.trans ?_ ((s23_75 ..).trans a2)
        simp (disch := first | omega | exact hJ _ _ | exact rJ_g hJ _ _ | (simp (disch := omega) only [ur_r, ur_o, up_r, up_o]; omega) | assumption) only [s23_3, s23_5, s23_5v, s23_6, b23_9, s23_12, s23_12v, s23_13, s23_16, s23_18, s23_19, s23_21, b23_23, s23_26, s23_27, s23_28, s23_29, s23_31, b23_32, s23_35, s23_35v, s23_36, s23_37, s23_38, s23_40, s23_41, s23_42, s23_44, s23_46, s23_49, s23_49v, s23_50, s23_50v, s23_51, s23_54, s23_56, s23_57, s23_57v, s23_58, s23_61, s23_63, s23_64, b23_67, s23_70, s23_71, s23_72, h.1, h.r4, h.a2, l2, kl_i, kl_r, kl_l, kl_n, kl_z, bd_s, tl_s, tl_n, ap_c, ap_n, v_s, v_n, nd_1, nd_0, ct13, eq_self, iI_add, iI_sub, iI_mul, iI_nat, iI_eq, iI_lt, iI_le, iI_eq0, iI_lt0, ↓reduceIte, if_true, if_false, not_true_eq_false, not_false_eq_true, true_and, and_true, false_and, and_false, true_or, or_true, false_or, or_false, Int.reduceLT, Int.reduceLE, Int.reduceEq, Int.reduceAdd, Int.reduceSub, Int.reduceMul, Nat.reduceAdd, Nat.reduceLT, Nat.reduceEqDiff, Int.reduceNeg, nc_s, nc_0, Int.zero_add, Int.add_zero, oI_r, oI_w, oI_f0, oI_g0, oI_f1, oI_g1, oI_f2, oI_g2, oI_f3, oI_g3, oI_f4, oI_g4, oI_f5, oI_g5, oI_f6, oI_g6, oI_f7, oI_g7, oI_f8, oI_g8, oI_f9, oI_g9, oI_f10, oI_g10, oI_f11, oI_g11, oI_f12, oI_g12, oI_f13, oI_g13, oI_f14, oI_g14, oI_f15, oI_g15, oI_f16, oI_g16, oI_f17, oI_g17, oI_f18, oI_g18, oI_f19, oI_g19, oI_f20, oI_g20, oI_f21, oI_g21, oI_f22, oI_g22, oI_f23, oI_g23, oI_f24, oI_g24, oI_f25, oI_g25, ur_r, ur_o, ur_s, up_r, up_o, up_s, jI_add, jI_sub, jI_mul, jI_neg, jI_i, jI_n, lgc_j, cj_lt, cj_ge, cj_gt, cj_le, cj_eq, oL_r, oL_w, oL_f6, oL_g6, oL_f7, oL_g7, oL_f17, oL_g17, oL_f18, oL_g18, dl_T, dl_F, de_T, de_F, dle_T, dle_F, iI_divn, rem_n, nd_v, ct_s, Bool.false_eq_true]
      · by_cases m1 : (hour + 1) % c.2.1 = 0
        · have hF2 : ∀ j, 0 ≤ j → j < 5 → i32 (lkB F sky hour p q u j) := by
            intro j j0 j5
            unfold lkB
            have e0 := hF j j0 j5
            unfold up
            repeat' split
            all_goals first | assumption | omega
          have hF3 : ∀ j, 0 ≤ j → j < 5 → i32 (ur J (t + 6) (lkB F sky hour p q u) (t + 6) j) := by
            intro j j0 j5; rw [ur_r]; exact hF2 j j0 j5
          obtain ⟨x01, ho⟩ := t_holds (d := d + 1) (L := L) (z := z) (w := w) (J := ur J (t + 6) (lkB F sky hour p q u)) h hF3 ps c.2.2 hv (by rw [ur_o (by omega)]; exact l1) h0 (by omega)
          rw [ur_r] at x01 ho
          have ex : evV (lkB F sky hour p q u) c.2.2 = evV (knB sky hour p q u) c.2.2 := evV_B (fun j j0 j5 => lkB_same F _ _ _ _ _ _ j ⟨j0, j5⟩) hv
          rw [ex] at x01 ho
          have lay := t_layFacts (d := d + 2) (L := L) (z := z) (w := w) (J := ur J (t + 6) F) h sky (hour % 24) p q u
          rw [ur_r, ur_s] at lay
          have elk : up (up (up (up (up F 0 sky) 1 (hour % 24)) 2 p) 3 q) 4 u = lkB F sky hour p q u := rfl
          rw [elk] at lay
          rcases x01 with x0 | x1
          · rw [if_pos x0]
            rw [x0] at ho
            obtain ⟨F', a1, a2⟩ := ih (ps + (c.2.2.length : Int)) (k + 1) (lkB F sky hour p q u) (some (.int (iI c.2.1))) hcs l5 (by omega) (by omega) hF2
            refine ⟨F', a1, ?_⟩
            refine Eq.trans ?_ ((s23_75 ..).trans a2)
            simp (disch := first | omega | exact hJ _ _ | exact rJ_g hJ _ _ | (simp (disch := omega) only [ur_r, ur_o, up_r, up_o]; omega) | assumption) only [s23_3, s23_5, s23_5v, s23_6, b23_9, s23_12, s23_12v, s23_13, s23_16, s23_18, s23_19, s23_21, b23_23, s23_26, s23_27, s23_28, s23_29, s23_31, b23_32, s23_35, s23_35v, s23_36, s23_37, s23_38, s23_40, s23_41, s23_42, s23_44, s23_46, s23_49, s23_49v, s23_50, s23_50v, s23_51, s23_54, s23_56, s23_57, s23_57v, s23_58, s23_61, s23_63, s23_64, b23_67, s23_70, s23_71, s23_72, h.1, h.r4, h.r5, h.r6, h.a2, h.a3, h.a4, l2, l3, l4, m1, lay, ho, kl_i, kl_r, kl_l, kl_n, kl_z, bd_s, tl_s, tl_n, ap_c, ap_n, v_s, v_n, nd_1, nd_0, ct13, eq_self, iI_add, iI_sub, iI_mul, iI_nat, iI_eq, iI_lt, iI_le, iI_eq0, iI_lt0, ↓reduceIte, if_true, if_false, not_true_eq_false, not_false_eq_true, true_and, and_true, false_and, and_false, true_or, or_true, false_or, or_false, Int.reduceLT, Int.reduceLE, Int.reduceEq, Int.reduceAdd, Int.reduceSub, Int.reduceMul, Nat.reduceAdd, Nat.reduceLT, Nat.reduceEqDiff, Int.reduceNeg, nc_s, nc_0, Int.zero_add, Int.add_zero, oI_r, oI_w, oI_f0, oI_g0, oI_f1, oI_g1, oI_f2, oI_g2, oI_f3, oI_g3, oI_f4, oI_g4, oI_f5, oI_g5, oI_f6, oI_g6, oI_f7, oI_g7, oI_f8, oI_g8, oI_f9, oI_g9, oI_f10, oI_g10, oI_f11, oI_g11, oI_f12, oI_g12, oI_f13, oI_g13, oI_f14, oI_g14, oI_f15, oI_g15, oI_f16, oI_g16, oI_f17, oI_g17, oI_f18, oI_g18, oI_f19, oI_g19, oI_f20, oI_g20, oI_f21, oI_g21, oI_f22, oI_g22, oI_f23, oI_g23, oI_f24, oI_g24, oI_f25, oI_g25, ur_r, ur_o, ur_s, up_r, up_o, up_s, jI_add, jI_sub, jI_mul, jI_neg, jI_i, jI_n, lgc_j, cj_lt, cj_ge, cj_gt, cj_le, cj_eq, oL_r, oL_w, oL_f6, oL_g6, oL_f7, oL_g7, oL_f17, oL_g17, oL_f18, oL_g18, dl_T, dl_F, de_T, de_F, dle_T, dle_F, iI_divn, rem_n, nd_v, ct_s, Bool.false_eq_true]
          · rw [if_neg (by omega), if_neg m0, if_pos m1]
            rw [x1] at ho
            refine ⟨lkB F sky hour p q u, hF2, ?_⟩
            simp (disch := first | omega | exact hJ _ _ | exact rJ_g hJ _ _ | (simp (disch := omega) only [ur_r, ur_o, up_r, up_o]; omega) | assumption) only [s23_3, s23_5, s23_5v, s23_6, b23_9, s23_12, s23_12v, s23_13, s23_16, s23_18, s23_19, s23_21, b23_23, s23_26, s23_27, s23_28, s23_29, s23_31, b23_32, s23_35, s23_35v, s23_36, s23_37, s23_38, s23_40, s23_41, s23_42, s23_44, s23_46, s23_49, s23_49v, s23_50, s23_50v, s23_51, s23_54, s23_56, s23_57, s23_57v, s23_58, s23_61, s23_63, s23_64, b23_67, s23_70, s23_71, s23_72, h.1, h.r4, h.r5, h.r6, h.a2, h.a3, h.a4, l2, l3, l4, m1, lay, ho, kl_i, kl_r, kl_l, kl_n, kl_z, bd_s, tl_s, tl_n, ap_c, ap_n, v_s, v_n, nd_1, nd_0, ct13, eq_self, iI_add, iI_sub, iI_mul, iI_nat, iI_eq, iI_lt, iI_le, iI_eq0, iI_lt0, ↓reduceIte, if_true, if_false, not_true_eq_false, not_false_eq_true, true_and, and_true, false_and, and_false, true_or, or_true, false_or, or_false, Int.reduceLT, Int.reduceLE, Int.reduceEq, Int.reduceAdd, Int.reduceSub, Int.reduceMul, Nat.reduceAdd, Nat.reduceLT, Nat.reduceEqDiff, Int.reduceNeg, nc_s, nc_0, Int.zero_add, Int.add_zero, oI_r, oI_w, oI_f0, oI_g0, oI_f1, oI_g1, oI_f2, oI_g2, oI_f3, oI_g3, oI_f4, oI_g4, oI_f5, oI_g5, oI_f6, oI_g6, oI_f7, oI_g7, oI_f8, oI_g8, oI_f9, oI_g9, oI_f10, oI_g10, oI_f11, oI_g11, oI_f12, oI_g12, oI_f13, oI_g13, oI_f14, oI_g14, oI_f15, oI_g15, oI_f16, oI_g16, oI_f17, oI_g17, oI_f18, oI_g18, oI_f19, oI_g19, oI_f20, oI_g20, oI_f21, oI_g21, oI_f22, oI_g22, oI_f23, oI_g23, oI_f24, oI_g24, oI_f25, oI_g25, ur_r, ur_o, ur_s, up_r, up_o, up_s, jI_add, jI_sub, jI_mul, jI_neg, jI_i, jI_n, lgc_j, cj_lt, cj_ge, cj_gt, cj_le, cj_eq, oL_r, oL_w, oL_f6, oL_g6, oL_f7, oL_g7, oL_f17, oL_g17, oL_f18, oL_g18, dl_T, dl_F, de_T, de_F, dle_T, dle_F, iI_divn, rem_n, nd_v, ct_s, Bool.false_eq_true]
        · obtain ⟨F', a1, a2⟩ := ih (ps + (c.2.2.length : Int)) (k + 1) F (some (.int (iI c.2.1))) hcs l5 (by omega) (by omega) hF
          refine ⟨F', a1, ?_⟩
          have e : (if evV (knB sky hour p q u) c.2.2 = 0 then lsC (knB sky hour p q u) hour cs else if c.2.1 ≤ 0 then lsC (knB sky hour p q u) hour cs else if (hour + 1) % c.2.1 = 0 then 1 else lsC (knB sky hour p q u) hour cs) = lsC (knB sky hour p q u) hour cs := by
            rw [if_neg m0, if_neg m1]; split <;> rfl
          rw [e]
          have mr := Int.emod_nonneg (hour + 1) (show c.2.1 ≠ 0 by omega)
          have mr2 := Int.emod_lt_of_pos (hour + 1) (show 0 < c.2.1 by omega)
          refine Eq.trans ?_ ((s23_75 ..).trans a2)
          simp (disch := first | omega | exact hJ _ _ | exact rJ_g hJ _ _ | (simp (disch := omega) only [ur_r, ur_o, up_r, up_o]; omega) | assumption) only [s23_3, s23_5, s23_5v, s23_6, b23_9, s23_12, s23_12v, s23_13, s23_16, s23_18, s23_19, s23_21, b23_23, s23_26, s23_27, s23_28, s23_29, s23_31, b23_32, s23_35, s23_35v, s23_36, s23_37, s23_38, s23_40, s23_41, s23_42, s23_44, s23_46, s23_49, s23_49v, s23_50, s23_50v, s23_51, s23_54, s23_56, s23_57, s23_57v, s23_58, s23_61, s23_63, s23_64, b23_67, s23_70, s23_71, s23_72, h.1, h.r4, h.a2, l2, kl_i, kl_r, kl_l, kl_n, kl_z, bd_s, tl_s, tl_n, ap_c, ap_n, v_s, v_n, nd_1, nd_0, ct13, eq_self, iI_add, iI_sub, iI_mul, iI_nat, iI_eq, iI_lt, iI_le, iI_eq0, iI_lt0, ↓reduceIte, if_true, if_false, not_true_eq_false, not_false_eq_true, true_and, and_true, false_and, and_false, true_or, or_true, false_or, or_false, Int.reduceLT, Int.reduceLE, Int.reduceEq, Int.reduceAdd, Int.reduceSub, Int.reduceMul, Nat.reduceAdd, Nat.reduceLT, Nat.reduceEqDiff, Int.reduceNeg, nc_s, nc_0, Int.zero_add, Int.add_zero, oI_r, oI_w, oI_f0, oI_g0, oI_f1, oI_g1, oI_f2, oI_g2, oI_f3, oI_g3, oI_f4, oI_g4, oI_f5, oI_g5, oI_f6, oI_g6, oI_f7, oI_g7, oI_f8, oI_g8, oI_f9, oI_g9, oI_f10, oI_g10, oI_f11, oI_g11, oI_f12, oI_g12, oI_f13, oI_g13, oI_f14, oI_g14, oI_f15, oI_g15, oI_f16, oI_g16, oI_f17, oI_g17, oI_f18, oI_g18, oI_f19, oI_g19, oI_f20, oI_g20, oI_f21, oI_g21, oI_f22, oI_g22, oI_f23, oI_g23, oI_f24, oI_g24, oI_f25, oI_g25, ur_r, ur_o, ur_s, up_r, up_o, up_s, jI_add, jI_sub, jI_mul, jI_neg, jI_i, jI_n, lgc_j, cj_lt, cj_ge, cj_gt, cj_le, cj_eq, oL_r, oL_w, oL_f6, oL_g6, oL_f7, oL_g7, oL_f17, oL_g17, oL_f18, oL_g18, dl_T, dl_F, de_T, de_F, dle_T, dle_F, iI_divn, rem_n, nd_v, ct_s, Bool.false_eq_true]
    · rw [if_neg k3] at hl
      obtain ⟨F', a1, a2⟩ := ih ps k F l7 hcs hl h0 hk hF
      refine ⟨F', a1, ?_⟩
      rw [a2]
      simp only [lsC]
      rw [if_neg k3]
/-- a town of the class is these clauses -/
def tk (T : Nat → Nat × Nat) (R : Nat → Nat → Option Nat) (J : mR) (t : Nat) (cs : List CL) : Prop := tc T R t ∧ wfL cs ∧ trn J t (tokL cs) ∧ loR J t cs 0 0 ∧ J t 7 ≤ 10 ∧ J t 9 ≤ 120 ∧ (∀ j, 0 ≤ j → j < 5 → i32 (J (t + 6) j))
theorem t_loses {cs : List CL} (h : tk T R J t cs) (sky hour p q u : Int) (hh : 0 ≤ hour ∧ hour < 2000) (hs : i32 sky) (hp : i32 p) (hq : i32 q) (hu : i32 u) : ∃ F : Int → Int, (∀ j, 0 ≤ j → j < 5 → i32 (F j)) ∧ rn_c (d + 3) 23 [.ref t, .int (iI hour), .int (iI sky), .int (iI p), .int (iI q), .int (iI u)] (T, oI J, L, R, z, w) = some (some (.int (iI (lostS (tokL cs) sky hour p q u))), (T, oI (ur J (t + 6) F), L, R, z, w)) := by
  obtain ⟨h1, h2, h3, h4, h5, h6, h7⟩ := h
  obtain ⟨F, a1, a2⟩ := lo_loop (d := d) (L := L) (z := z) (w := w) h1 sky hour p q u hh hs hp hq hu h5 h6 cs 0 0 (J (t + 6)) none h2 h4 (by omega) (by omega) h7
  have el : lostS (tokL cs) sky hour p q u = lsC (knB sky hour p q u) hour cs := by unfold lostS; rw [lkRes_C h2]
  rw [ur_e] at a2
  refine ⟨F, a1, ?_⟩
  rw [el]
  refine Eq.trans ?_ a2
  simp (disch := first | omega | exact hJ _ _ | exact rJ_g hJ _ _ | (simp (disch := omega) only [ur_r, ur_o, up_r, up_o]; omega) | assumption) only [c23, s23_0, s23_1, kl_i, kl_r, kl_l, kl_n, kl_z, bd_s, tl_s, tl_n, ap_c, ap_n, v_s, v_n, nd_1, nd_0, ct13, eq_self, iI_add, iI_sub, iI_mul, iI_nat, iI_eq, iI_lt, iI_le, iI_eq0, iI_lt0, ↓reduceIte, if_true, if_false, not_true_eq_false, not_false_eq_true, true_and, and_true, false_and, and_false, true_or, or_true, false_or, or_false, Int.reduceLT, Int.reduceLE, Int.reduceEq, Int.reduceAdd, Int.reduceSub, Int.reduceMul, Nat.reduceAdd, Nat.reduceLT, Nat.reduceEqDiff, Int.reduceNeg, nc_s, nc_0, Int.zero_add, Int.add_zero, oI_r, oI_w, oI_f0, oI_g0, oI_f1, oI_g1, oI_f2, oI_g2, oI_f3, oI_g3, oI_f4, oI_g4, oI_f5, oI_g5, oI_f6, oI_g6, oI_f7, oI_g7, oI_f8, oI_g8, oI_f9, oI_g9, oI_f10, oI_g10, oI_f11, oI_g11, oI_f12, oI_g12, oI_f13, oI_g13, oI_f14, oI_g14, oI_f15, oI_g15, oI_f16, oI_g16, oI_f17, oI_g17, oI_f18, oI_g18, oI_f19, oI_g19, oI_f20, oI_g20, oI_f21, oI_g21, oI_f22, oI_g22, oI_f23, oI_g23, oI_f24, oI_g24, oI_f25, oI_g25, ur_r, ur_o, ur_s, up_r, up_o, up_s, jI_add, jI_sub, jI_mul, jI_neg, jI_i, jI_n, lgc_j, cj_lt, cj_ge, cj_gt, cj_le, cj_eq, oL_r, oL_w, oL_f6, oL_g6, oL_f7, oL_g7, oL_f17, oL_g17, oL_f18, oL_g18, dl_T, dl_F, de_T, de_F, dle_T, dle_F, iI_divn, rem_n, nd_v, ct_s, Bool.false_eq_true]
end LF
