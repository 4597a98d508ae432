/-! the class: weigh, beginThought -/
section CU
variable {d : Nat} {T : Nat → Nat × Nat} {L : Nat → Nat → Int64} {R : Nat → Nat → Option Nat} {z w : Nat} {J Q : mR} {t : Nat} {S : Int → Int} {cs : List CL} {sky : Int}
/-- what weigh changes: thoughts behind a level, and the town's facts -/
def wG (t lv : Nat) (J J' : mR) : Prop := ∀ b, ¬ (141 + 4 * (lv + 1) ≤ b ∧ b ≤ 192) → ¬ b = t + 6 → J' b = J b
theorem wG.f {lv : Nat} {J J' : mR} (h : wG t lv J J') : wF t J J' := fun b _ h2 h3 => h b (fun q => h2 ⟨by omega, q.2⟩) h3
theorem wG.tr {lv : Nat} {J J' J'' : mR} (h : wG t lv J J') (g : wG t lv J' J'') : wG t lv J J'' := fun b h1 h2 => (g b h1 h2).trans (h b h1 h2)
theorem wG.m {lv : Nat} {J J' : mR} (h : wG t (lv + 1) J J') : wG t lv J J' := fun b h1 h2 => h b (fun q => h1 ⟨by omega, q.2⟩) h2
theorem c_weigh (h : cM T R) (hok : lkOk (tokL cs) 0) : ∀ (m lv : Nat) (S : Int → Int) (o c : Int) (J Q : mR), lv + m ≤ 12 → cX T R J t cs S → oS S → oT S → tB c S → c + 700 * m ≤ 900000 → S 10 + m < 1089 → wR J (141 + 4 * lv) S → cz J → ∃ J' : mR, rn_c (d + 6 + m) 94 [.ref 100, .int (iI lv), .int (iI m), .long (jI o)] (T, oI J, oL Q, R, z, w) = some (none, (T, oI J', oL (cQ Q (asS (tokL cs) m S o (Qc Q))), R, z, w)) ∧ wG t lv J J' ∧ (∀ j, 0 ≤ j → j < 5 → i32 (J' (t + 6) j)) ∧ cz J' := by
  intro m
  induction m with
  | zero =>
    intro lv S o c J Q hlv hX ho hT hc hcc h10 hR hz
    have aw := c_addWeighed (d := d + 5) (z := z) (w := w) (Q := Q) h (h.wt lv (by omega)) hR ho (by unfold tB at hc ⊢; omega) o
    have er : R 139 (lv : Int).toNat = some (141 + 4 * lv) := by rw [Int.toNat_natCast]; exact h.rt lv (by omega)
    have ea := h.a139 lv (by omega)
    refine ⟨J, ?_, fun _ _ _ => rfl, hX.1.2.2.2.2.2.2, hz⟩
    have easS : asS (tokL cs) 0 S o (Qc Q) = asS [] 0 S o (Qc Q) := rfl
    rw [easS]
    simp (disch := first | omega | exact hJ _ _ | exact rJ_g hJ _ _ | (simp (disch := omega) only [ur_r, ur_o, up_r, up_o]; omega) | assumption) only [c94, s94_0, s94_0v, s94_1, s94_4, s94_5, s94_6, s94_6n, s94_6v, s94_8, b94_9, s94_12, s94_13, s94_14, s94_15, s94_15v, s94_16, s94_19, b94_20, s94_23, s94_23v, s94_24, s94_24v, s94_26, s94_27, s94_30, h.t100, h.r100_4, ea, er, v_s, aw, kl_i, kl_r, kl_l, kl_n, kl_z, bd_s, tl_s, tl_n, ap_c, ap_n, v_s, v_n, nd_1, nd_0, ct13, eq_self, iI_add, iI_sub, iI_mul, iI_nat, iI_eq, iI_lt, iI_le, iI_eq0, iI_lt0, ↓reduceIte, if_true, if_false, not_true_eq_false, not_false_eq_true, true_and, and_true, false_and, and_false, true_or, or_true, false_or, or_false, Int.reduceLT, Int.reduceLE, Int.reduceEq, Int.reduceAdd, Int.reduceSub, Int.reduceMul, Nat.reduceAdd, Nat.reduceLT, Nat.reduceEqDiff, Int.reduceNeg, nc_s, nc_0, Int.zero_add, Int.add_zero, oI_r, oI_w, oI_f0, oI_g0, oI_f1, oI_g1, oI_f2, oI_g2, oI_f3, oI_g3, oI_f4, oI_g4, oI_f5, oI_g5, oI_f6, oI_g6, oI_f7, oI_g7, oI_f8, oI_g8, oI_f9, oI_g9, oI_f10, oI_g10, oI_f11, oI_g11, oI_f12, oI_g12, oI_f13, oI_g13, oI_f14, oI_g14, oI_f15, oI_g15, oI_f16, oI_g16, oI_f17, oI_g17, oI_f18, oI_g18, oI_f19, oI_g19, oI_f20, oI_g20, oI_f21, oI_g21, oI_f22, oI_g22, oI_f23, oI_g23, oI_f24, oI_g24, oI_f25, oI_g25, ur_r, ur_o, ur_s, up_r, up_o, up_s, jI_add, jI_sub, jI_mul, jI_neg, jI_i, jI_n, lgc_j, cj_lt, cj_ge, cj_gt, cj_le, cj_eq, oL_r, oL_w, oL_f6, oL_g6, oL_f7, oL_g7, oL_f17, oL_g17, oL_f18, oL_g18, dl_T, dl_F, de_T, de_F, dle_T, dle_F, iI_divn, rem_n, nd_v, ct_s, Bool.false_eq_true]
  | succ m ih =>
    intro lv S o c J Q hlv hX ho hT hc hcc h10 hR hz
    obtain ⟨x1, x2, x3, x4, x5, x6, x7⟩ := id hX
    have hw1 := h.wt lv (by omega)
    have hw2 := h.wt (lv + 1) (by omega)
    have er : R 139 (lv : Int).toNat = some (141 + 4 * lv) := by rw [Int.toNat_natCast]; exact h.rt lv (by omega)
    have er1 : R 139 ((lv : Int) + 1).toNat = some (141 + 4 * (lv + 1)) := by rw [show ((lv : Int) + 1).toNat = lv + 1 by omega]; exact h.rt (lv + 1) (by omega)
    have ea := h.a139 lv (by omega)
    have ea1 := h.a139 ((lv : Int) + 1) (by omega)
    have htp : 108 ≤ t ∧ (192 < t ∨ t + 6 < 141) := by unfold tpl at x7; omega
    have hr10 := ho.2.2.1
    have r11 := ho.2.2.2.1
    have ro := w_rainOf (d := d + 6 + m) (J := J) (L := oL Q) (R := R) (z := z) (w := w) x1.1 x1.2.2.1 (S 10) (S 11) (by omega) r11
    have rr := rainS_r (tokL cs) hok (S 10) (S 11)
    have q3 := hR.2.2.1
    have q4 := hR.2.2.2.1
    have br : ∀ (sk o' : Int) (J1 Q1 : mR), 0 ≤ sk ∧ sk ≤ 1 → wG t lv J J1 → (∀ j, 0 ≤ j → j < 5 → i32 (J1 (t + 6) j)) → cz J1 → ∃ J2 J3 J4 : mR, rn_c (d + 6 + m) 53 [.ref (141 + 4 * (lv + 1)), .ref (141 + 4 * lv)] (T, oI J1, oL Q1, R, z, w) = some (none, (T, oI J2, oL Q1, R, z, w)) ∧ rn_c (d + 6 + m) 58 [.ref (141 + 4 * (lv + 1)), .ref 101, .int (iI sk)] (T, oI J2, oL Q1, R, z, w) = some (none, (T, oI J3, oL Q1, R, z, w)) ∧ rn_c (d + 6 + m) 94 [.ref 100, .int (iI ((lv : Int) + 1)), .int (iI m), .long (jI o')] (T, oI J3, oL Q1, R, z, w) = some (none, (T, oI J4, oL (cQ Q1 (asS (tokL cs) m (hrS (tokL cs) S sk) o' (Qc Q1))), R, z, w)) ∧ wG t lv J J4 ∧ (∀ j, 0 ≤ j → j < 5 → i32 (J4 (t + 6) j)) ∧ cz J4 := by
      intro sk o' J1 Q1 hsk g1 hF1 hz1
      have cp := w_copy (d := d + 6 + m) (J := J1) (L := oL Q1) (z := z) (w := w) hw2 hw1 (by omega)
      have hR1 : wR J1 (141 + 4 * lv) S := wR_x hR (fun b b1 b2 => g1 b (by omega) (by omega))
      have hR2 := wR_cp (a := 141 + 4 * (lv + 1)) hR1 (hz1 (lv + 1) (by omega))
      have f2 : ∀ b, ¬ (141 + 4 * (lv + 1) ≤ b ∧ b ≤ 141 + 4 * (lv + 1) + 2) → wcp J1 (141 + 4 * (lv + 1)) (141 + 4 * lv) b = J1 b := by
        intro b hb; unfold wcp; rw [ur_o (by omega), ur_o (by omega), ur_o (by omega)]
      obtain ⟨J2, hJ2⟩ : ∃ J2, J2 = wcp J1 (141 + 4 * (lv + 1)) (141 + 4 * lv) := ⟨_, rfl⟩
      rw [← hJ2] at cp hR2 f2
      have g2 : wG t lv J J2 := fun b b1 b2 => by rw [f2 b (by omega)]; exact g1 b b1 b2
      have hF2 : ∀ j, 0 ≤ j → j < 5 → i32 (J2 (t + 6) j) := fun j j0 j5 => by rw [f2 _ (by omega)]; exact hF1 j j0 j5
      have hX2 := cX_x hX h g2.f hF2 sx.i hT
      obtain ⟨J3, hp, hR3, f3, hF3⟩ := w_pass (d := d + 1 + m) (L := oL Q1) (z := z) (w := w) hw2 hX2.1 hok (h.nc x2) hX2.2.2.1 ho hT (by unfold tB at hc ⊢; omega) hsk (by omega) (by omega) htp.1 hX2.2.2.2.1 hX2.2.2.2.2.1 hR2
      obtain ⟨p1, p2, p3, p4, p5⟩ := hr_p (sky := sk) hok ho hc hT (by omega) hsk
      have g3 : wG t lv J J3 := fun b b1 b2 => by rw [f3 b (by omega) (by omega) (by omega) (by omega) b2]; exact g2 b b1 b2
      have hX3 := cX_x hX h g3.f hF3 p2 hT
      have hz3 : cz J3 := by
        intro k hk j hj
        by_cases e : k = lv + 1
        · subst e; exact hR3.2.2.2.2.2.2.2 j hj
        · rw [f3 _ (by omega) (by omega) (by omega) (by omega) (by omega), f2 _ (by omega)]
          exact hz1 k hk j hj
      obtain ⟨J4, hrun4, g4, hF4, hz4⟩ := ih (lv + 1) (hrS (tokL cs) S sk) o' (c + 606) J3 Q1 (by omega) hX3 p1 (p2.oT hT) p3 (by omega) (by omega) hR3 hz3
      refine ⟨J2, J3, J4, cp, ?_, hrun4, g3.tr g4.m, hF4, hz4⟩
      rw [show d + 6 + m = d + 1 + m + 5 by omega]; exact hp
    rw [show d + 6 + (m + 1) = (d + 6 + m) + 1 by omega]
    generalize hd : d + 6 + m = D at *
    have hz0 : wG t lv J J := fun _ _ _ => rfl
    have em : (m : Int) + 1 - 1 = m := by omega
    have a24 : [20, 21, 22, 23, 24, 25, 30, 32].contains 24 = true := by decide
    by_cases c1 : rainS (tokL cs) (S 10) (S 11) < 10
    · obtain ⟨K2, K3, K4, a2, a3, a4, gK, hFK, hzK⟩ := br 0 (o * (10 - rainS (tokL cs) (S 10) (S 11))) J Q (by omega) hz0 x1.2.2.2.2.2.2 hz
      by_cases c2 : 0 < rainS (tokL cs) (S 10) (S 11)
      · obtain ⟨L2, L3, L4, b2, b3, b4, gL, hFL, hzL⟩ := br 1 (o * rainS (tokL cs) (S 10) (S 11)) K4 (cQ Q (asS (tokL cs) m (hrS (tokL cs) S 0) (o * (10 - rainS (tokL cs) (S 10) (S 11))) (Qc Q))) (by omega) gK hFK hzK
        refine ⟨L4, ?_, gL, hFL, hzL⟩
        simp only [asS, if_pos c1, if_pos c2]
        rw [cQ_a, Qc_a] at b4
        simp (disch := first | omega | exact hJ _ _ | exact rJ_g hJ _ _ | (simp (disch := omega) only [ur_r, ur_o, up_r, up_o]; omega) | assumption) only [c94, s94_0, s94_0v, s94_1, s94_4, s94_5, s94_6, s94_6n, s94_6v, s94_8, b94_9, s94_12, s94_13, s94_14, s94_15, s94_15v, s94_16, s94_19, b94_20, s94_23, s94_23v, s94_24, s94_24v, s94_26, s94_27, s94_30, s94_31, s94_31v, s94_32, s94_35, s94_36, s94_37, s94_38, s94_39, s94_39n, s94_39v, s94_41, s94_41v, s94_42, s94_45, s94_48, s94_48v, s94_50, s94_53, s94_53v, s94_55, s94_58, s94_61, s94_63, s94_64, s94_66, s94_68, b94_69, s94_72, s94_74, b94_75, s94_78, s94_80, s94_83, s94_85, s94_87, s94_88, s94_90, b94_92, s94_95, s94_95v, s94_97, s94_97v, s94_99, s94_102, s94_102v, s94_104, s94_104v, s94_105, s94_108, s94_110, s94_113, s94_113v, s94_114, s94_115, s94_116, s94_117, s94_118, s94_119, s94_120, s94_121, s94_123, s94_124, s94_125, s94_128, s94_131, s94_134, h.t100, h.t101, h.t139, h.r100_4, h.r100_0, x2, x1.1.1, ea, er, ea1, er1, v_s, hw1.t0, hw2.t0, iI_ofNat, a24, q3, q4, ro, a2, a3, a4, b2, b3, b4, em, kl_i, kl_r, kl_l, kl_n, kl_z, bd_s, tl_s, tl_n, ap_c, ap_n, v_s, v_n, nd_1, nd_0, ct13, eq_self, iI_add, iI_sub, iI_mul, iI_nat, iI_eq, iI_lt, iI_le, iI_eq0, iI_lt0, ↓reduceIte, if_true, if_false, not_true_eq_false, not_false_eq_true, true_and, and_true, false_and, and_false, true_or, or_true, false_or, or_false, Int.reduceLT, Int.reduceLE, Int.reduceEq, Int.reduceAdd, Int.reduceSub, Int.reduceMul, Nat.reduceAdd, Nat.reduceLT, Nat.reduceEqDiff, Int.reduceNeg, nc_s, nc_0, Int.zero_add, Int.add_zero, oI_r, oI_w, oI_f0, oI_g0, oI_f1, oI_g1, oI_f2, oI_g2, oI_f3, oI_g3, oI_f4, oI_g4, oI_f5, oI_g5, oI_f6, oI_g6, oI_f7, oI_g7, oI_f8, oI_g8, oI_f9, oI_g9, oI_f10, oI_g10, oI_f11, oI_g11, oI_f12, oI_g12, oI_f13, oI_g13, oI_f14, oI_g14, oI_f15, oI_g15, oI_f16, oI_g16, oI_f17, oI_g17, oI_f18, oI_g18, oI_f19, oI_g19, oI_f20, oI_g20, oI_f21, oI_g21, oI_f22, oI_g22, oI_f23, oI_g23, oI_f24, oI_g24, oI_f25, oI_g25, ur_r, ur_o, ur_s, up_r, up_o, up_s, jI_add, jI_sub, jI_mul, jI_neg, jI_i, jI_n, lgc_j, cj_lt, cj_ge, cj_gt, cj_le, cj_eq, oL_r, oL_w, oL_f6, oL_g6, oL_f7, oL_g7, oL_f17, oL_g17, oL_f18, oL_g18, dl_T, dl_F, de_T, de_F, dle_T, dle_F, iI_divn, rem_n, nd_v, ct_s, Bool.false_eq_true]
      · refine ⟨K4, ?_, gK, hFK, hzK⟩
        simp only [asS, if_pos c1, if_neg c2]
        simp (disch := first | omega | exact hJ _ _ | exact rJ_g hJ _ _ | (simp (disch := omega) only [ur_r, ur_o, up_r, up_o]; omega) | assumption) only [c94, s94_0, s94_0v, s94_1, s94_4, s94_5, s94_6, s94_6n, s94_6v, s94_8, b94_9, s94_12, s94_13, s94_14, s94_15, s94_15v, s94_16, s94_19, b94_20, s94_23, s94_23v, s94_24, s94_24v, s94_26, s94_27, s94_30, s94_31, s94_31v, s94_32, s94_35, s94_36, s94_37, s94_38, s94_39, s94_39n, s94_39v, s94_41, s94_41v, s94_42, s94_45, s94_48, s94_48v, s94_50, s94_53, s94_53v, s94_55, s94_58, s94_61, s94_63, s94_64, s94_66, s94_68, b94_69, s94_72, s94_74, b94_75, s94_78, s94_80, s94_83, s94_85, s94_87, s94_88, s94_90, b94_92, s94_95, s94_95v, s94_97, s94_97v, s94_99, s94_102, s94_102v, s94_104, s94_104v, s94_105, s94_108, s94_110, s94_113, s94_113v, s94_114, s94_115, s94_116, s94_117, s94_118, s94_119, s94_120, s94_121, s94_123, s94_124, s94_125, s94_128, s94_131, s94_134, h.t100, h.t101, h.t139, h.r100_4, h.r100_0, x2, x1.1.1, ea, er, ea1, er1, v_s, hw1.t0, hw2.t0, iI_ofNat, a24, q3, q4, ro, a2, a3, a4, em, kl_i, kl_r, kl_l, kl_n, kl_z, bd_s, tl_s, tl_n, ap_c, ap_n, v_s, v_n, nd_1, nd_0, ct13, eq_self, iI_add, iI_sub, iI_mul, iI_nat, iI_eq, iI_lt, iI_le, iI_eq0, iI_lt0, ↓reduceIte, if_true, if_false, not_true_eq_false, not_false_eq_true, true_and, and_true, false_and, and_false, true_or, or_true, false_or, or_false, Int.reduceLT, Int.reduceLE, Int.reduceEq, Int.reduceAdd, Int.reduceSub, Int.reduceMul, Nat.reduceAdd, Nat.reduceLT, Nat.reduceEqDiff, Int.reduceNeg, nc_s, nc_0, Int.zero_add, Int.add_zero, oI_r, oI_w, oI_f0, oI_g0, oI_f1, oI_g1, oI_f2, oI_g2, oI_f3, oI_g3, oI_f4, oI_g4, oI_f5, oI_g5, oI_f6, oI_g6, oI_f7, oI_g7, oI_f8, oI_g8, oI_f9, oI_g9, oI_f10, oI_g10, oI_f11, oI_g11, oI_f12, oI_g12, oI_f13, oI_g13, oI_f14, oI_g14, oI_f15, oI_g15, oI_f16, oI_g16, oI_f17, oI_g17, oI_f18, oI_g18, oI_f19, oI_g19, oI_f20, oI_g20, oI_f21, oI_g21, oI_f22, oI_g22, oI_f23, oI_g23, oI_f24, oI_g24, oI_f25, oI_g25, ur_r, ur_o, ur_s, up_r, up_o, up_s, jI_add, jI_sub, jI_mul, jI_neg, jI_i, jI_n, lgc_j, cj_lt, cj_ge, cj_gt, cj_le, cj_eq, oL_r, oL_w, oL_f6, oL_g6, oL_f7, oL_g7, oL_f17, oL_g17, oL_f18, oL_g18, dl_T, dl_F, de_T, de_F, dle_T, dle_F, iI_divn, rem_n, nd_v, ct_s, Bool.false_eq_true]
    · have c2 : 0 < rainS (tokL cs) (S 10) (S 11) := by omega
      obtain ⟨L2, L3, L4, b2, b3, b4, gL, hFL, hzL⟩ := br 1 (o * rainS (tokL cs) (S 10) (S 11)) J Q (by omega) hz0 x1.2.2.2.2.2.2 hz
      refine ⟨L4, ?_, gL, hFL, hzL⟩
      simp only [asS, if_neg c1, if_pos c2]
      simp (disch := first | omega | exact hJ _ _ | exact rJ_g hJ _ _ | (simp (disch := omega) only [ur_r, ur_o, up_r, up_o]; omega) | assumption) only [c94, s94_0, s94_0v, s94_1, s94_4, s94_5, s94_6, s94_6n, s94_6v, s94_8, b94_9, s94_12, s94_13, s94_14, s94_15, s94_15v, s94_16, s94_19, b94_20, s94_23, s94_23v, s94_24, s94_24v, s94_26, s94_27, s94_30, s94_31, s94_31v, s94_32, s94_35, s94_36, s94_37, s94_38, s94_39, s94_39n, s94_39v, s94_41, s94_41v, s94_42, s94_45, s94_48, s94_48v, s94_50, s94_53, s94_53v, s94_55, s94_58, s94_61, s94_63, s94_64, s94_66, s94_68, b94_69, s94_72, s94_74, b94_75, s94_78, s94_80, s94_83, s94_85, s94_87, s94_88, s94_90, b94_92, s94_95, s94_95v, s94_97, s94_97v, s94_99, s94_102, s94_102v, s94_104, s94_104v, s94_105, s94_108, s94_110, s94_113, s94_113v, s94_114, s94_115, s94_116, s94_117, s94_118, s94_119, s94_120, s94_121, s94_123, s94_124, s94_125, s94_128, s94_131, s94_134, h.t100, h.t101, h.t139, h.r100_4, h.r100_0, x2, x1.1.1, ea, er, ea1, er1, v_s, hw1.t0, hw2.t0, iI_ofNat, a24, q3, q4, ro, b2, b3, b4, em, kl_i, kl_r, kl_l, kl_n, kl_z, bd_s, tl_s, tl_n, ap_c, ap_n, v_s, v_n, nd_1, nd_0, ct13, eq_self, iI_add, iI_sub, iI_mul, iI_nat, iI_eq, iI_lt, iI_le, iI_eq0, iI_lt0, ↓reduceIte, if_true, if_false, not_true_eq_false, not_false_eq_true, true_and, and_true, false_and, and_false, true_or, or_true, false_or, or_false, Int.reduceLT, Int.reduceLE, Int.reduceEq, Int.reduceAdd, Int.reduceSub, Int.reduceMul, Nat.reduceAdd, Nat.reduceLT, Nat.reduceEqDiff, Int.reduceNeg, nc_s, nc_0, Int.zero_add, Int.add_zero, oI_r, oI_w, oI_f0, oI_g0, oI_f1, oI_g1, oI_f2, oI_g2, oI_f3, oI_g3, oI_f4, oI_g4, oI_f5, oI_g5, oI_f6, oI_g6, oI_f7, oI_g7, oI_f8, oI_g8, oI_f9, oI_g9, oI_f10, oI_g10, oI_f11, oI_g11, oI_f12, oI_g12, oI_f13, oI_g13, oI_f14, oI_g14, oI_f15, oI_g15, oI_f16, oI_g16, oI_f17, oI_g17, oI_f18, oI_g18, oI_f19, oI_g19, oI_f20, oI_g20, oI_f21, oI_g21, oI_f22, oI_g22, oI_f23, oI_g23, oI_f24, oI_g24, oI_f25, oI_g25, ur_r, ur_o, ur_s, up_r, up_o, up_s, jI_add, jI_sub, jI_mul, jI_neg, jI_i, jI_n, lgc_j, cj_lt, cj_ge, cj_gt, cj_le, cj_eq, oL_r, oL_w, oL_f6, oL_g6, oL_f7, oL_g7, oL_f17, oL_g17, oL_f18, oL_g18, dl_T, dl_F, de_T, de_F, dle_T, dle_F, iI_divn, rem_n, nd_v, ct_s, Bool.false_eq_true]
end CU
