/-! all skies, from any frame on -/
section AL
variable {d : Nat} {T : Nat → Nat × Nat} {R : Nat → Nat → Option Nat} {z w : Nat} {J Q : mR}
theorem n_allSkies (h : rM T R) (ts : List Int) (hok : lkOk ts 0) : ∀ (m : Nat) (f o c : Int) (J Q : mR), 0 ≤ f → f + m ≤ 10 → rJ J → oS (J 194) → held (J 194) ts → oT (J 194) → tB c (J 194) → c + 700 * m ≤ 900000 → J 194 10 + m < 1089 → ∃ J' : mR, rn_c (d + 6 + m) 143 [.ref 193, .int (iI f), .int (iI (f + m)), .long (jI o)] (T, oI J, oL Q, R, z, w) = some (none, (T, oI J', oL (aQ Q (asS ts m (J 194) o (Qa Q))), R, z, w)) ∧ rJ J' ∧ fC f J J' := by
  intro m
  induction m with
  | zero =>
    intro f o c J Q h0 hf hJ ho hts hT hc hcc h10
    refine ⟨J, ?_, hJ, fC.i⟩
    have := as_leaf (d := d) (Q := Q) (z := z) (w := w) h hJ ho (by unfold tB at hc ⊢; omega) f o (by omega)
    rw [nc_0, Int.add_zero]
    exact this
  | succ m ih =>
    intro f o c J Q h0 hf hJ ho hts hT hc hcc h10
    have hr10 := ho.2.2.1
    have br : ∀ (sky o' : Int) (J2 Q2 : mR), 0 ≤ sky ∧ sky ≤ 1 → rJ J2 → J2 194 = J 194 → (∀ j, 0 ≤ j → j < 15 → J2 196 (15 * (f + 1) + j) = J 194 j) → ∃ J3 J4 J5 : mR, rn_c (d + 6 + m) 138 [.ref 193, .int (iI sky)] (T, oI J2, oL Q2, R, z, w) = some (none, (T, oI J3, oL Q2, R, z, w)) ∧ rn_c (d + 6 + m) 143 [.ref 193, .int (iI (f + 1)),   .int (iI (f + ((m : Int) + 1))), .long (jI o')] (T, oI J3, oL Q2, R, z, w) = some (none, (T, oI J4, oL (aQ Q2 (asS ts m (hrS ts (J 194) sky) o' (Qa Q2))), R, z, w)) ∧ (∀ Q3 : mR, rn_c (d + 6 + m) 109 [.ref 193, .int (iI (f + 1))] (T, oI J4, oL Q3, R, z, w) = some (none, (T, oI J5, oL Q3, R, z, w))) ∧ rJ J5 ∧ J5 194 = J 194 ∧ fC f J2 J5 ∧ (∀ j, 0 ≤ j → j < 15 → J5 196 (15 * (f + 1) + j) = J 194 j) := by
      intro sky o' J2 Q2 hsky hJ2 e2 hF
      obtain ⟨J3, hrun3, hJ3, hf3, e3⟩ := n_hour (d := d + 1 + m) (L := oL Q2) (z := z) (w := w) h sky hsky ts hok hJ2 (by rw [e2]; exact ho) (by rw [e2]; exact hts) (by rw [e2]; exact hT) (by rw [e2]; unfold tB at hc ⊢; omega)
      rw [e2] at e3
      obtain ⟨p1, p2, p3, p4, p5⟩ := hr_p (sky := sky) hok ho hc hT (by omega) hsky
      obtain ⟨J4, hrun4, hJ4, hf4⟩ := ih (f + 1) o' (c + 606) J3 Q2 (by omega) (by omega) hJ3 (by rw [e3]; exact p1) (by rw [e3]; exact p2.held hts) (by rw [e3]; exact p2.oT hT) (by rw [e3]; exact p3) (by omega) (by rw [e3, p4]; omega)
      rw [e3] at hrun4
      have e4 : J4 194 = hrS ts (J 194) sky := (hf4.1 194 (by omega) (by omega) (by omega) (by omega) (by omega) (by omega) (by omega)).trans e3
      have g3 : J3 196 = J2 196 := hf3.1 196 (by omega) (by omega) (by omega) (by omega) (by omega) (by omega) (by omega)
      have g4 : ∀ j, 0 ≤ j → j < 15 → J4 196 (15 * (f + 1) + j) = J 194 j := by
        intro j h1 h2
        rw [hf4.2.2 _ (by omega), g3]; exact hF j h1 h2
      have eb : oI (ur J4 194 (bk (J4 194) (J4 196) (f + 1) 15)) = oI (ur J4 194 (J 194)) := by
        apply oI_ext
        intro b j hj
        unfold ur
        by_cases hb : b = 194
        · rw [if_pos hb, if_pos hb]
          unfold bk
          by_cases h1 : 0 ≤ j ∧ j < 15
          · rw [if_pos h1]; exact g4 j h1.1 h1.2
          · rw [if_neg h1, e4]; exact p2 j (by omega)
        · rw [if_neg hb, if_neg hb]
      refine ⟨J3, J4, ur J4 194 (J 194), ?_, ?_, fun Q3 => ?_, ⟨rg_up hJ4.1 (fun j => hJ.1 _ _), fun j => ?_⟩, ur_r, ⟨?_, ?_, ?_⟩, ?_⟩
      · rw [show d + 6 + m = d + 1 + m + 5 by omega]; exact hrun3
      · rw [show f + ((m : Int) + 1) = f + 1 + m by omega]; exact hrun4
      · rw [n_goesBackTo h (f + 1) (by omega), eb]
      · rw [ur_o (by omega)]; exact hJ4.2 j
      · intro b h1 h2 h3 h4 h5 h6 h7
        by_cases hb : b = 194
        · rw [hb, ur_r, e2]
        · rw [ur_o hb, hf4.1 b h1 h2 h3 h4 h5 h6 h7, hf3.1 b h1 hb h3 h4 h5 h6 h7]
      · intro j h1 h2
        rw [ur_o (by omega), hf4.2.1 j h1 h2, hf3.2 j h1 h2]
      · intro j h1
        rw [ur_o (by omega), hf4.2.2 j (by omega), g3]
      · intro j h1 h2
        rw [ur_o (by omega)]; exact g4 j h1 h2
    obtain ⟨J1, hrun1, hJ1, hf1⟩ := n_rainOf (d := d + 4 + m) (L := oL Q) (z := z) (w := w) h hJ (J 194 11) (J 194 10) ts hts hok (by omega) ho.2.2.2.1
    have rr := rainS_r ts hok (J 194 10) (J 194 11)
    have e1 : J1 194 = J 194 := hf1.1 194 (by omega) (by omega) (by omega)
    have k2 := n_keeps (d := d + 6 + m) (J := J1) (L := oL Q) (z := z) (w := w) h (f + 1) (by omega)
    obtain ⟨J2, hJ2d⟩ : ∃ x, x = ur J1 196 (fk (J1 196) (J1 194) (f + 1) 15) := ⟨_, rfl⟩
    rw [← hJ2d] at k2
    have hJ2 : rJ J2 := by
      rw [hJ2d]
      refine ⟨rg_up hJ1.1 (fun j => ?_), fun j => ?_⟩
      · unfold fk; split <;> exact hJ1.1 _ _
      · rw [ur_o (by omega)]; exact hJ1.2 j
    have e2 : J2 194 = J 194 := by rw [hJ2d, ur_o (by omega), e1]
    have f2 : fC f J J2 := by
      refine hf1.cc.t ⟨fun b _ h2 _ _ _ _ _ => by rw [hJ2d, ur_o h2], fun j _ _ => by rw [hJ2d, ur_o (by omega)], fun j hj => ?_⟩
      rw [hJ2d, ur_r]; unfold fk; rw [if_neg (by omega)]
    have F2 : ∀ j, 0 ≤ j → j < 15 → J2 196 (15 * (f + 1) + j) = J 194 j := by
      intro j h1 h2
      rw [hJ2d, ur_r]; unfold fk; rw [if_pos (by omega), e1]
      exact congrArg (J 194) (by omega)
    have ro : rn_c (d + 6 + m) 128 [.ref 193, .int (iI (J 194 10)), .int (iI (J 194 11))] (T, oI J, oL Q, R, z, w) = some (some (.int (iI (rainS ts (J 194 10) (J 194 11)))), (T, oI J1, oL Q, R, z, w)) := by
      rw [show d + 6 + m = d + 4 + m + 2 by omega]; exact hrun1
    rw [show d + 6 + (m + 1) = (d + 6 + m) + 1 by omega]
    generalize hd : d + 6 + m = D at *
    by_cases c1 : rainS ts (J 194 10) (J 194 11) < 10
    · obtain ⟨K3, K4, K5, a3, a4, a5, hK5, eK5, fK5, FK5⟩ := br 0 (o * (10 - rainS ts (J 194 10) (J 194 11))) J2 Q (by omega) hJ2 e2 F2
      by_cases c2 : 0 < rainS ts (J 194 10) (J 194 11)
      · obtain ⟨L3, L4, L5, b3, b4, b5, hL5, eL5, fL5, FL5⟩ := br 1 (o * rainS ts (J 194 10) (J 194 11)) K5 (aQ Q (asS ts m (hrS ts (J 194) 0) (o * (10 - rainS ts (J 194 10) (J 194 11))) (Qa Q))) (by omega) hK5 eK5 FK5
        refine ⟨L5, ?_, hL5, f2.t (fK5.t fL5)⟩
        simp only [asS, if_pos c1, if_pos c2]
        rw [aQ_a, Qa_a] at b4
        simp (disch := first | omega | exact hJ _ _ | exact rJ_g hJ _ _ | (simp (disch := omega) only [ur_r, ur_o, up_r, up_o]; omega) | assumption) only [c143, s143_0, s143_1, b143_2, s143_86, s143_86v, s143_87, s143_87v, s143_88, s143_91, s143_93, s143_94, s143_94v, s143_95, s143_98, s143_100, s143_101, s143_104, s143_106, s143_106v, s143_107, s143_108, s143_109, s143_110, s143_113, s143_115, b143_117, s143_120, s143_120v, s143_121, s143_122, s143_125, s143_125v, s143_126, s143_127, s143_128, s143_129, s143_130, s143_131, s143_133, s143_135, s143_136, s143_137, s143_138, s143_141, s143_141v, s143_142, s143_143, s143_144, s143_145, s143_148, b143_150, s143_153, s143_153v, s143_154, s143_155, s143_158, s143_158v, s143_159, s143_160, s143_161, s143_162, s143_163, s143_164, s143_166, s143_167, s143_168, s143_171, s143_171v, s143_172, s143_173, s143_174, s143_175, s143_178, h.t193, h.r1, h.a194, ro, k2, a3, a4, a5, b3, b4, b5, kl_i, kl_r, kl_l, kl_n, kl_z, bd_s, tl_s, tl_n, ap_c, ap_n, v_s, v_n, nd_1, nd_0, ct13, eq_self, iI_add, iI_sub, iI_mul, iI_nat, iI_eq, iI_lt, iI_le, iI_eq0, iI_lt0, ↓reduceIte, if_true, if_false, not_true_eq_false, not_false_eq_true, true_and, and_true, false_and, and_false, true_or, or_true, false_or, or_false, Int.reduceLT, Int.reduceLE, Int.reduceEq, Int.reduceAdd, Int.reduceSub, Int.reduceMul, Nat.reduceAdd, Nat.reduceLT, Nat.reduceEqDiff, Int.reduceNeg, nc_s, nc_0, Int.zero_add, Int.add_zero, oI_r, oI_w, oI_f0, oI_g0, oI_f1, oI_g1, oI_f2, oI_g2, oI_f3, oI_g3, oI_f4, oI_g4, oI_f5, oI_g5, oI_f6, oI_g6, oI_f7, oI_g7, oI_f8, oI_g8, oI_f9, oI_g9, oI_f10, oI_g10, oI_f11, oI_g11, oI_f12, oI_g12, oI_f13, oI_g13, oI_f14, oI_g14, oI_f15, oI_g15, oI_f16, oI_g16, oI_f17, oI_g17, oI_f18, oI_g18, oI_f19, oI_g19, oI_f20, oI_g20, oI_f21, oI_g21, oI_f22, oI_g22, oI_f23, oI_g23, oI_f24, oI_g24, oI_f25, oI_g25, ur_r, ur_o, ur_s, up_r, up_o, up_s, jI_add, jI_sub, jI_mul, jI_neg, jI_i, jI_n, lgc_j, cj_lt, cj_ge, cj_gt, cj_le, cj_eq, oL_r, oL_w, oL_f6, oL_g6, oL_f7, oL_g7, oL_f17, oL_g17, oL_f18, oL_g18, dl_T, dl_F, de_T, de_F, dle_T, dle_F, iI_divn, rem_n, nd_v, ct_s, Bool.false_eq_true]
      · refine ⟨K5, ?_, hK5, f2.t fK5⟩
        simp only [asS, if_pos c1, if_neg c2]
        simp (disch := first | omega | exact hJ _ _ | exact rJ_g hJ _ _ | (simp (disch := omega) only [ur_r, ur_o, up_r, up_o]; omega) | assumption) only [c143, s143_0, s143_1, b143_2, s143_86, s143_86v, s143_87, s143_87v, s143_88, s143_91, s143_93, s143_94, s143_94v, s143_95, s143_98, s143_100, s143_101, s143_104, s143_106, s143_106v, s143_107, s143_108, s143_109, s143_110, s143_113, s143_115, b143_117, s143_120, s143_120v, s143_121, s143_122, s143_125, s143_125v, s143_126, s143_127, s143_128, s143_129, s143_130, s143_131, s143_133, s143_135, s143_136, s143_137, s143_138, s143_141, s143_141v, s143_142, s143_143, s143_144, s143_145, s143_148, b143_150, s143_153, s143_153v, s143_154, s143_155, s143_158, s143_158v, s143_159, s143_160, s143_161, s143_162, s143_163, s143_164, s143_166, s143_167, s143_168, s143_171, s143_171v, s143_172, s143_173, s143_174, s143_175, s143_178, h.t193, h.r1, h.a194, ro, k2, a3, a4, a5, kl_i, kl_r, kl_l, kl_n, kl_z, bd_s, tl_s, tl_n, ap_c, ap_n, v_s, v_n, nd_1, nd_0, ct13, eq_self, iI_add, iI_sub, iI_mul, iI_nat, iI_eq, iI_lt, iI_le, iI_eq0, iI_lt0, ↓reduceIte, if_true, if_false, not_true_eq_false, not_false_eq_true, true_and, and_true, false_and, and_false, true_or, or_true, false_or, or_false, Int.reduceLT, Int.reduceLE, Int.reduceEq, Int.reduceAdd, Int.reduceSub, Int.reduceMul, Nat.reduceAdd, Nat.reduceLT, Nat.reduceEqDiff, Int.reduceNeg, nc_s, nc_0, Int.zero_add, Int.add_zero, oI_r, oI_w, oI_f0, oI_g0, oI_f1, oI_g1, oI_f2, oI_g2, oI_f3, oI_g3, oI_f4, oI_g4, oI_f5, oI_g5, oI_f6, oI_g6, oI_f7, oI_g7, oI_f8, oI_g8, oI_f9, oI_g9, oI_f10, oI_g10, oI_f11, oI_g11, oI_f12, oI_g12, oI_f13, oI_g13, oI_f14, oI_g14, oI_f15, oI_g15, oI_f16, oI_g16, oI_f17, oI_g17, oI_f18, oI_g18, oI_f19, oI_g19, oI_f20, oI_g20, oI_f21, oI_g21, oI_f22, oI_g22, oI_f23, oI_g23, oI_f24, oI_g24, oI_f25, oI_g25, ur_r, ur_o, ur_s, up_r, up_o, up_s, jI_add, jI_sub, jI_mul, jI_neg, jI_i, jI_n, lgc_j, cj_lt, cj_ge, cj_gt, cj_le, cj_eq, oL_r, oL_w, oL_f6, oL_g6, oL_f7, oL_g7, oL_f17, oL_g17, oL_f18, oL_g18, dl_T, dl_F, de_T, de_F, dle_T, dle_F, iI_divn, rem_n, nd_v, ct_s, Bool.false_eq_true]
    · have c2 : 0 < rainS ts (J 194 10) (J 194 11) := by omega
      obtain ⟨L3, L4, L5, b3, b4, b5, hL5, eL5, fL5, FL5⟩ := br 1 (o * rainS ts (J 194 10) (J 194 11)) J2 Q (by omega) hJ2 e2 F2
      refine ⟨L5, ?_, hL5, f2.t fL5⟩
      simp only [asS, if_neg c1, if_pos c2]
      simp (disch := first | omega | exact hJ _ _ | exact rJ_g hJ _ _ | (simp (disch := omega) only [ur_r, ur_o, up_r, up_o]; omega) | assumption) only [c143, s143_0, s143_1, b143_2, s143_86, s143_86v, s143_87, s143_87v, s143_88, s143_91, s143_93, s143_94, s143_94v, s143_95, s143_98, s143_100, s143_101, s143_104, s143_106, s143_106v, s143_107, s143_108, s143_109, s143_110, s143_113, s143_115, b143_117, s143_120, s143_120v, s143_121, s143_122, s143_125, s143_125v, s143_126, s143_127, s143_128, s143_129, s143_130, s143_131, s143_133, s143_135, s143_136, s143_137, s143_138, s143_141, s143_141v, s143_142, s143_143, s143_144, s143_145, s143_148, b143_150, s143_153, s143_153v, s143_154, s143_155, s143_158, s143_158v, s143_159, s143_160, s143_161, s143_162, s143_163, s143_164, s143_166, s143_167, s143_168, s143_171, s143_171v, s143_172, s143_173, s143_174, s143_175, s143_178, h.t193, h.r1, h.a194, ro, k2, b3, b4, b5, kl_i, kl_r, kl_l, kl_n, kl_z, bd_s, tl_s, tl_n, ap_c, ap_n, v_s, v_n, nd_1, nd_0, ct13, eq_self, iI_add, iI_sub, iI_mul, iI_nat, iI_eq, iI_lt, iI_le, iI_eq0, iI_lt0, ↓reduceIte, if_true, if_false, not_true_eq_false, not_false_eq_true, true_and, and_true, false_and, and_false, true_or, or_true, false_or, or_false, Int.reduceLT, Int.reduceLE, Int.reduceEq, Int.reduceAdd, Int.reduceSub, Int.reduceMul, Nat.reduceAdd, Nat.reduceLT, Nat.reduceEqDiff, Int.reduceNeg, nc_s, nc_0, Int.zero_add, Int.add_zero, oI_r, oI_w, oI_f0, oI_g0, oI_f1, oI_g1, oI_f2, oI_g2, oI_f3, oI_g3, oI_f4, oI_g4, oI_f5, oI_g5, oI_f6, oI_g6, oI_f7, oI_g7, oI_f8, oI_g8, oI_f9, oI_g9, oI_f10, oI_g10, oI_f11, oI_g11, oI_f12, oI_g12, oI_f13, oI_g13, oI_f14, oI_g14, oI_f15, oI_g15, oI_f16, oI_g16, oI_f17, oI_g17, oI_f18, oI_g18, oI_f19, oI_g19, oI_f20, oI_g20, oI_f21, oI_g21, oI_f22, oI_g22, oI_f23, oI_g23, oI_f24, oI_g24, oI_f25, oI_g25, ur_r, ur_o, ur_s, up_r, up_o, up_s, jI_add, jI_sub, jI_mul, jI_neg, jI_i, jI_n, lgc_j, cj_lt, cj_ge, cj_gt, cj_le, cj_eq, oL_r, oL_w, oL_f6, oL_g6, oL_f7, oL_g7, oL_f17, oL_g17, oL_f18, oL_g18, dl_T, dl_F, de_T, de_F, dle_T, dle_F, iI_divn, rem_n, nd_v, ct_s, Bool.false_eq_true]
end AL
