/-! the reference's hourGoes, second loop and whole -/
section HH
variable {d : Nat} {T : Nat → Nat × Nat} {L : Nat → Nat → Int64} {R : Nat → Nat → Option Nat} {z w : Nat} {J : mR}
theorem h2s_p {U G S : Int → Int} {p c : Int} (ho : oS S) (ht : tB c S) (hp : 0 ≤ p ∧ p < 6) (hd : 0 ≤ oOf S p ∧ oOf S p < 4) : oS (h2s U G p S) ∧ sx S (h2s U G p S) ∧ tB (c + 1) (h2s U G p S) ∧ h2s U G p S 10 = S 10 := by
  unfold h2s
  by_cases u : U p = 0
  · rw [if_pos u]
    refine ⟨ho, sx.i, ?_, rfl⟩
    unfold tB at ht ⊢; omega
  rw [if_neg u]
  obtain ⟨t1, t2, t3⟩ := ht
  have hto := ho.2.1 _ hd
  have hat := (ho.1 p hp).2.2.1
  have hx : ∀ a b, sx S (up (up (up S 14 a) (oOf S p) b) (4 + p) (1 - S (4 + p))) := fun a b j hj => by simp (disch := omega) only [up_o]
  refine ⟨ho.x (hx _ _) (fun j hj => ?_) (fun q hq => ?_) ?_ ?_, hx _ _, ?_, ?_⟩
  · have := ho.2.1 j hj
    simp (disch := omega) only [up_o]
    unfold up
    by_cases e : j = oOf S p
    · rw [if_pos e]; repeat' split
      all_goals omega
    · rw [if_neg e, if_neg (by omega)]; exact this
  · have := (ho.1 q hq).2.2.1
    by_cases e : q = p
    · rw [e, up_r]; omega
    · simp (disch := omega) only [up_o]; exact this
  · simp (disch := omega) only [up_o]; exact ho.2.2.1
  · simp (disch := omega) only [up_o]; exact ho.2.2.2.1
  · unfold tB
    simp (disch := omega) only [up_o, up_r]
    repeat' split
    all_goals omega
  · simp (disch := omega) only [up_o]
theorem hg2 (h : rM T R) (sky : Int) (hJ : rJ J) (g3 g4 : Option Value) (ho : oS (J 194)) (hc : tB 990000 (J 194)) : ∀ k : Nat, (k : Int) ≤ J 194 15 → ∃ q3 q4 : Option Value, rn_r (d + 5) 138 68 [some (.ref 193), some (.int (iI sky)), some (.int (iI 0)), g3, g4] [] (T, oI J, L, R, z, w) = rn_r (d + 5) 138 68 [some (.ref 193), some (.int (iI sky)), some (.int (iI k)), q3, q4] [] (T, oI (ur J 194 (h2S (J 200) (J 201) k (J 194))), L, R, z, w) ∧ oS (h2S (J 200) (J 201) k (J 194)) ∧ sx (J 194) (h2S (J 200) (J 201) k (J 194)) ∧ tB (990000 + k) (h2S (J 200) (J 201) k (J 194)) ∧ h2S (J 200) (J 201) k (J 194) 10 = J 194 10 ∧ (∀ j, -2147483648 ≤ h2S (J 200) (J 201) k (J 194) j ∧ h2S (J 200) (J 201) k (J 194) j < 2147483648) := by
  intro k
  induction k with
  | zero =>
    intro _
    refine ⟨g3, g4, ?_, ho, sx.i, (by show tB (990000 + 0) _; rw [Int.add_zero]; exact hc), rfl, fun j => hJ.1 _ _⟩
    simp only [h2S, ur_e]
    rfl
  | succ k ih =>
    intro hk
    obtain ⟨q3, q4, hrun, ho1, hx1, hc1, h10, hr⟩ := ih (by omega)
    have hkn := ho.2.2.2.2
    have e15 := hx1 15 (by omega)
    simp only [h2S]
    generalize h2S (J 200) (J 201) k (J 194) = S at *
    have hJS : rg (ur J 194 S) := rg_up hJ.1 hr
    have hok : okS S := by have := oS.ok (J := ur J 194 S) (by rw [ur_r]; exact ho1) hJS; rwa [ur_r] at this
    have hd := oOf_r hok k (by omega)
    have r1 := ho1.2.1 _ hd
    have r2 := (ho1.1 k (by omega)).2.2.1
    obtain ⟨p1, p2, p3, p4⟩ := h2s_p (U := J 200) (G := J 201) (p := (k : Int)) ho1 hc1 (by omega) hd
    have oo := n_otherOf (d := d + 4) (L := L) (z := z) (w := w) (J := ur J 194 S) h hJS k (by omega)
    rw [ur_r] at oo
    have ru := hJ.1 200 k
    have rgg := hJ.1 201 k
    obtain ⟨c1, c2, c3⟩ := hc1
    have fin : ∀ q3' q4' : Option Value, rn_r (d + 5) 138 68 [some (.ref 193), some (.int (iI sky)), some (.int (iI k)), q3, q4] [] (T, oI (ur J 194 S), L, R, z, w) = rn_r (d + 5) 138 192 [some (.ref 193), some (.int (iI sky)), some (.int (iI ((k : Int) + 1))), q3', q4'] [] (T, oI (ur J 194 (h2s (J 200) (J 201) k S)), L, R, z, w) → ∃ q3 q4 : Option Value, rn_r (d + 5) 138 68 [some (.ref 193), some (.int (iI sky)), some (.int (iI 0)), g3, g4] [] (T, oI J, L, R, z, w) = rn_r (d + 5) 138 68 [some (.ref 193), some (.int (iI sky)), some (.int (iI ((k + 1 : Nat) : Int))), q3, q4] [] (T, oI (ur J 194 (h2s (J 200) (J 201) k S)), L, R, z, w) ∧ oS (h2s (J 200) (J 201) k S) ∧ sx (J 194) (h2s (J 200) (J 201) k S) ∧ tB (990000 + ((k + 1 : Nat) : Int)) (h2s (J 200) (J 201) k S) ∧ h2s (J 200) (J 201) k S 10 = J 194 10 ∧ (∀ j, -2147483648 ≤ h2s (J 200) (J 201) k S j ∧ h2s (J 200) (J 201) k S j < 2147483648) := by
      intro q3' q4' hr2
      refine ⟨q3', q4', ?_, p1, hx1.t p2, ?_, p4.trans h10, ?_⟩
      · rw [hrun, hr2, s138_192]
        rfl
      · rw [nc_s, ← Int.add_assoc]; exact p3
      · unfold h2s
        split
        · exact hr
        · refine up_rng (up_rng (up_rng hr ?_) ?_) (by omega)
          all_goals repeat' split
          all_goals omega
    by_cases u : J 200 k = 0
    · refine fin q3 q4 ?_
      unfold h2s
      rw [if_pos u]
      simp (disch := first | omega | exact hJ _ _ | exact rJ_g hJ _ _ | (simp (disch := omega) only [ur_r, ur_o, up_r, up_o]; omega) | assumption) only [s138_68, s138_69, s138_69v, s138_70, s138_73, s138_75, b138_76, s138_79, s138_79v, s138_80, s138_83, s138_84, b138_85, s138_88, s138_89, s138_89v, s138_90, s138_91, s138_94, s138_95, s138_96, s138_96v, s138_97, s138_100, s138_101, b138_102, s138_105, s138_105v, s138_106, s138_109, s138_110, s138_111, b138_113, s138_116, s138_117, s138_120, s138_121, s138_123, s138_123v, s138_124, s138_127, s138_129, s138_130, s138_131, s138_131v, s138_132, s138_135, s138_136, b138_137, s138_140, b138_142, s138_145, s138_146, s138_149, s138_150, s138_151, s138_152, s138_152v, s138_153, s138_156, s138_157, s138_158, s138_159, b138_161, s138_164, s138_165, s138_168, s138_169, s138_170, s138_171, s138_171v, s138_172, s138_175, s138_176, s138_177, s138_178, s138_179, s138_179v, s138_180, s138_183, s138_184, s138_185, s138_186, s138_187, s138_188, s138_189, h.t193, h.r1, h.r15, h.a194, h.a200, kl_i, kl_r, kl_l, kl_n, kl_z, bd_s, tl_s, tl_n, ap_c, ap_n, v_s, v_n, nd_1, nd_0, ct13, eq_self, iI_add, iI_sub, iI_mul, iI_nat, iI_eq, iI_lt, iI_le, iI_eq0, iI_lt0, ↓reduceIte, if_true, if_false, not_true_eq_false, not_false_eq_true, true_and, and_true, false_and, and_false, true_or, or_true, false_or, or_false, Int.reduceLT, Int.reduceLE, Int.reduceEq, Int.reduceAdd, Int.reduceSub, Int.reduceMul, Nat.reduceAdd, Nat.reduceLT, Nat.reduceEqDiff, Int.reduceNeg, nc_s, nc_0, Int.zero_add, Int.add_zero, oI_r, oI_w, oI_f0, oI_g0, oI_f1, oI_g1, oI_f2, oI_g2, oI_f3, oI_g3, oI_f4, oI_g4, oI_f5, oI_g5, oI_f6, oI_g6, oI_f7, oI_g7, oI_f8, oI_g8, oI_f9, oI_g9, oI_f10, oI_g10, oI_f11, oI_g11, oI_f12, oI_g12, oI_f13, oI_g13, oI_f14, oI_g14, oI_f15, oI_g15, oI_f16, oI_g16, oI_f17, oI_g17, oI_f18, oI_g18, oI_f19, oI_g19, oI_f20, oI_g20, oI_f21, oI_g21, oI_f22, oI_g22, oI_f23, oI_g23, oI_f24, oI_g24, oI_f25, oI_g25, ur_r, ur_o, ur_s, up_r, up_o, up_s, dl_T, dl_F, de_T, de_F, dle_T, dle_F, iI_divn, rem_n, nd_v, ct_s, Bool.false_eq_true]
    · by_cases g : J 201 k = 0
      · refine fin (some (.int (iI (oOf S k)))) (some (.int (iI 0))) ?_
        unfold h2s
        simp (disch := first | omega | exact hJ _ _ | exact rJ_g hJ _ _ | (simp (disch := omega) only [ur_r, ur_o, up_r, up_o]; omega) | assumption) only [s138_68, s138_69, s138_69v, s138_70, s138_73, s138_75, b138_76, s138_79, s138_79v, s138_80, s138_83, s138_84, b138_85, s138_88, s138_89, s138_89v, s138_90, s138_91, s138_94, s138_95, s138_96, s138_96v, s138_97, s138_100, s138_101, b138_102, s138_105, s138_105v, s138_106, s138_109, s138_110, s138_111, b138_113, s138_116, s138_117, s138_120, s138_121, s138_123, s138_123v, s138_124, s138_127, s138_129, s138_130, s138_131, s138_131v, s138_132, s138_135, s138_136, b138_137, s138_140, b138_142, s138_145, s138_146, s138_149, s138_150, s138_151, s138_152, s138_152v, s138_153, s138_156, s138_157, s138_158, s138_159, b138_161, s138_164, s138_165, s138_168, s138_169, s138_170, s138_171, s138_171v, s138_172, s138_175, s138_176, s138_177, s138_178, s138_179, s138_179v, s138_180, s138_183, s138_184, s138_185, s138_186, s138_187, s138_188, s138_189, h.t193, h.r1, h.r15, h.r16, h.a194, h.b194, h.a200, h.a201, oo, kl_i, kl_r, kl_l, kl_n, kl_z, bd_s, tl_s, tl_n, ap_c, ap_n, v_s, v_n, nd_1, nd_0, ct13, eq_self, iI_add, iI_sub, iI_mul, iI_nat, iI_eq, iI_lt, iI_le, iI_eq0, iI_lt0, ↓reduceIte, if_true, if_false, not_true_eq_false, not_false_eq_true, true_and, and_true, false_and, and_false, true_or, or_true, false_or, or_false, Int.reduceLT, Int.reduceLE, Int.reduceEq, Int.reduceAdd, Int.reduceSub, Int.reduceMul, Nat.reduceAdd, Nat.reduceLT, Nat.reduceEqDiff, Int.reduceNeg, nc_s, nc_0, Int.zero_add, Int.add_zero, oI_r, oI_w, oI_f0, oI_g0, oI_f1, oI_g1, oI_f2, oI_g2, oI_f3, oI_g3, oI_f4, oI_g4, oI_f5, oI_g5, oI_f6, oI_g6, oI_f7, oI_g7, oI_f8, oI_g8, oI_f9, oI_g9, oI_f10, oI_g10, oI_f11, oI_g11, oI_f12, oI_g12, oI_f13, oI_g13, oI_f14, oI_g14, oI_f15, oI_g15, oI_f16, oI_g16, oI_f17, oI_g17, oI_f18, oI_g18, oI_f19, oI_g19, oI_f20, oI_g20, oI_f21, oI_g21, oI_f22, oI_g22, oI_f23, oI_g23, oI_f24, oI_g24, oI_f25, oI_g25, ur_r, ur_o, ur_s, up_r, up_o, up_s, dl_T, dl_F, de_T, de_F, dle_T, dle_F, iI_divn, rem_n, nd_v, ct_s, Bool.false_eq_true]
      · by_cases b : 9 ≤ S (oOf S k)
        · refine fin (some (.int (iI (oOf S k)))) (some (.int (iI 0))) ?_
          unfold h2s
          simp (disch := first | omega | exact hJ _ _ | exact rJ_g hJ _ _ | (simp (disch := omega) only [ur_r, ur_o, up_r, up_o]; omega) | assumption) only [s138_68, s138_69, s138_69v, s138_70, s138_73, s138_75, b138_76, s138_79, s138_79v, s138_80, s138_83, s138_84, b138_85, s138_88, s138_89, s138_89v, s138_90, s138_91, s138_94, s138_95, s138_96, s138_96v, s138_97, s138_100, s138_101, b138_102, s138_105, s138_105v, s138_106, s138_109, s138_110, s138_111, b138_113, s138_116, s138_117, s138_120, s138_121, s138_123, s138_123v, s138_124, s138_127, s138_129, s138_130, s138_131, s138_131v, s138_132, s138_135, s138_136, b138_137, s138_140, b138_142, s138_145, s138_146, s138_149, s138_150, s138_151, s138_152, s138_152v, s138_153, s138_156, s138_157, s138_158, s138_159, b138_161, s138_164, s138_165, s138_168, s138_169, s138_170, s138_171, s138_171v, s138_172, s138_175, s138_176, s138_177, s138_178, s138_179, s138_179v, s138_180, s138_183, s138_184, s138_185, s138_186, s138_187, s138_188, s138_189, h.t193, h.r1, h.r15, h.r16, h.a194, h.b194, h.a200, h.a201, oo, kl_i, kl_r, kl_l, kl_n, kl_z, bd_s, tl_s, tl_n, ap_c, ap_n, v_s, v_n, nd_1, nd_0, ct13, eq_self, iI_add, iI_sub, iI_mul, iI_nat, iI_eq, iI_lt, iI_le, iI_eq0, iI_lt0, ↓reduceIte, if_true, if_false, not_true_eq_false, not_false_eq_true, true_and, and_true, false_and, and_false, true_or, or_true, false_or, or_false, Int.reduceLT, Int.reduceLE, Int.reduceEq, Int.reduceAdd, Int.reduceSub, Int.reduceMul, Nat.reduceAdd, Nat.reduceLT, Nat.reduceEqDiff, Int.reduceNeg, nc_s, nc_0, Int.zero_add, Int.add_zero, oI_r, oI_w, oI_f0, oI_g0, oI_f1, oI_g1, oI_f2, oI_g2, oI_f3, oI_g3, oI_f4, oI_g4, oI_f5, oI_g5, oI_f6, oI_g6, oI_f7, oI_g7, oI_f8, oI_g8, oI_f9, oI_g9, oI_f10, oI_g10, oI_f11, oI_g11, oI_f12, oI_g12, oI_f13, oI_g13, oI_f14, oI_g14, oI_f15, oI_g15, oI_f16, oI_g16, oI_f17, oI_g17, oI_f18, oI_g18, oI_f19, oI_g19, oI_f20, oI_g20, oI_f21, oI_g21, oI_f22, oI_g22, oI_f23, oI_g23, oI_f24, oI_g24, oI_f25, oI_g25, ur_r, ur_o, ur_s, up_r, up_o, up_s, dl_T, dl_F, de_T, de_F, dle_T, dle_F, iI_divn, rem_n, nd_v, ct_s, Bool.false_eq_true]
        · refine fin (some (.int (iI (oOf S k)))) (some (.int (iI 1))) ?_
          unfold h2s
          simp (disch := first | omega | exact hJ _ _ | exact rJ_g hJ _ _ | (simp (disch := omega) only [ur_r, ur_o, up_r, up_o]; omega) | assumption) only [s138_68, s138_69, s138_69v, s138_70, s138_73, s138_75, b138_76, s138_79, s138_79v, s138_80, s138_83, s138_84, b138_85, s138_88, s138_89, s138_89v, s138_90, s138_91, s138_94, s138_95, s138_96, s138_96v, s138_97, s138_100, s138_101, b138_102, s138_105, s138_105v, s138_106, s138_109, s138_110, s138_111, b138_113, s138_116, s138_117, s138_120, s138_121, s138_123, s138_123v, s138_124, s138_127, s138_129, s138_130, s138_131, s138_131v, s138_132, s138_135, s138_136, b138_137, s138_140, b138_142, s138_145, s138_146, s138_149, s138_150, s138_151, s138_152, s138_152v, s138_153, s138_156, s138_157, s138_158, s138_159, b138_161, s138_164, s138_165, s138_168, s138_169, s138_170, s138_171, s138_171v, s138_172, s138_175, s138_176, s138_177, s138_178, s138_179, s138_179v, s138_180, s138_183, s138_184, s138_185, s138_186, s138_187, s138_188, s138_189, h.t193, h.r1, h.r15, h.r16, h.a194, h.b194, h.a200, h.a201, oo, kl_i, kl_r, kl_l, kl_n, kl_z, bd_s, tl_s, tl_n, ap_c, ap_n, v_s, v_n, nd_1, nd_0, ct13, eq_self, iI_add, iI_sub, iI_mul, iI_nat, iI_eq, iI_lt, iI_le, iI_eq0, iI_lt0, ↓reduceIte, if_true, if_false, not_true_eq_false, not_false_eq_true, true_and, and_true, false_and, and_false, true_or, or_true, false_or, or_false, Int.reduceLT, Int.reduceLE, Int.reduceEq, Int.reduceAdd, Int.reduceSub, Int.reduceMul, Nat.reduceAdd, Nat.reduceLT, Nat.reduceEqDiff, Int.reduceNeg, nc_s, nc_0, Int.zero_add, Int.add_zero, oI_r, oI_w, oI_f0, oI_g0, oI_f1, oI_g1, oI_f2, oI_g2, oI_f3, oI_g3, oI_f4, oI_g4, oI_f5, oI_g5, oI_f6, oI_g6, oI_f7, oI_g7, oI_f8, oI_g8, oI_f9, oI_g9, oI_f10, oI_g10, oI_f11, oI_g11, oI_f12, oI_g12, oI_f13, oI_g13, oI_f14, oI_g14, oI_f15, oI_g15, oI_f16, oI_g16, oI_f17, oI_g17, oI_f18, oI_g18, oI_f19, oI_g19, oI_f20, oI_g20, oI_f21, oI_g21, oI_f22, oI_g22, oI_f23, oI_g23, oI_f24, oI_g24, oI_f25, oI_g25, ur_r, ur_o, ur_s, up_r, up_o, up_s, dl_T, dl_F, de_T, de_F, dle_T, dle_F, iI_divn, rem_n, nd_v, ct_s, Bool.false_eq_true]
def hrJ (ts : List Int) (sky : Int) (q : hQ) : Int → Int := up (up (h2S (h1S ts sky (q.1 15).toNat q).2.1 (h1S ts sky (q.1 15).toNat q).2.2.2 (q.1 15).toNat (h1S ts sky (q.1 15).toNat q).1) 11 sky) 10 (q.1 10 + 1)
theorem n_hourGoes0 (h : rM T R) (sky : Int) (hsky : 0 ≤ sky ∧ sky ≤ 1) (ts : List Int) (hok : lkOk ts 0) (hJ : rJ J) (ho : oS (J 194)) (hts : held (J 194) ts) (hT : oT (J 194)) (hc : tB 900000 (J 194)) : ∃ J' : mR, rn_c (d + 5) 138 [.ref 193, .int (iI sky)] (T, oI J, L, R, z, w) = some (none, (T, oI J', L, R, z, w)) ∧ rJ J' ∧ fB J J' ∧ J' 194 = hrJ ts sky (qJ J) := by
  have hkn := ho.2.2.2.2
  have hn : ((J 194 15).toNat : Int) = J 194 15 := Int.toNat_of_nonneg hkn.1
  obtain ⟨J1, hrun1, hJ1, hf1, hq1, ho1, hx1, hc1, hm1⟩ := hg1 (d := d) (L := L) (z := z) (w := w) h sky hsky ts hok hJ ho hts hT hc (J 194 15).toNat (by omega)
  have e15 := hx1 15 (by omega)
  obtain ⟨q3, q4, hrun2, ho2, hx2, hc2, h10, hr2⟩ := hg2 (d := d) (L := L) (z := z) (w := w) h sky hJ1 none none ho1 (by unfold tB at hc1 ⊢; omega) (J 194 15).toNat (by omega)
  have eS : h2S (J1 200) (J1 201) (J 194 15).toNat (J1 194) = h2S (h1S ts sky (J 194 15).toNat (qJ J)).2.1 (h1S ts sky (J 194 15).toNat (qJ J)).2.2.2 (J 194 15).toNat (h1S ts sky (J 194 15).toNat (qJ J)).1 := by rw [← hq1]
  have a10 := hm1 10 (by omega) (by omega)
  have r10 := ho.2.2.1
  have f15 := hx2 15 (by omega)
  refine ⟨ur J1 194 (hrJ ts sky (qJ J)), ?_, ⟨rg_up hJ1.1 ?_, fun j => ?_⟩, hf1.t (fB.u (by omega)), ur_r⟩
  · have a1 : rn_r (d + 5) 138 2 [some (.ref 193), some (.int (iI sky)), some (.int (iI ((J 194 15).toNat : Int))), none, none] [] (T, oI J1, L, R, z, w) = rn_r (d + 5) 138 68 [some (.ref 193), some (.int (iI sky)), some (.int (iI 0)), none, none] [] (T, oI J1, L, R, z, w) := by
      rw [hn]
      simp (disch := first | omega | exact hJ _ _ | exact rJ_g hJ _ _ | (simp (disch := omega) only [ur_r, ur_o, up_r, up_o]; omega) | assumption) only [s138_2, s138_3, s138_3v, s138_4, s138_7, s138_9, b138_10, s138_13, s138_13v, s138_14, s138_17, s138_18, s138_18v, s138_19, s138_22, s138_24, s138_25, s138_25v, s138_26, s138_29, s138_32, s138_33, s138_34, s138_35, b138_36, s138_39, s138_40, s138_43, s138_44, s138_45, s138_45v, s138_46, s138_49, s138_50, b138_51, s138_54, s138_54v, s138_55, s138_56, s138_57, s138_60, s138_63, s138_66, s138_67, h.t193, h.r1, h.a194, e15, kl_i, kl_r, kl_l, kl_n, kl_z, bd_s, tl_s, tl_n, ap_c, ap_n, v_s, v_n, nd_1, nd_0, ct13, eq_self, iI_add, iI_sub, iI_mul, iI_nat, iI_eq, iI_lt, iI_le, iI_eq0, iI_lt0, ↓reduceIte, if_true, if_false, not_true_eq_false, not_false_eq_true, true_and, and_true, false_and, and_false, true_or, or_true, false_or, or_false, Int.reduceLT, Int.reduceLE, Int.reduceEq, Int.reduceAdd, Int.reduceSub, Int.reduceMul, Nat.reduceAdd, Nat.reduceLT, Nat.reduceEqDiff, Int.reduceNeg, nc_s, nc_0, Int.zero_add, Int.add_zero, oI_r, oI_w, oI_f0, oI_g0, oI_f1, oI_g1, oI_f2, oI_g2, oI_f3, oI_g3, oI_f4, oI_g4, oI_f5, oI_g5, oI_f6, oI_g6, oI_f7, oI_g7, oI_f8, oI_g8, oI_f9, oI_g9, oI_f10, oI_g10, oI_f11, oI_g11, oI_f12, oI_g12, oI_f13, oI_g13, oI_f14, oI_g14, oI_f15, oI_g15, oI_f16, oI_g16, oI_f17, oI_g17, oI_f18, oI_g18, oI_f19, oI_g19, oI_f20, oI_g20, oI_f21, oI_g21, oI_f22, oI_g22, oI_f23, oI_g23, oI_f24, oI_g24, oI_f25, oI_g25, ur_r, ur_o, ur_s, up_r, up_o, up_s, dl_T, dl_F, de_T, de_F, dle_T, dle_F, iI_divn, rem_n, nd_v, ct_s, Bool.false_eq_true]
    simp (disch := first | omega | exact hJ _ _ | exact rJ_g hJ _ _ | (simp (disch := omega) only [ur_r, ur_o, up_r, up_o]; omega) | assumption) only [c138, s138_0, s138_1, kl_i, kl_r, kl_l, kl_n, kl_z, bd_s, tl_s, tl_n, ap_c, ap_n, v_s, v_n, nd_1, nd_0, ct13, eq_self, iI_add, iI_sub, iI_mul, iI_nat, iI_eq, iI_lt, iI_le, iI_eq0, iI_lt0, ↓reduceIte, if_true, if_false, not_true_eq_false, not_false_eq_true, true_and, and_true, false_and, and_false, true_or, or_true, false_or, or_false, Int.reduceLT, Int.reduceLE, Int.reduceEq, Int.reduceAdd, Int.reduceSub, Int.reduceMul, Nat.reduceAdd, Nat.reduceLT, Nat.reduceEqDiff, Int.reduceNeg, nc_s, nc_0, Int.zero_add, Int.add_zero, oI_r, oI_w, oI_f0, oI_g0, oI_f1, oI_g1, oI_f2, oI_g2, oI_f3, oI_g3, oI_f4, oI_g4, oI_f5, oI_g5, oI_f6, oI_g6, oI_f7, oI_g7, oI_f8, oI_g8, oI_f9, oI_g9, oI_f10, oI_g10, oI_f11, oI_g11, oI_f12, oI_g12, oI_f13, oI_g13, oI_f14, oI_g14, oI_f15, oI_g15, oI_f16, oI_g16, oI_f17, oI_g17, oI_f18, oI_g18, oI_f19, oI_g19, oI_f20, oI_g20, oI_f21, oI_g21, oI_f22, oI_g22, oI_f23, oI_g23, oI_f24, oI_g24, oI_f25, oI_g25, ur_r, ur_o, ur_s, up_r, up_o, up_s, dl_T, dl_F, de_T, de_F, dle_T, dle_F, iI_divn, rem_n, nd_v, ct_s, Bool.false_eq_true]
    rw [hrun1, a1, hrun2, hn]
    unfold hrJ
    simp only [] at *
    rw [← eS]
    generalize h2S (J1 200) (J1 201) (J 194 15).toNat (J1 194) = S2 at *
    have e2 : S2 15 = J 194 15 := f15.trans e15
    have e3 : S2 10 = J 194 10 := h10.trans a10
    simp (disch := first | omega | exact hJ _ _ | exact rJ_g hJ _ _ | (simp (disch := omega) only [ur_r, ur_o, up_r, up_o]; omega) | assumption) only [s138_68, s138_69, s138_69v, s138_70, s138_73, s138_75, b138_76, s138_79, s138_79v, s138_195, s138_195v, s138_196, s138_199, s138_201, s138_202, s138_203, s138_203v, s138_204, s138_207, s138_209, s138_210, s138_211, s138_212, s138_213, s138_214, h.t193, h.r1, h.a194, h.b194, e2, e3, kl_i, kl_r, kl_l, kl_n, kl_z, bd_s, tl_s, tl_n, ap_c, ap_n, v_s, v_n, nd_1, nd_0, ct13, eq_self, iI_add, iI_sub, iI_mul, iI_nat, iI_eq, iI_lt, iI_le, iI_eq0, iI_lt0, ↓reduceIte, if_true, if_false, not_true_eq_false, not_false_eq_true, true_and, and_true, false_and, and_false, true_or, or_true, false_or, or_false, Int.reduceLT, Int.reduceLE, Int.reduceEq, Int.reduceAdd, Int.reduceSub, Int.reduceMul, Nat.reduceAdd, Nat.reduceLT, Nat.reduceEqDiff, Int.reduceNeg, nc_s, nc_0, Int.zero_add, Int.add_zero, oI_r, oI_w, oI_f0, oI_g0, oI_f1, oI_g1, oI_f2, oI_g2, oI_f3, oI_g3, oI_f4, oI_g4, oI_f5, oI_g5, oI_f6, oI_g6, oI_f7, oI_g7, oI_f8, oI_g8, oI_f9, oI_g9, oI_f10, oI_g10, oI_f11, oI_g11, oI_f12, oI_g12, oI_f13, oI_g13, oI_f14, oI_g14, oI_f15, oI_g15, oI_f16, oI_g16, oI_f17, oI_g17, oI_f18, oI_g18, oI_f19, oI_g19, oI_f20, oI_g20, oI_f21, oI_g21, oI_f22, oI_g22, oI_f23, oI_g23, oI_f24, oI_g24, oI_f25, oI_g25, ur_r, ur_o, ur_s, up_r, up_o, up_s, dl_T, dl_F, de_T, de_F, dle_T, dle_F, iI_divn, rem_n, nd_v, ct_s, Bool.false_eq_true]
  · unfold hrJ
    simp only []
    rw [← eS]
    exact up_rng (up_rng hr2 (by omega)) (by omega)
  · rw [ur_o (by omega)]; exact hJ1.2 j
end HH
