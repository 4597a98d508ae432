/-! all skies -/
section AK
variable {d : Nat} {T : Nat → Nat × Nat} {R : Nat → Nat → Option Nat} {z w : Nat} {J Q : mR}
abbrev aA : Type := Int × Int × (Int → Int)
def stV (V : Int → Int) (o : Int) (S : Int → Int) : Int → Int := up (up (up (up V 0 (V 0 + o * S 0)) 1 (V 1 + o * S 1)) 2 (V 2 + o * S 2)) 3 (V 3 + o * S 3)
/-- all skies of so many hours: costs, dry, what stands, by weight -/
def asS (ts : List Int) : Nat → (Int → Int) → Int → aA → aA
  | 0, S, o, A => (A.1 + o * S 12, A.2.1 + (if S 13 = 0 then o else 0), stV A.2.2 o S)
  | n + 1, S, o, A =>
    if 0 < rainS ts (S 10) (S 11) then asS ts n (hrS ts S 1) (o * rainS ts (S 10) (S 11)) (if rainS ts (S 10) (S 11) < 10 then asS ts n (hrS ts S 0) (o * (10 - rainS ts (S 10) (S 11))) A else A)
    else (if rainS ts (S 10) (S 11) < 10 then asS ts n (hrS ts S 0) (o * (10 - rainS ts (S 10) (S 11))) A else A)
def aQ (Q : mR) (A : aA) : mR := ur (ur Q 193 (up (up (Q 193) 17 A.1) 18 A.2.1)) 202 A.2.2
abbrev Qa (Q : mR) : aA := (Q 193 17, Q 193 18, Q 202)
theorem aQ_e : aQ Q (Qa Q) = Q := by
  unfold aQ Qa
  simp only [up_e, ur_e]
theorem aQ_a (A B : aA) : aQ (aQ Q A) B = aQ Q B := by
  unfold aQ
  funext c j
  unfold ur up
  by_cases h1 : c = 202
  · simp [h1]
  · by_cases h2 : c = 193
    · subst h2
      by_cases h3 : j = 18 <;> by_cases h4 : j = 17 <;> simp [h3, h4]
    · simp [h1, h2]
theorem Qa_a (A : aA) : Qa (aQ Q A) = A := by
  unfold Qa aQ
  simp (disch := omega) only [ur_o, ur_r, up_r, up_o]
/-- what allSkies changes -/
def fC (f : Int) (J J' : mR) : Prop := (∀ b, ¬ b = 193 → ¬ b = 196 → ¬ b = 197 → ¬ b = 198 → ¬ b = 199 → ¬ b = 200 → ¬ b = 201 → J' b = J b) ∧ (∀ j, ¬ j = 12 → ¬ j = 13 → J' 193 j = J 193 j) ∧ (∀ j, j < 15 * (f + 1) → J' 196 j = J 196 j)
theorem fC.i {f : Int} : fC f J J := ⟨fun _ _ _ _ _ _ _ _ => rfl, fun _ _ _ => rfl, fun _ _ => rfl⟩
theorem fC.t {f : Int} {J J' J'' : mR} (h : fC f J J') (g : fC f J' J'') : fC f J J'' := ⟨fun b h1 h2 h3 h4 h5 h6 h7 => (g.1 b h1 h2 h3 h4 h5 h6 h7).trans (h.1 b h1 h2 h3 h4 h5 h6 h7), fun j h1 h2 => (g.2.1 j h1 h2).trans (h.2.1 j h1 h2), fun j h1 => (g.2.2 j h1).trans (h.2.2 j h1)⟩
theorem fC.m {f g : Int} {J J' : mR} (h : fC g J J') (hf : f ≤ g) : fC f J J' := ⟨h.1, h.2.1, fun j h1 => h.2.2 j (by omega)⟩
theorem fA.cc {f : Int} {J J' : mR} (h : fA J J') : fC f J J' := ⟨fun b h1 _ h3 h4 _ _ _ => h.1 b h1 h3 h4, h.2, fun j _ => by rw [h.1 196 (by omega) (by omega) (by omega)]⟩
theorem as_leaf (h : rM T R) (hJ : rJ J) (ho : oS (J 194)) (hc : tB 900000 (J 194)) (f o : Int) (hf : 0 ≤ f ∧ f < 11) : rn_c (d + 6) 143 [.ref 193, .int (iI f), .int (iI f), .long (jI o)] (T, oI J, oL Q, R, z, w) = some (none, (T, oI J, oL (aQ Q (asS [] 0 (J 194) o (Qa Q))), R, z, w)) := by
  have h0 := ho.2.1 0 (by omega)
  have h1 := ho.2.1 1 (by omega)
  have h2 := ho.2.1 2 (by omega)
  have h3 := ho.2.1 3 (by omega)
  unfold asS stV Qa aQ
  have hh := hc.1
  have hw := hc.2.1
  (simp (disch := first | omega | exact hJ _ _ | exact rJ_g hJ _ _ | (simp (disch := omega) only [ur_r, ur_o, up_r, up_o]; omega) | assumption) only [c143, s143_0, s143_1, b143_2, s143_5, s143_5v, s143_6, s143_7, s143_10, s143_11, s143_11v, s143_12, s143_15, s143_17, s143_18, s143_19, s143_20, s143_21, s143_24, s143_24v, s143_25, s143_26, s143_29, s143_29v, s143_30, s143_33, s143_35, b143_36, s143_39, s143_40, s143_43, s143_44, s143_45, s143_48, s143_49, s143_51, s143_53, b143_54, s143_57, s143_57v, s143_58, s143_61, s143_63, s143_64, s143_65, s143_66, s143_66v, s143_67, s143_70, s143_71, s143_73, s143_74, s143_75, s143_76, s143_77, s143_78, s143_79, s143_82, s143_85, s143_86, s143_86v, s143_87, s143_87v, s143_88, s143_91, s143_93, s143_94, s143_94v, s143_95, s143_98, s143_100, s143_101, s143_104, s143_106, s143_106v, s143_107, s143_108, s143_109, s143_110, s143_113, s143_115, b143_117, s143_120, s143_120v, s143_121, s143_122, s143_125, s143_125v, s143_126, s143_127, s143_128, s143_129, s143_130, s143_131, s143_133, s143_135, s143_136, s143_137, s143_138, s143_141, s143_141v, s143_142, s143_143, s143_144, s143_145, s143_148, b143_150, s143_153, s143_153v, s143_154, s143_155, s143_158, s143_158v, s143_159, s143_160, s143_161, s143_162, s143_163, s143_164, s143_166, s143_167, s143_168, s143_171, s143_171v, s143_172, s143_173, s143_174, s143_175, s143_178, h.t193, h.r1, h.r19, h.a194, h.a202, h.b202, kl_i, kl_r, kl_l, kl_n, kl_z, bd_s, tl_s, tl_n, ap_c, ap_n, v_s, v_n, nd_1, nd_0, ct13, eq_self, iI_add, iI_sub, iI_mul, iI_nat, iI_eq, iI_lt, iI_le, iI_eq0, iI_lt0, ↓reduceIte, if_true, if_false, not_true_eq_false, not_false_eq_true, true_and, and_true, false_and, and_false, true_or, or_true, false_or, or_false, Int.reduceLT, Int.reduceLE, Int.reduceEq, Int.reduceAdd, Int.reduceSub, Int.reduceMul, Nat.reduceAdd, Nat.reduceLT, Nat.reduceEqDiff, Int.reduceNeg, nc_s, nc_0, Int.zero_add, Int.add_zero, oI_r, oI_w, oI_f0, oI_g0, oI_f1, oI_g1, oI_f2, oI_g2, oI_f3, oI_g3, oI_f4, oI_g4, oI_f5, oI_g5, oI_f6, oI_g6, oI_f7, oI_g7, oI_f8, oI_g8, oI_f9, oI_g9, oI_f10, oI_g10, oI_f11, oI_g11, oI_f12, oI_g12, oI_f13, oI_g13, oI_f14, oI_g14, oI_f15, oI_g15, oI_f16, oI_g16, oI_f17, oI_g17, oI_f18, oI_g18, oI_f19, oI_g19, oI_f20, oI_g20, oI_f21, oI_g21, oI_f22, oI_g22, oI_f23, oI_g23, oI_f24, oI_g24, oI_f25, oI_g25, ur_r, ur_o, ur_s, up_r, up_o, up_s, jI_add, jI_sub, jI_mul, jI_neg, jI_i, jI_n, lgc_j, cj_lt, cj_ge, cj_gt, cj_le, cj_eq, oL_r, oL_w, oL_f6, oL_g6, oL_f7, oL_g7, oL_f17, oL_g17, oL_f18, oL_g18, dl_T, dl_F, de_T, de_F, dle_T, dle_F, iI_divn, rem_n, nd_v, ct_s, Bool.false_eq_true]; repeat' (split <;> (try simp (disch := first | omega | exact hJ _ _ | exact rJ_g hJ _ _ | (simp (disch := omega) only [ur_r, ur_o, up_r, up_o]; omega) | assumption) only [c143, s143_0, s143_1, b143_2, s143_5, s143_5v, s143_6, s143_7, s143_10, s143_11, s143_11v, s143_12, s143_15, s143_17, s143_18, s143_19, s143_20, s143_21, s143_24, s143_24v, s143_25, s143_26, s143_29, s143_29v, s143_30, s143_33, s143_35, b143_36, s143_39, s143_40, s143_43, s143_44, s143_45, s143_48, s143_49, s143_51, s143_53, b143_54, s143_57, s143_57v, s143_58, s143_61, s143_63, s143_64, s143_65, s143_66, s143_66v, s143_67, s143_70, s143_71, s143_73, s143_74, s143_75, s143_76, s143_77, s143_78, s143_79, s143_82, s143_85, s143_86, s143_86v, s143_87, s143_87v, s143_88, s143_91, s143_93, s143_94, s143_94v, s143_95, s143_98, s143_100, s143_101, s143_104, s143_106, s143_106v, s143_107, s143_108, s143_109, s143_110, s143_113, s143_115, b143_117, s143_120, s143_120v, s143_121, s143_122, s143_125, s143_125v, s143_126, s143_127, s143_128, s143_129, s143_130, s143_131, s143_133, s143_135, s143_136, s143_137, s143_138, s143_141, s143_141v, s143_142, s143_143, s143_144, s143_145, s143_148, b143_150, s143_153, s143_153v, s143_154, s143_155, s143_158, s143_158v, s143_159, s143_160, s143_161, s143_162, s143_163, s143_164, s143_166, s143_167, s143_168, s143_171, s143_171v, s143_172, s143_173, s143_174, s143_175, s143_178, h.t193, h.r1, h.r19, h.a194, h.a202, h.b202, kl_i, kl_r, kl_l, kl_n, kl_z, bd_s, tl_s, tl_n, ap_c, ap_n, v_s, v_n, nd_1, nd_0, ct13, eq_self, iI_add, iI_sub, iI_mul, iI_nat, iI_eq, iI_lt, iI_le, iI_eq0, iI_lt0, ↓reduceIte, if_true, if_false, not_true_eq_false, not_false_eq_true, true_and, and_true, false_and, and_false, true_or, or_true, false_or, or_false, Int.reduceLT, Int.reduceLE, Int.reduceEq, Int.reduceAdd, Int.reduceSub, Int.reduceMul, Nat.reduceAdd, Nat.reduceLT, Nat.reduceEqDiff, Int.reduceNeg, nc_s, nc_0, Int.zero_add, Int.add_zero, oI_r, oI_w, oI_f0, oI_g0, oI_f1, oI_g1, oI_f2, oI_g2, oI_f3, oI_g3, oI_f4, oI_g4, oI_f5, oI_g5, oI_f6, oI_g6, oI_f7, oI_g7, oI_f8, oI_g8, oI_f9, oI_g9, oI_f10, oI_g10, oI_f11, oI_g11, oI_f12, oI_g12, oI_f13, oI_g13, oI_f14, oI_g14, oI_f15, oI_g15, oI_f16, oI_g16, oI_f17, oI_g17, oI_f18, oI_g18, oI_f19, oI_g19, oI_f20, oI_g20, oI_f21, oI_g21, oI_f22, oI_g22, oI_f23, oI_g23, oI_f24, oI_g24, oI_f25, oI_g25, ur_r, ur_o, ur_s, up_r, up_o, up_s, jI_add, jI_sub, jI_mul, jI_neg, jI_i, jI_n, lgc_j, cj_lt, cj_ge, cj_gt, cj_le, cj_eq, oL_r, oL_w, oL_f6, oL_g6, oL_f7, oL_g7, oL_f17, oL_g17, oL_f18, oL_g18, dl_T, dl_F, de_T, de_F, dle_T, dle_F, iI_divn, rem_n, nd_v, ct_s, Bool.false_eq_true])))
end AK
