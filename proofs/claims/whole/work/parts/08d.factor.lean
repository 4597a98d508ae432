/-! the reference's factor -/
section PF
variable {d : Nat} {T : Nat → Nat × Nat} {L : Nat → Nat → Int64} {R : Nat → Nat → Option Nat} {z w : Nat} {J : mR} {a n i o b : Int} {t S : Int → Int}
theorem n_factor_w (h : rM T R) (i : Int) (S : Int → Int) : rn_c d 118 [.ref 193] (T, oI (pM J i 1 o S), L, R, z, w) = some (none, (T, oI (pM J i 1 o S), L, R, z, w)) := by
  simp (disch := first | omega | exact hJ _ _ | exact rJ_g hJ _ _ | (simp (disch := omega) only [ur_r, ur_o, up_r, up_o]; omega) | assumption) only [c118, s118_0, s118_0v, s118_1, b118_4, s118_7, h.t193, kl_i, kl_r, kl_l, kl_n, kl_z, bd_s, tl_s, tl_n, ap_c, ap_n, v_s, v_n, nd_1, nd_0, ct13, eq_self, iI_add, iI_sub, iI_mul, iI_nat, iI_eq, iI_lt, iI_le, iI_eq0, iI_lt0, ↓reduceIte, if_true, if_false, not_true_eq_false, not_false_eq_true, true_and, and_true, false_and, and_false, true_or, or_true, false_or, or_false, Int.reduceLT, Int.reduceLE, Int.reduceEq, Int.reduceAdd, Int.reduceSub, Int.reduceMul, Nat.reduceAdd, Nat.reduceLT, Nat.reduceEqDiff, Int.reduceNeg, nc_s, nc_0, Int.zero_add, Int.add_zero, oI_r, oI_w, oI_f0, oI_g0, oI_f1, oI_g1, oI_f2, oI_g2, oI_f3, oI_g3, oI_f4, oI_g4, oI_f5, oI_g5, oI_f6, oI_g6, oI_f7, oI_g7, oI_f8, oI_g8, oI_f9, oI_g9, oI_f10, oI_g10, oI_f11, oI_g11, oI_f12, oI_g12, oI_f13, oI_g13, oI_f14, oI_g14, oI_f15, oI_g15, oI_f16, oI_g16, oI_f17, oI_g17, oI_f18, oI_g18, oI_f19, oI_g19, oI_f20, oI_g20, oI_f21, oI_g21, oI_f22, oI_g22, oI_f23, oI_g23, oI_f24, oI_g24, oI_f25, oI_g25, ur_r, ur_o, ur_s, up_r, up_o, up_s, jI_add, jI_sub, jI_mul, jI_neg, jI_i, jI_n, lgc_j, cj_lt, cj_ge, cj_gt, cj_le, cj_eq, oL_r, oL_w, oL_f6, oL_g6, oL_f7, oL_g7, oL_f17, oL_g17, oL_f18, oL_g18, dl_T, dl_F, de_T, de_F, dle_T, dle_F, iI_divn, rem_n, nd_v, ct_s, Bool.false_eq_true]
theorem n_some_w' (h : rM T R) (i : Int) (S : Int → Int) : rn_c (d + 5) 120 [.ref 193] (T, oI (pM J i 1 o S), L, R, z, w) = some (none, (T, oI (pM J i 1 o S), L, R, z, w)) :=
  n_some_w (d := d + 1) h (fun i S => n_every_w (d := d) h (fun i S => n_factor_w h i S) i S) i S
theorem n_test (h : rM T R) (hs : sK T J) (hp : pH J a n) (hn : 0 ≤ n ∧ n ≤ 120) (c0 : ¬ atP t n i = 33) (c1 : ¬ atP t n i = 40) (h0 : 0 ≤ i) (hi : i ≤ n) (hx : tX S t n) (hc0 : 0 ≤ S (235 + a)) (hc1 : S (235 + a) ≤ i) : ∃ S' : Int → Int, rn_c (d + 6) 118 [.ref 193] (T, oI (pM J i 0 o S), L, R, z, w) = some (none, (T, oI (pM J (teP t n i).1 (bw (teP t n i)) o S'), L, R, z, w)) ∧ resT a S (teP t n i) S' := by
  have r := atP_r hx h0
  have hh := n_here (d := d + 5) (L := L) (z := z) (w := w) (i := i) (b := 0) (o := o) h hp hx (by omega)
  have a5 := n_among5 (d := d) (L := L) (z := z) (w := w) (i := i) (b := 0) (o := o) h hs hp hx (by omega)
  have x5 := ix5_r (atP t n i)
  unfold teP
  by_cases k5 : ix5 (atP t n i) = -1
  · rw [if_pos k5]
    rw [k5, if_pos rfl] at a5
    have fw := n_fig_w (d := d + 4) (L := L) (z := z) (w := w) (i := i) (o := o) h hp hx (by omega)
    refine ⟨S, ?_, ⟨fun ts q => (by cases q), fun _ _ _ => rfl⟩⟩
    simp only [bw_n]
    simp (disch := first | omega | exact hJ _ _ | exact rJ_g hJ _ _ | (simp (disch := omega) only [ur_r, ur_o, up_r, up_o]; omega) | assumption) only [c118, s118_0, s118_0v, s118_1, b118_4, s118_7, s118_8, s118_8v, s118_9, s118_12, s118_13, s118_14, b118_16, s118_19, s118_20, b118_22, s118_112, s118_112v, s118_113, s118_115, s118_118, s118_119, s118_119v, s118_120, s118_121, b118_122, s118_125, s118_126, s118_129, s118_130, s118_133, s118_133v, s118_134, b118_137, s118_140, s118_141, s118_144, s118_144v, s118_145, s118_147, s118_150, s118_151, s118_151v, s118_152, s118_152v, s118_153, b118_156, s118_159, s118_160, b118_161, s118_164, s118_165, s118_168, s118_169, s118_172, s118_172v, s118_173, s118_176, s118_178, s118_178v, s118_179, s118_180, s118_182, s118_183, s118_184, s118_185, s118_187, s118_189, s118_190, s118_191, s118_194, h.t193, hh, a5, fw, n_emits_w h hp, up_c, ur_c, kl_i, kl_r, kl_l, kl_n, kl_z, bd_s, tl_s, tl_n, ap_c, ap_n, v_s, v_n, nd_1, nd_0, ct13, eq_self, iI_add, iI_sub, iI_mul, iI_nat, iI_eq, iI_lt, iI_le, iI_eq0, iI_lt0, ↓reduceIte, if_true, if_false, not_true_eq_false, not_false_eq_true, true_and, and_true, false_and, and_false, true_or, or_true, false_or, or_false, Int.reduceLT, Int.reduceLE, Int.reduceEq, Int.reduceAdd, Int.reduceSub, Int.reduceMul, Nat.reduceAdd, Nat.reduceLT, Nat.reduceEqDiff, Int.reduceNeg, nc_s, nc_0, Int.zero_add, Int.add_zero, oI_r, oI_w, oI_f0, oI_g0, oI_f1, oI_g1, oI_f2, oI_g2, oI_f3, oI_g3, oI_f4, oI_g4, oI_f5, oI_g5, oI_f6, oI_g6, oI_f7, oI_g7, oI_f8, oI_g8, oI_f9, oI_g9, oI_f10, oI_g10, oI_f11, oI_g11, oI_f12, oI_g12, oI_f13, oI_g13, oI_f14, oI_g14, oI_f15, oI_g15, oI_f16, oI_g16, oI_f17, oI_g17, oI_f18, oI_g18, oI_f19, oI_g19, oI_f20, oI_g20, oI_f21, oI_g21, oI_f22, oI_g22, oI_f23, oI_g23, oI_f24, oI_g24, oI_f25, oI_g25, ur_r, ur_o, ur_s, up_r, up_o, up_s, jI_add, jI_sub, jI_mul, jI_neg, jI_i, jI_n, lgc_j, cj_lt, cj_ge, cj_gt, cj_le, cj_eq, oL_r, oL_w, oL_f6, oL_g6, oL_f7, oL_g7, oL_f17, oL_g17, oL_f18, oL_g18, dl_T, dl_F, de_T, de_F, dle_T, dle_F, iI_divn, rem_n, nd_v, ct_s, Bool.false_eq_true]
  rw [if_neg k5]
  have h1 := ix5_n k5
  have a3 := n_among3 (d := d) (L := L) (z := z) (w := w) (i := i + 1) (b := 0) (o := o) h hs hp hx (by omega)
  have x3 := ix3_r (atP t n (i + 1))
  rw [if_neg k5] at a5
  by_cases k3 : ix3 (atP t n (i + 1)) = -1
  · rw [if_pos k3]
    rw [k3, if_pos rfl] at a3
    have fw := n_fig_w (d := d + 4) (L := L) (z := z) (w := w) (i := i + 1) (o := o) h hp hx (by omega)
    refine ⟨S, ?_, ⟨fun ts q => (by cases q), fun _ _ _ => rfl⟩⟩
    simp only [bw_n]
    simp (disch := first | omega | exact hJ _ _ | exact rJ_g hJ _ _ | (simp (disch := omega) only [ur_r, ur_o, up_r, up_o]; omega) | assumption) only [c118, s118_0, s118_0v, s118_1, b118_4, s118_7, s118_8, s118_8v, s118_9, s118_12, s118_13, s118_14, b118_16, s118_19, s118_20, b118_22, s118_112, s118_112v, s118_113, s118_115, s118_118, s118_119, s118_119v, s118_120, s118_121, b118_122, s118_125, s118_126, s118_129, s118_130, s118_133, s118_133v, s118_134, b118_137, s118_140, s118_141, s118_144, s118_144v, s118_145, s118_147, s118_150, s118_151, s118_151v, s118_152, s118_152v, s118_153, b118_156, s118_159, s118_160, b118_161, s118_164, s118_165, s118_168, s118_169, s118_172, s118_172v, s118_173, s118_176, s118_178, s118_178v, s118_179, s118_180, s118_182, s118_183, s118_184, s118_185, s118_187, s118_189, s118_190, s118_191, s118_194, h.t193, hh, a5, a3, fw, n_emits_w h hp, up_c, ur_c, kl_i, kl_r, kl_l, kl_n, kl_z, bd_s, tl_s, tl_n, ap_c, ap_n, v_s, v_n, nd_1, nd_0, ct13, eq_self, iI_add, iI_sub, iI_mul, iI_nat, iI_eq, iI_lt, iI_le, iI_eq0, iI_lt0, ↓reduceIte, if_true, if_false, not_true_eq_false, not_false_eq_true, true_and, and_true, false_and, and_false, true_or, or_true, false_or, or_false, Int.reduceLT, Int.reduceLE, Int.reduceEq, Int.reduceAdd, Int.reduceSub, Int.reduceMul, Nat.reduceAdd, Nat.reduceLT, Nat.reduceEqDiff, Int.reduceNeg, nc_s, nc_0, Int.zero_add, Int.add_zero, oI_r, oI_w, oI_f0, oI_g0, oI_f1, oI_g1, oI_f2, oI_g2, oI_f3, oI_g3, oI_f4, oI_g4, oI_f5, oI_g5, oI_f6, oI_g6, oI_f7, oI_g7, oI_f8, oI_g8, oI_f9, oI_g9, oI_f10, oI_g10, oI_f11, oI_g11, oI_f12, oI_g12, oI_f13, oI_g13, oI_f14, oI_g14, oI_f15, oI_g15, oI_f16, oI_g16, oI_f17, oI_g17, oI_f18, oI_g18, oI_f19, oI_g19, oI_f20, oI_g20, oI_f21, oI_g21, oI_f22, oI_g22, oI_f23, oI_g23, oI_f24, oI_g24, oI_f25, oI_g25, ur_r, ur_o, ur_s, up_r, up_o, up_s, jI_add, jI_sub, jI_mul, jI_neg, jI_i, jI_n, lgc_j, cj_lt, cj_ge, cj_gt, cj_le, cj_eq, oL_r, oL_w, oL_f6, oL_g6, oL_f7, oL_g7, oL_f17, oL_g17, oL_f18, oL_g18, dl_T, dl_F, de_T, de_F, dle_T, dle_F, iI_divn, rem_n, nd_v, ct_s, Bool.false_eq_true]
  rw [if_neg k3]
  have h2 := ix3_n k3
  rw [if_neg k3] at a3
  have hi2 : i + 1 + 1 = i + 2 := by omega
  have ff := n_fig (d := d + 4) (L := L) (z := z) (w := w) (i := i + 2) (o := o) h hp hx (by omega)
  have fr := nuP_r (t := t) (n := n) (i := i + 2)
  by_cases kn : (nuP t n (i + 2)).2 = -1
  · rw [if_pos kn]
    rw [if_pos kn, if_pos kn] at ff
    have e2 : (nuP t n (i + 2)).1 = i + 2 := fr.2.2.2.2.2 kn
    rw [e2] at ff
    refine ⟨S, ?_, ⟨fun ts q => (by cases q), fun _ _ _ => rfl⟩⟩
    simp only [bw_n]
    simp (disch := first | omega | exact hJ _ _ | exact rJ_g hJ _ _ | (simp (disch := omega) only [ur_r, ur_o, up_r, up_o]; omega) | assumption) only [c118, s118_0, s118_0v, s118_1, b118_4, s118_7, s118_8, s118_8v, s118_9, s118_12, s118_13, s118_14, b118_16, s118_19, s118_20, b118_22, s118_112, s118_112v, s118_113, s118_115, s118_118, s118_119, s118_119v, s118_120, s118_121, b118_122, s118_125, s118_126, s118_129, s118_130, s118_133, s118_133v, s118_134, b118_137, s118_140, s118_141, s118_144, s118_144v, s118_145, s118_147, s118_150, s118_151, s118_151v, s118_152, s118_152v, s118_153, b118_156, s118_159, s118_160, b118_161, s118_164, s118_165, s118_168, s118_169, s118_172, s118_172v, s118_173, s118_176, s118_178, s118_178v, s118_179, s118_180, s118_182, s118_183, s118_184, s118_185, s118_187, s118_189, s118_190, s118_191, s118_194, h.t193, hh, a5, a3, ff, n_emits_w h hp, up_c, ur_c, hi2, kl_i, kl_r, kl_l, kl_n, kl_z, bd_s, tl_s, tl_n, ap_c, ap_n, v_s, v_n, nd_1, nd_0, ct13, eq_self, iI_add, iI_sub, iI_mul, iI_nat, iI_eq, iI_lt, iI_le, iI_eq0, iI_lt0, ↓reduceIte, if_true, if_false, not_true_eq_false, not_false_eq_true, true_and, and_true, false_and, and_false, true_or, or_true, false_or, or_false, Int.reduceLT, Int.reduceLE, Int.reduceEq, Int.reduceAdd, Int.reduceSub, Int.reduceMul, Nat.reduceAdd, Nat.reduceLT, Nat.reduceEqDiff, Int.reduceNeg, nc_s, nc_0, Int.zero_add, Int.add_zero, oI_r, oI_w, oI_f0, oI_g0, oI_f1, oI_g1, oI_f2, oI_g2, oI_f3, oI_g3, oI_f4, oI_g4, oI_f5, oI_g5, oI_f6, oI_g6, oI_f7, oI_g7, oI_f8, oI_g8, oI_f9, oI_g9, oI_f10, oI_g10, oI_f11, oI_g11, oI_f12, oI_g12, oI_f13, oI_g13, oI_f14, oI_g14, oI_f15, oI_g15, oI_f16, oI_g16, oI_f17, oI_g17, oI_f18, oI_g18, oI_f19, oI_g19, oI_f20, oI_g20, oI_f21, oI_g21, oI_f22, oI_g22, oI_f23, oI_g23, oI_f24, oI_g24, oI_f25, oI_g25, ur_r, ur_o, ur_s, up_r, up_o, up_s, jI_add, jI_sub, jI_mul, jI_neg, jI_i, jI_n, lgc_j, cj_lt, cj_ge, cj_gt, cj_le, cj_eq, oL_r, oL_w, oL_f6, oL_g6, oL_f7, oL_g7, oL_f17, oL_g17, oL_f18, oL_g18, dl_T, dl_F, de_T, de_F, dle_T, dle_F, iI_divn, rem_n, nd_v, ct_s, Bool.false_eq_true]
  · rw [if_neg kn]
    rw [if_neg kn, if_neg kn] at ff
    have em (v : Int) := n_emits (d := d + 5) (L := L) (R := R) (z := z) (w := w) (i := (nuP t n (i + 2)).1) (o := o) (S := S) h hp v (by omega)
    refine ⟨emS a S (ix5 (atP t n i) + 8 * ix3 (atP t n (i + 1)) + 32 * (nuP t n (i + 2)).2), ?_, ⟨fun ts q => ?_, emS_o (by omega) hp.2.1⟩⟩
    · simp only [bw_s]
      simp (disch := first | omega | exact hJ _ _ | exact rJ_g hJ _ _ | (simp (disch := omega) only [ur_r, ur_o, up_r, up_o]; omega) | assumption) only [c118, s118_0, s118_0v, s118_1, b118_4, s118_7, s118_8, s118_8v, s118_9, s118_12, s118_13, s118_14, b118_16, s118_19, s118_20, b118_22, s118_112, s118_112v, s118_113, s118_115, s118_118, s118_119, s118_119v, s118_120, s118_121, b118_122, s118_125, s118_126, s118_129, s118_130, s118_133, s118_133v, s118_134, b118_137, s118_140, s118_141, s118_144, s118_144v, s118_145, s118_147, s118_150, s118_151, s118_151v, s118_152, s118_152v, s118_153, b118_156, s118_159, s118_160, b118_161, s118_164, s118_165, s118_168, s118_169, s118_172, s118_172v, s118_173, s118_176, s118_178, s118_178v, s118_179, s118_180, s118_182, s118_183, s118_184, s118_185, s118_187, s118_189, s118_190, s118_191, s118_194, h.t193, hh, a5, a3, ff, em, up_c, ur_c, hi2, kl_i, kl_r, kl_l, kl_n, kl_z, bd_s, tl_s, tl_n, ap_c, ap_n, v_s, v_n, nd_1, nd_0, ct13, eq_self, iI_add, iI_sub, iI_mul, iI_nat, iI_eq, iI_lt, iI_le, iI_eq0, iI_lt0, ↓reduceIte, if_true, if_false, not_true_eq_false, not_false_eq_true, true_and, and_true, false_and, and_false, true_or, or_true, false_or, or_false, Int.reduceLT, Int.reduceLE, Int.reduceEq, Int.reduceAdd, Int.reduceSub, Int.reduceMul, Nat.reduceAdd, Nat.reduceLT, Nat.reduceEqDiff, Int.reduceNeg, nc_s, nc_0, Int.zero_add, Int.add_zero, oI_r, oI_w, oI_f0, oI_g0, oI_f1, oI_g1, oI_f2, oI_g2, oI_f3, oI_g3, oI_f4, oI_g4, oI_f5, oI_g5, oI_f6, oI_g6, oI_f7, oI_g7, oI_f8, oI_g8, oI_f9, oI_g9, oI_f10, oI_g10, oI_f11, oI_g11, oI_f12, oI_g12, oI_f13, oI_g13, oI_f14, oI_g14, oI_f15, oI_g15, oI_f16, oI_g16, oI_f17, oI_g17, oI_f18, oI_g18, oI_f19, oI_g19, oI_f20, oI_g20, oI_f21, oI_g21, oI_f22, oI_g22, oI_f23, oI_g23, oI_f24, oI_g24, oI_f25, oI_g25, ur_r, ur_o, ur_s, up_r, up_o, up_s, jI_add, jI_sub, jI_mul, jI_neg, jI_i, jI_n, lgc_j, cj_lt, cj_ge, cj_gt, cj_le, cj_eq, oL_r, oL_w, oL_f6, oL_g6, oL_f7, oL_g7, oL_f17, oL_g17, oL_f18, oL_g18, dl_T, dl_F, de_T, de_F, dle_T, dle_F, iI_divn, rem_n, nd_v, ct_s, Bool.false_eq_true]
    · cases q; rfl
theorem faP_g (t : Int → Int) (n : Int) : ∀ l, gP n (faP t n l) := by
  intro l
  induction l with
  | zero =>
    intro i h0 hi
    simp only [faP]
    split
    · exact ⟨Int.le_refl _, hi, fun ts q => (by cases q)⟩
    split
    · exact ⟨Int.le_refl _, hi, fun ts q => (by cases q)⟩
    · exact teP_g i h0 hi
  | succ l ih =>
    intro i h0 hi
    simp only [faP]
    split
    · rename_i e
      have hin := atP_n e (by decide)
      obtain ⟨q1, q2, q3⟩ := ih (i + 1) (by omega) (by omega)
      generalize faP t n l (i + 1) = q at *
      obtain ⟨j, ots⟩ := q
      have q1 : i + 1 ≤ j := q1
      cases ots with
      | none => exact ⟨by show i ≤ j; omega, q2, fun ts q => (by cases q)⟩
      | some ts =>
        have q3' : (ts.length : Int) ≤ j - (i + 1) ∧ i + 1 < j := q3 ts rfl
        rw [bnd_ss (k := j) (us := [-1]) rfl]
        refine ⟨by show i ≤ j; omega, q2, fun us q => ?_⟩
        cases q
        show ((ts ++ [-1]).length : Int) ≤ j - i ∧ i < j
        rw [List.length_append]
        simp only [List.length_cons, List.length_nil]
        omega
    split
    · rename_i e
      have hin := atP_n e (by decide)
      obtain ⟨q1, q2, q3⟩ := soP_g ih (i + 1) (by omega) (by omega)
      generalize soP t n (faP t n l) (i + 1) = q at *
      obtain ⟨j, ots⟩ := q
      have q1 : i + 1 ≤ j := q1
      have q2 : j ≤ n := q2
      cases ots with
      | none => exact ⟨by show i ≤ j; omega, q2, fun ts q => (by cases q)⟩
      | some ts =>
        have q3' : (ts.length : Int) ≤ j - (i + 1) ∧ i + 1 < j := q3 ts rfl
        by_cases e41 : atP t n j = 41
        · have hjn := atP_n e41 (by decide)
          rw [bnd_ss (k := j + 1) (us := []) (by simp only [if_pos e41])]
          refine ⟨by show i ≤ j + 1; omega, by show j + 1 ≤ n; omega, fun us q => ?_⟩
          cases q
          show ((ts ++ []).length : Int) ≤ j + 1 - i ∧ i < j + 1
          rw [List.append_nil]
          omega
        · rw [bnd_sn (k := j) (by simp only [if_neg e41])]
          exact ⟨by show i ≤ j; omega, q2, fun ts q => (by cases q)⟩
    · exact teP_g i h0 hi
theorem n_factor (h : rM T R) (hs : sK T J) (hp : pH J a n) (hn : 0 ≤ n ∧ n ≤ 120) : ∀ (l d : Nat) (o : Int), o = 5 - l → l ≤ 5 → runsP T R J a n t L z w (d + 6 + 3 * l) 118 o (faP t n l) := by
  intro l
  induction l with
  | zero =>
    intro d o ho hl i S h0 hi hx hc0 hc1
    have hh := n_here (d := d + 5) (L := L) (z := z) (w := w) (i := i) (b := 0) (o := o) h hp hx (by omega)
    by_cases c0 : atP t n i = 33
    · simp only [faP, if_pos c0]
      refine ⟨S, ?_, ⟨fun ts q => (by cases q), fun _ _ _ => rfl⟩⟩
      simp only [bw_n]
      simp (disch := first | omega | exact hJ _ _ | exact rJ_g hJ _ _ | (simp (disch := omega) only [ur_r, ur_o, up_r, up_o]; omega) | assumption) only [c118, s118_0, s118_0v, s118_1, b118_4, s118_7, s118_8, s118_8v, s118_9, s118_12, s118_13, s118_14, b118_16, s118_19, s118_20, b118_22, s118_25, s118_25v, s118_26, s118_26v, s118_27, s118_30, b118_31, s118_34, s118_35, s118_38, s118_39, s118_42, s118_42v, s118_43, s118_44, s118_47, s118_48, s118_49, s118_52, s118_52v, s118_53, s118_54, s118_57, s118_57v, s118_58, b118_61, s118_64, s118_65, s118_68, s118_69, s118_70, s118_73, s118_74, b118_76, s118_79, s118_79v, s118_80, s118_83, s118_83v, s118_84, s118_85, s118_88, s118_91, s118_91v, s118_92, s118_95, s118_95v, s118_96, s118_98, s118_101, s118_101v, s118_102, s118_103, s118_106, s118_107, s118_108, s118_111, h.t193, Int.add_sub_cancel, hh, c0, n_factor_w h, n_emits_w h hp, up_c, ur_c, kl_i, kl_r, kl_l, kl_n, kl_z, bd_s, tl_s, tl_n, ap_c, ap_n, v_s, v_n, nd_1, nd_0, ct13, eq_self, iI_add, iI_sub, iI_mul, iI_nat, iI_eq, iI_lt, iI_le, iI_eq0, iI_lt0, ↓reduceIte, if_true, if_false, not_true_eq_false, not_false_eq_true, true_and, and_true, false_and, and_false, true_or, or_true, false_or, or_false, Int.reduceLT, Int.reduceLE, Int.reduceEq, Int.reduceAdd, Int.reduceSub, Int.reduceMul, Nat.reduceAdd, Nat.reduceLT, Nat.reduceEqDiff, Int.reduceNeg, nc_s, nc_0, Int.zero_add, Int.add_zero, oI_r, oI_w, oI_f0, oI_g0, oI_f1, oI_g1, oI_f2, oI_g2, oI_f3, oI_g3, oI_f4, oI_g4, oI_f5, oI_g5, oI_f6, oI_g6, oI_f7, oI_g7, oI_f8, oI_g8, oI_f9, oI_g9, oI_f10, oI_g10, oI_f11, oI_g11, oI_f12, oI_g12, oI_f13, oI_g13, oI_f14, oI_g14, oI_f15, oI_g15, oI_f16, oI_g16, oI_f17, oI_g17, oI_f18, oI_g18, oI_f19, oI_g19, oI_f20, oI_g20, oI_f21, oI_g21, oI_f22, oI_g22, oI_f23, oI_g23, oI_f24, oI_g24, oI_f25, oI_g25, ur_r, ur_o, ur_s, up_r, up_o, up_s, jI_add, jI_sub, jI_mul, jI_neg, jI_i, jI_n, lgc_j, cj_lt, cj_ge, cj_gt, cj_le, cj_eq, oL_r, oL_w, oL_f6, oL_g6, oL_f7, oL_g7, oL_f17, oL_g17, oL_f18, oL_g18, dl_T, dl_F, de_T, de_F, dle_T, dle_F, iI_divn, rem_n, nd_v, ct_s, Bool.false_eq_true]
    by_cases c1 : atP t n i = 40
    · simp only [faP, if_neg c0, if_pos c1]
      have mw := n_must_w (d := d + 4) (L := L) (z := z) (w := w) (i := i) (o := o + 1) h hp hx (by omega) 41
      refine ⟨S, ?_, ⟨fun ts q => (by cases q), fun _ _ _ => rfl⟩⟩
      simp only [bw_n]
      simp (disch := first | omega | exact hJ _ _ | exact rJ_g hJ _ _ | (simp (disch := omega) only [ur_r, ur_o, up_r, up_o]; omega) | assumption) only [c118, s118_0, s118_0v, s118_1, b118_4, s118_7, s118_8, s118_8v, s118_9, s118_12, s118_13, s118_14, b118_16, s118_19, s118_20, b118_22, s118_25, s118_25v, s118_26, s118_26v, s118_27, s118_30, b118_31, s118_34, s118_35, s118_38, s118_39, s118_42, s118_42v, s118_43, s118_44, s118_47, s118_48, s118_49, s118_52, s118_52v, s118_53, s118_54, s118_57, s118_57v, s118_58, b118_61, s118_64, s118_65, s118_68, s118_69, s118_70, s118_73, s118_74, b118_76, s118_79, s118_79v, s118_80, s118_83, s118_83v, s118_84, s118_85, s118_88, s118_91, s118_91v, s118_92, s118_95, s118_95v, s118_96, s118_98, s118_101, s118_101v, s118_102, s118_103, s118_106, s118_107, s118_108, s118_111, h.t193, Int.add_sub_cancel, hh, c1, n_some_w' h, mw, up_c, ur_c, kl_i, kl_r, kl_l, kl_n, kl_z, bd_s, tl_s, tl_n, ap_c, ap_n, v_s, v_n, nd_1, nd_0, ct13, eq_self, iI_add, iI_sub, iI_mul, iI_nat, iI_eq, iI_lt, iI_le, iI_eq0, iI_lt0, ↓reduceIte, if_true, if_false, not_true_eq_false, not_false_eq_true, true_and, and_true, false_and, and_false, true_or, or_true, false_or, or_false, Int.reduceLT, Int.reduceLE, Int.reduceEq, Int.reduceAdd, Int.reduceSub, Int.reduceMul, Nat.reduceAdd, Nat.reduceLT, Nat.reduceEqDiff, Int.reduceNeg, nc_s, nc_0, Int.zero_add, Int.add_zero, oI_r, oI_w, oI_f0, oI_g0, oI_f1, oI_g1, oI_f2, oI_g2, oI_f3, oI_g3, oI_f4, oI_g4, oI_f5, oI_g5, oI_f6, oI_g6, oI_f7, oI_g7, oI_f8, oI_g8, oI_f9, oI_g9, oI_f10, oI_g10, oI_f11, oI_g11, oI_f12, oI_g12, oI_f13, oI_g13, oI_f14, oI_g14, oI_f15, oI_g15, oI_f16, oI_g16, oI_f17, oI_g17, oI_f18, oI_g18, oI_f19, oI_g19, oI_f20, oI_g20, oI_f21, oI_g21, oI_f22, oI_g22, oI_f23, oI_g23, oI_f24, oI_g24, oI_f25, oI_g25, ur_r, ur_o, ur_s, up_r, up_o, up_s, jI_add, jI_sub, jI_mul, jI_neg, jI_i, jI_n, lgc_j, cj_lt, cj_ge, cj_gt, cj_le, cj_eq, oL_r, oL_w, oL_f6, oL_g6, oL_f7, oL_g7, oL_f17, oL_g17, oL_f18, oL_g18, dl_T, dl_F, de_T, de_F, dle_T, dle_F, iI_divn, rem_n, nd_v, ct_s, Bool.false_eq_true]
    · simp only [faP, if_neg c0, if_neg c1]
      exact n_test h hs hp hn c0 c1 h0 hi hx hc0 hc1
  | succ l ih =>
    intro d o ho hl i S h0 hi hx hc0 hc1
    have hh := n_here (d := d + 8 + 3 * l) (L := L) (z := z) (w := w) (i := i) (b := 0) (o := o) h hp hx (by omega)
    rw [show d + 6 + 3 * (l + 1) = (d + 8 + 3 * l) + 1 by omega]
    by_cases c0 : atP t n i = 33
    · have hin := atP_n c0 (by decide)
      simp only [faP, if_pos c0]
      obtain ⟨S1, hrun1, r1, r2⟩ := ih (d + 2) (o + 1) (by omega) (by omega) (i + 1) S (by omega) (by omega) hx hc0 (by omega)
      obtain ⟨g1, g2, g3⟩ := faP_g t n l (i + 1) (by omega) (by omega)
      rw [show d + 2 + 6 + 3 * l = d + 8 + 3 * l by omega] at hrun1
      generalize hD : d + 8 + 3 * l = D at *
      generalize faP t n l (i + 1) = q at *
      obtain ⟨j, ots⟩ := q
      cases ots with
      | none =>
        refine ⟨S1, ?_, ⟨fun ts q => (by cases q), r2⟩⟩
        simp only [bnd_nn, bw_n] at hrun1 ⊢
        simp (disch := first | omega | exact hJ _ _ | exact rJ_g hJ _ _ | (simp (disch := omega) only [ur_r, ur_o, up_r, up_o]; omega) | assumption) only [c118, s118_0, s118_0v, s118_1, b118_4, s118_7, s118_8, s118_8v, s118_9, s118_12, s118_13, s118_14, b118_16, s118_19, s118_20, b118_22, s118_25, s118_25v, s118_26, s118_26v, s118_27, s118_30, b118_31, s118_34, s118_35, s118_38, s118_39, s118_42, s118_42v, s118_43, s118_44, s118_47, s118_48, s118_49, s118_52, s118_52v, s118_53, s118_54, s118_57, s118_57v, s118_58, b118_61, s118_64, s118_65, s118_68, s118_69, s118_70, s118_73, s118_74, b118_76, s118_79, s118_79v, s118_80, s118_83, s118_83v, s118_84, s118_85, s118_88, s118_91, s118_91v, s118_92, s118_95, s118_95v, s118_96, s118_98, s118_101, s118_101v, s118_102, s118_103, s118_106, s118_107, s118_108, s118_111, h.t193, Int.add_sub_cancel, hh, c0, hrun1, n_emits_w h hp, up_c, ur_c, kl_i, kl_r, kl_l, kl_n, kl_z, bd_s, tl_s, tl_n, ap_c, ap_n, v_s, v_n, nd_1, nd_0, ct13, eq_self, iI_add, iI_sub, iI_mul, iI_nat, iI_eq, iI_lt, iI_le, iI_eq0, iI_lt0, ↓reduceIte, if_true, if_false, not_true_eq_false, not_false_eq_true, true_and, and_true, false_and, and_false, true_or, or_true, false_or, or_false, Int.reduceLT, Int.reduceLE, Int.reduceEq, Int.reduceAdd, Int.reduceSub, Int.reduceMul, Nat.reduceAdd, Nat.reduceLT, Nat.reduceEqDiff, Int.reduceNeg, nc_s, nc_0, Int.zero_add, Int.add_zero, oI_r, oI_w, oI_f0, oI_g0, oI_f1, oI_g1, oI_f2, oI_g2, oI_f3, oI_g3, oI_f4, oI_g4, oI_f5, oI_g5, oI_f6, oI_g6, oI_f7, oI_g7, oI_f8, oI_g8, oI_f9, oI_g9, oI_f10, oI_g10, oI_f11, oI_g11, oI_f12, oI_g12, oI_f13, oI_g13, oI_f14, oI_g14, oI_f15, oI_g15, oI_f16, oI_g16, oI_f17, oI_g17, oI_f18, oI_g18, oI_f19, oI_g19, oI_f20, oI_g20, oI_f21, oI_g21, oI_f22, oI_g22, oI_f23, oI_g23, oI_f24, oI_g24, oI_f25, oI_g25, ur_r, ur_o, ur_s, up_r, up_o, up_s, jI_add, jI_sub, jI_mul, jI_neg, jI_i, jI_n, lgc_j, cj_lt, cj_ge, cj_gt, cj_le, cj_eq, oL_r, oL_w, oL_f6, oL_g6, oL_f7, oL_g7, oL_f17, oL_g17, oL_f18, oL_g18, dl_T, dl_F, de_T, de_F, dle_T, dle_F, iI_divn, rem_n, nd_v, ct_s, Bool.false_eq_true]
      | some ts =>
        have g3' : (ts.length : Int) ≤ j - (i + 1) ∧ i + 1 < j := g3 ts rfl
        have g2 : j ≤ n := g2
        have e1 := r1 ts rfl
        have lc := laT_c (a := a) ts S
        rw [← e1] at lc
        rw [bnd_ss (k := j) (us := [-1]) rfl]
        simp only [bw_s] at hrun1 ⊢
        have em := n_emits (d := D) (L := L) (R := R) (z := z) (w := w) (i := j) (o := o + 1) (S := S1) h hp (-1) (by omega)
        refine ⟨emS a S1 (-1), ?_, ⟨fun us q => ?_, r2.tr (emS_o (by omega) hp.2.1)⟩⟩
        · simp (disch := first | omega | exact hJ _ _ | exact rJ_g hJ _ _ | (simp (disch := omega) only [ur_r, ur_o, up_r, up_o]; omega) | assumption) only [c118, s118_0, s118_0v, s118_1, b118_4, s118_7, s118_8, s118_8v, s118_9, s118_12, s118_13, s118_14, b118_16, s118_19, s118_20, b118_22, s118_25, s118_25v, s118_26, s118_26v, s118_27, s118_30, b118_31, s118_34, s118_35, s118_38, s118_39, s118_42, s118_42v, s118_43, s118_44, s118_47, s118_48, s118_49, s118_52, s118_52v, s118_53, s118_54, s118_57, s118_57v, s118_58, b118_61, s118_64, s118_65, s118_68, s118_69, s118_70, s118_73, s118_74, b118_76, s118_79, s118_79v, s118_80, s118_83, s118_83v, s118_84, s118_85, s118_88, s118_91, s118_91v, s118_92, s118_95, s118_95v, s118_96, s118_98, s118_101, s118_101v, s118_102, s118_103, s118_106, s118_107, s118_108, s118_111, h.t193, Int.add_sub_cancel, hh, c0, hrun1, em, up_c, ur_c, kl_i, kl_r, kl_l, kl_n, kl_z, bd_s, tl_s, tl_n, ap_c, ap_n, v_s, v_n, nd_1, nd_0, ct13, eq_self, iI_add, iI_sub, iI_mul, iI_nat, iI_eq, iI_lt, iI_le, iI_eq0, iI_lt0, ↓reduceIte, if_true, if_false, not_true_eq_false, not_false_eq_true, true_and, and_true, false_and, and_false, true_or, or_true, false_or, or_false, Int.reduceLT, Int.reduceLE, Int.reduceEq, Int.reduceAdd, Int.reduceSub, Int.reduceMul, Nat.reduceAdd, Nat.reduceLT, Nat.reduceEqDiff, Int.reduceNeg, nc_s, nc_0, Int.zero_add, Int.add_zero, oI_r, oI_w, oI_f0, oI_g0, oI_f1, oI_g1, oI_f2, oI_g2, oI_f3, oI_g3, oI_f4, oI_g4, oI_f5, oI_g5, oI_f6, oI_g6, oI_f7, oI_g7, oI_f8, oI_g8, oI_f9, oI_g9, oI_f10, oI_g10, oI_f11, oI_g11, oI_f12, oI_g12, oI_f13, oI_g13, oI_f14, oI_g14, oI_f15, oI_g15, oI_f16, oI_g16, oI_f17, oI_g17, oI_f18, oI_g18, oI_f19, oI_g19, oI_f20, oI_g20, oI_f21, oI_g21, oI_f22, oI_g22, oI_f23, oI_g23, oI_f24, oI_g24, oI_f25, oI_g25, ur_r, ur_o, ur_s, up_r, up_o, up_s, jI_add, jI_sub, jI_mul, jI_neg, jI_i, jI_n, lgc_j, cj_lt, cj_ge, cj_gt, cj_le, cj_eq, oL_r, oL_w, oL_f6, oL_g6, oL_f7, oL_g7, oL_f17, oL_g17, oL_f18, oL_g18, dl_T, dl_F, de_T, de_F, dle_T, dle_F, iI_divn, rem_n, nd_v, ct_s, Bool.false_eq_true]
        · cases q
          rw [laT_a, ← e1]; rfl
    by_cases c1 : atP t n i = 40
    · have hin := atP_n c1 (by decide)
      simp only [faP, if_neg c0, if_pos c1]
      have hso : runsP T R J a n t L z w (d + 8 + 3 * l) 120 (o + 1) (soP t n (faP t n l)) := by
        have q1 := n_every (d := d + 3 + 3 * l) h hp hn (faP t n l) (faP_g t n l) (o := o + 1) (by rw [show d + 3 + 3 * l + 3 = d + 6 + 3 * l by omega]; exact ih d (o + 1) (by omega) (by omega))
        have q2 := n_some (d := d + 4 + 3 * l) h hp hn (evP t n (faP t n l)) (evP_g (faP_g t n l)) (o := o + 1) (by rw [show d + 4 + 3 * l + 3 = d + 3 + 3 * l + 4 by omega]; exact q1)
        rw [show d + 4 + 3 * l + 4 = d + 8 + 3 * l by omega] at q2
        exact q2
      obtain ⟨S1, hrun1, r1, r2⟩ := hso (i + 1) S (by omega) (by omega) hx hc0 (by omega)
      obtain ⟨g1, g2, g3⟩ := soP_g (faP_g t n l) (i + 1) (by omega) (by omega)
      have hx1 := r2.tx hp.2.1 hn hx
      rw [show d + 8 + 3 * l = (d + 7 + 3 * l) + 1 by omega] at *
      generalize hD : d + 7 + 3 * l = D at *
      generalize soP t n (faP t n l) (i + 1) = q at *
      obtain ⟨j, ots⟩ := q
      have g1 : i + 1 ≤ j := g1
      have g2 : j ≤ n := g2
      cases ots with
      | none =>
        have mw := n_must_w (d := D) (L := L) (z := z) (w := w) (i := j) (o := o + 1) (S := S1) h hp hx1 (by omega) 41
        refine ⟨S1, ?_, ⟨fun ts q => (by cases q), r2⟩⟩
        simp only [bnd_nn, bw_n] at hrun1 ⊢
        simp (disch := first | omega | exact hJ _ _ | exact rJ_g hJ _ _ | (simp (disch := omega) only [ur_r, ur_o, up_r, up_o]; omega) | assumption) only [c118, s118_0, s118_0v, s118_1, b118_4, s118_7, s118_8, s118_8v, s118_9, s118_12, s118_13, s118_14, b118_16, s118_19, s118_20, b118_22, s118_25, s118_25v, s118_26, s118_26v, s118_27, s118_30, b118_31, s118_34, s118_35, s118_38, s118_39, s118_42, s118_42v, s118_43, s118_44, s118_47, s118_48, s118_49, s118_52, s118_52v, s118_53, s118_54, s118_57, s118_57v, s118_58, b118_61, s118_64, s118_65, s118_68, s118_69, s118_70, s118_73, s118_74, b118_76, s118_79, s118_79v, s118_80, s118_83, s118_83v, s118_84, s118_85, s118_88, s118_91, s118_91v, s118_92, s118_95, s118_95v, s118_96, s118_98, s118_101, s118_101v, s118_102, s118_103, s118_106, s118_107, s118_108, s118_111, h.t193, Int.add_sub_cancel, hh, c1, hrun1, mw, up_c, ur_c, kl_i, kl_r, kl_l, kl_n, kl_z, bd_s, tl_s, tl_n, ap_c, ap_n, v_s, v_n, nd_1, nd_0, ct13, eq_self, iI_add, iI_sub, iI_mul, iI_nat, iI_eq, iI_lt, iI_le, iI_eq0, iI_lt0, ↓reduceIte, if_true, if_false, not_true_eq_false, not_false_eq_true, true_and, and_true, false_and, and_false, true_or, or_true, false_or, or_false, Int.reduceLT, Int.reduceLE, Int.reduceEq, Int.reduceAdd, Int.reduceSub, Int.reduceMul, Nat.reduceAdd, Nat.reduceLT, Nat.reduceEqDiff, Int.reduceNeg, nc_s, nc_0, Int.zero_add, Int.add_zero, oI_r, oI_w, oI_f0, oI_g0, oI_f1, oI_g1, oI_f2, oI_g2, oI_f3, oI_g3, oI_f4, oI_g4, oI_f5, oI_g5, oI_f6, oI_g6, oI_f7, oI_g7, oI_f8, oI_g8, oI_f9, oI_g9, oI_f10, oI_g10, oI_f11, oI_g11, oI_f12, oI_g12, oI_f13, oI_g13, oI_f14, oI_g14, oI_f15, oI_g15, oI_f16, oI_g16, oI_f17, oI_g17, oI_f18, oI_g18, oI_f19, oI_g19, oI_f20, oI_g20, oI_f21, oI_g21, oI_f22, oI_g22, oI_f23, oI_g23, oI_f24, oI_g24, oI_f25, oI_g25, ur_r, ur_o, ur_s, up_r, up_o, up_s, jI_add, jI_sub, jI_mul, jI_neg, jI_i, jI_n, lgc_j, cj_lt, cj_ge, cj_gt, cj_le, cj_eq, oL_r, oL_w, oL_f6, oL_g6, oL_f7, oL_g7, oL_f17, oL_g17, oL_f18, oL_g18, dl_T, dl_F, de_T, de_F, dle_T, dle_F, iI_divn, rem_n, nd_v, ct_s, Bool.false_eq_true]
      | some ts =>
        have e1 := r1 ts rfl
        have mu := n_must (d := D) (L := L) (z := z) (w := w) (i := j) (o := o + 1) (S := S1) h hp hx1 (by omega) 41 (by omega)
        unfold muP mwP at mu
        simp only [bw_s] at hrun1
        by_cases e41 : atP t n j = 41
        · rw [if_pos e41, if_pos e41] at mu
          rw [bnd_ss (k := j + 1) (us := []) (by simp only [if_pos e41]), List.append_nil]
          simp only [bw_s]
          refine ⟨S1, ?_, ⟨fun us q => (by cases q; exact e1), r2⟩⟩
          simp (disch := first | omega | exact hJ _ _ | exact rJ_g hJ _ _ | (simp (disch := omega) only [ur_r, ur_o, up_r, up_o]; omega) | assumption) only [c118, s118_0, s118_0v, s118_1, b118_4, s118_7, s118_8, s118_8v, s118_9, s118_12, s118_13, s118_14, b118_16, s118_19, s118_20, b118_22, s118_25, s118_25v, s118_26, s118_26v, s118_27, s118_30, b118_31, s118_34, s118_35, s118_38, s118_39, s118_42, s118_42v, s118_43, s118_44, s118_47, s118_48, s118_49, s118_52, s118_52v, s118_53, s118_54, s118_57, s118_57v, s118_58, b118_61, s118_64, s118_65, s118_68, s118_69, s118_70, s118_73, s118_74, b118_76, s118_79, s118_79v, s118_80, s118_83, s118_83v, s118_84, s118_85, s118_88, s118_91, s118_91v, s118_92, s118_95, s118_95v, s118_96, s118_98, s118_101, s118_101v, s118_102, s118_103, s118_106, s118_107, s118_108, s118_111, h.t193, Int.add_sub_cancel, hh, c1, hrun1, mu, up_c, ur_c, kl_i, kl_r, kl_l, kl_n, kl_z, bd_s, tl_s, tl_n, ap_c, ap_n, v_s, v_n, nd_1, nd_0, ct13, eq_self, iI_add, iI_sub, iI_mul, iI_nat, iI_eq, iI_lt, iI_le, iI_eq0, iI_lt0, ↓reduceIte, if_true, if_false, not_true_eq_false, not_false_eq_true, true_and, and_true, false_and, and_false, true_or, or_true, false_or, or_false, Int.reduceLT, Int.reduceLE, Int.reduceEq, Int.reduceAdd, Int.reduceSub, Int.reduceMul, Nat.reduceAdd, Nat.reduceLT, Nat.reduceEqDiff, Int.reduceNeg, nc_s, nc_0, Int.zero_add, Int.add_zero, oI_r, oI_w, oI_f0, oI_g0, oI_f1, oI_g1, oI_f2, oI_g2, oI_f3, oI_g3, oI_f4, oI_g4, oI_f5, oI_g5, oI_f6, oI_g6, oI_f7, oI_g7, oI_f8, oI_g8, oI_f9, oI_g9, oI_f10, oI_g10, oI_f11, oI_g11, oI_f12, oI_g12, oI_f13, oI_g13, oI_f14, oI_g14, oI_f15, oI_g15, oI_f16, oI_g16, oI_f17, oI_g17, oI_f18, oI_g18, oI_f19, oI_g19, oI_f20, oI_g20, oI_f21, oI_g21, oI_f22, oI_g22, oI_f23, oI_g23, oI_f24, oI_g24, oI_f25, oI_g25, ur_r, ur_o, ur_s, up_r, up_o, up_s, jI_add, jI_sub, jI_mul, jI_neg, jI_i, jI_n, lgc_j, cj_lt, cj_ge, cj_gt, cj_le, cj_eq, oL_r, oL_w, oL_f6, oL_g6, oL_f7, oL_g7, oL_f17, oL_g17, oL_f18, oL_g18, dl_T, dl_F, de_T, de_F, dle_T, dle_F, iI_divn, rem_n, nd_v, ct_s, Bool.false_eq_true]
        · rw [if_neg e41, if_neg e41] at mu
          rw [bnd_sn (k := j) (by simp only [if_neg e41])]
          simp only [bw_n]
          refine ⟨S1, ?_, ⟨fun us q => (by cases q), r2⟩⟩
          simp (disch := first | omega | exact hJ _ _ | exact rJ_g hJ _ _ | (simp (disch := omega) only [ur_r, ur_o, up_r, up_o]; omega) | assumption) only [c118, s118_0, s118_0v, s118_1, b118_4, s118_7, s118_8, s118_8v, s118_9, s118_12, s118_13, s118_14, b118_16, s118_19, s118_20, b118_22, s118_25, s118_25v, s118_26, s118_26v, s118_27, s118_30, b118_31, s118_34, s118_35, s118_38, s118_39, s118_42, s118_42v, s118_43, s118_44, s118_47, s118_48, s118_49, s118_52, s118_52v, s118_53, s118_54, s118_57, s118_57v, s118_58, b118_61, s118_64, s118_65, s118_68, s118_69, s118_70, s118_73, s118_74, b118_76, s118_79, s118_79v, s118_80, s118_83, s118_83v, s118_84, s118_85, s118_88, s118_91, s118_91v, s118_92, s118_95, s118_95v, s118_96, s118_98, s118_101, s118_101v, s118_102, s118_103, s118_106, s118_107, s118_108, s118_111, h.t193, Int.add_sub_cancel, hh, c1, hrun1, mu, up_c, ur_c, kl_i, kl_r, kl_l, kl_n, kl_z, bd_s, tl_s, tl_n, ap_c, ap_n, v_s, v_n, nd_1, nd_0, ct13, eq_self, iI_add, iI_sub, iI_mul, iI_nat, iI_eq, iI_lt, iI_le, iI_eq0, iI_lt0, ↓reduceIte, if_true, if_false, not_true_eq_false, not_false_eq_true, true_and, and_true, false_and, and_false, true_or, or_true, false_or, or_false, Int.reduceLT, Int.reduceLE, Int.reduceEq, Int.reduceAdd, Int.reduceSub, Int.reduceMul, Nat.reduceAdd, Nat.reduceLT, Nat.reduceEqDiff, Int.reduceNeg, nc_s, nc_0, Int.zero_add, Int.add_zero, oI_r, oI_w, oI_f0, oI_g0, oI_f1, oI_g1, oI_f2, oI_g2, oI_f3, oI_g3, oI_f4, oI_g4, oI_f5, oI_g5, oI_f6, oI_g6, oI_f7, oI_g7, oI_f8, oI_g8, oI_f9, oI_g9, oI_f10, oI_g10, oI_f11, oI_g11, oI_f12, oI_g12, oI_f13, oI_g13, oI_f14, oI_g14, oI_f15, oI_g15, oI_f16, oI_g16, oI_f17, oI_g17, oI_f18, oI_g18, oI_f19, oI_g19, oI_f20, oI_g20, oI_f21, oI_g21, oI_f22, oI_g22, oI_f23, oI_g23, oI_f24, oI_g24, oI_f25, oI_g25, ur_r, ur_o, ur_s, up_r, up_o, up_s, jI_add, jI_sub, jI_mul, jI_neg, jI_i, jI_n, lgc_j, cj_lt, cj_ge, cj_gt, cj_le, cj_eq, oL_r, oL_w, oL_f6, oL_g6, oL_f7, oL_g7, oL_f17, oL_g17, oL_f18, oL_g18, dl_T, dl_F, de_T, de_F, dle_T, dle_F, iI_divn, rem_n, nd_v, ct_s, Bool.false_eq_true]
    · simp only [faP, if_neg c0, if_neg c1]
      have := n_test (d := d + 3 + 3 * l) (o := o) (L := L) (z := z) (w := w) h hs hp hn c0 c1 h0 hi hx hc0 hc1
      rw [show d + 3 + 3 * l + 6 = d + 8 + 3 * l + 1 by omega] at this
      exact this
end PF
