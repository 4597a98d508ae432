/-! the class: a town is read; words -/
section TC
variable {d : Nat} {T : Nat → Nat × Nat} {L : Nat → Nat → Int64} {R : Nat → Nat → Option Nat} {z w : Nat} {J : mR} {t : Nat} {n i k : Int} {x V : Int → Int}
def alG (x : Int → Int) (n : Int) (c : Int → Int) : Nat → Nat → Int → Int
  | 0, k, _ => (k : Int)
  | r + 1, k, i => if atP x n (i + (k : Int)) = c (k : Int) then alG x n c r (k + 1) i else (k : Int)
def alP (x : Int → Int) (n : Int) (q : Nat) (i : Int) : Int := alG x n (slc q) (sl q).length 0 i
theorem alG_r {c : Int → Int} : ∀ (r k : Nat) (i : Int), (k : Int) ≤ alG x n c r k i ∧ alG x n c r k i ≤ (k : Int) + r := by
  intro r
  induction r with
  | zero => intro k i; simp only [alG]; omega
  | succ r ih =>
    intro k i
    simp only [alG]
    split
    · have := ih (k + 1) i; omega
    · omega
theorem al_loop (h : txK T R J t x n) (hs : sK T J) (q : Nat) (hq : q < 5) (hi : 0 ≤ i ∧ i < 800) (v : Int) : ∀ (r k : Nat), k + r = (sl q).length → rn_r (d + 5) 34 2 [some (.ref t), some (.ref (10 + q)), some (.int (iI k))] [] (T, oI (pC J t i v V), L, R, z, w) = some (some (.int (iI (alG x n (slc q) r k i))), (T, oI (pC J t i v V), L, R, z, w)) := by
  have ht := h.2.2.2.2.2.2
  have t0 := h.t0
  obtain ⟨l6, lr⟩ := sl_r q (by omega)
  have hs' : sK T (pC J t i v V) := sK_u (sK_u hs (by omega)) (by omega)
  have hT := (hs'.1 q (by omega)).1
  have hB := (hs'.1 q (by omega)).2
  have kl := j_len (d := d + 3) (L := L) (R := R) (z := z) (w := w) (J := pC J t i v V) hT (by rw [show 10 + q + 20 = 30 + q by omega]; exact hB) (by omega)
  have y0 : ¬ (T (10 + q)).1 = 0 := by rw [hT]; decide
  intro r
  induction r with
  | zero =>
    intro k hk
    have hk' : (k : Int) = ((sl q).length : Int) := by omega
    simp only [alG]
    simp (disch := first | omega | exact hJ _ _ | exact rJ_g hJ _ _ | (simp (disch := omega) only [ur_r, ur_o, up_r, up_o]; omega) | assumption) only [s34_2, s34_3, s34_3v, s34_4, b34_7, s34_34, s34_35, hT, y0, kl, kl_i, kl_r, kl_l, kl_n, kl_z, bd_s, tl_s, tl_n, ap_c, ap_n, v_s, v_n, nd_1, nd_0, ct13, eq_self, iI_add, iI_sub, iI_mul, iI_nat, iI_eq, iI_lt, iI_le, iI_eq0, iI_lt0, ↓reduceIte, if_true, if_false, not_true_eq_false, not_false_eq_true, true_and, and_true, false_and, and_false, true_or, or_true, false_or, or_false, Int.reduceLT, Int.reduceLE, Int.reduceEq, Int.reduceAdd, Int.reduceSub, Int.reduceMul, Nat.reduceAdd, Nat.reduceLT, Nat.reduceEqDiff, Int.reduceNeg, nc_s, nc_0, Int.zero_add, Int.add_zero, oI_r, oI_w, oI_f0, oI_g0, oI_f1, oI_g1, oI_f2, oI_g2, oI_f3, oI_g3, oI_f4, oI_g4, oI_f5, oI_g5, oI_f6, oI_g6, oI_f7, oI_g7, oI_f8, oI_g8, oI_f9, oI_g9, oI_f10, oI_g10, oI_f11, oI_g11, oI_f12, oI_g12, oI_f13, oI_g13, oI_f14, oI_g14, oI_f15, oI_g15, oI_f16, oI_g16, oI_f17, oI_g17, oI_f18, oI_g18, oI_f19, oI_g19, oI_f20, oI_g20, oI_f21, oI_g21, oI_f22, oI_g22, oI_f23, oI_g23, oI_f24, oI_g24, oI_f25, oI_g25, ur_r, ur_o, ur_s, up_r, up_o, up_s, jI_add, jI_sub, jI_mul, jI_neg, jI_i, jI_n, lgc_j, cj_lt, cj_ge, cj_gt, cj_le, cj_eq, oL_r, oL_w, oL_f6, oL_g6, oL_f7, oL_g7, oL_f17, oL_g17, oL_f18, oL_g18, dl_T, dl_F, de_T, de_F, dle_T, dle_F, iI_divn, rem_n, nd_v, ct_s, Bool.false_eq_true]
  | succ r ih =>
    intro k hk
    have kr := lr k (by omega)
    have kc := j_char (d := d) (L := L) (R := R) (z := z) (w := w) (J := pC J t i v V) hT (by rw [show 10 + q + 20 = 30 + q by omega]; exact hB) (k := k) (v := slc q k) (by omega) (by omega) (by rw [show 10 + q + 20 = 30 + q by omega]; exact hs'.2 q k (by omega) (by omega)) kr
    have b0 := t_byteAt (d := d + 4) (L := L) (z := z) (w := w) (h.p (i := i) (k := v) (V := V)) (i + k) (by omega)
    have br := bA_r h (i := i + k) (by omega)
    simp only [alG]
    by_cases e : atP x n (i + k) = slc q k
    · have e2 : bA x n (i + k) = slc q k := by
        rcases br.2 with e3 | ⟨e3, e4⟩
        · omega
        · omega
      rw [if_pos e]
      refine Eq.trans ?_ ((s34_31 ..).trans (ih (k + 1) (by omega)))
      rw [e2] at b0
      simp (disch := first | omega | exact hJ _ _ | exact rJ_g hJ _ _ | (simp (disch := omega) only [ur_r, ur_o, up_r, up_o]; omega) | assumption) only [s34_2, s34_3, s34_3v, s34_4, b34_7, s34_10, s34_10v, s34_11, s34_11v, s34_12, s34_15, s34_16, s34_17, s34_20, s34_20v, s34_21, s34_22, b34_25, s34_28, t0, hT, y0, kl, kc, b0, kl_i, kl_r, kl_l, kl_n, kl_z, bd_s, tl_s, tl_n, ap_c, ap_n, v_s, v_n, nd_1, nd_0, ct13, eq_self, iI_add, iI_sub, iI_mul, iI_nat, iI_eq, iI_lt, iI_le, iI_eq0, iI_lt0, ↓reduceIte, if_true, if_false, not_true_eq_false, not_false_eq_true, true_and, and_true, false_and, and_false, true_or, or_true, false_or, or_false, Int.reduceLT, Int.reduceLE, Int.reduceEq, Int.reduceAdd, Int.reduceSub, Int.reduceMul, Nat.reduceAdd, Nat.reduceLT, Nat.reduceEqDiff, Int.reduceNeg, nc_s, nc_0, Int.zero_add, Int.add_zero, oI_r, oI_w, oI_f0, oI_g0, oI_f1, oI_g1, oI_f2, oI_g2, oI_f3, oI_g3, oI_f4, oI_g4, oI_f5, oI_g5, oI_f6, oI_g6, oI_f7, oI_g7, oI_f8, oI_g8, oI_f9, oI_g9, oI_f10, oI_g10, oI_f11, oI_g11, oI_f12, oI_g12, oI_f13, oI_g13, oI_f14, oI_g14, oI_f15, oI_g15, oI_f16, oI_g16, oI_f17, oI_g17, oI_f18, oI_g18, oI_f19, oI_g19, oI_f20, oI_g20, oI_f21, oI_g21, oI_f22, oI_g22, oI_f23, oI_g23, oI_f24, oI_g24, oI_f25, oI_g25, ur_r, ur_o, ur_s, up_r, up_o, up_s, jI_add, jI_sub, jI_mul, jI_neg, jI_i, jI_n, lgc_j, cj_lt, cj_ge, cj_gt, cj_le, cj_eq, oL_r, oL_w, oL_f6, oL_g6, oL_f7, oL_g7, oL_f17, oL_g17, oL_f18, oL_g18, dl_T, dl_F, de_T, de_F, dle_T, dle_F, iI_divn, rem_n, nd_v, ct_s, Bool.false_eq_true]
    · rw [if_neg e]
      by_cases e2 : bA x n (i + k) = slc q k
      · have e5 : bA x n (i + k) = 0 := by
          rcases br.2 with e3 | ⟨e3, e4⟩
          · exact absurd (e3.trans e2) e
          · exact e4
        exfalso
        have : ∀ q : Nat, q < 5 → ∀ k : Nat, k < (sl q).length → ¬ slc q k = 0 := by decide
        exact this q hq k (by omega) (by omega)
      · simp (disch := first | omega | exact hJ _ _ | exact rJ_g hJ _ _ | (simp (disch := omega) only [ur_r, ur_o, up_r, up_o]; omega) | assumption) only [s34_2, s34_3, s34_3v, s34_4, b34_7, s34_10, s34_10v, s34_11, s34_11v, s34_12, s34_15, s34_16, s34_17, s34_20, s34_20v, s34_21, s34_22, b34_25, s34_34, s34_35, t0, hT, y0, kl, kc, b0, kl_i, kl_r, kl_l, kl_n, kl_z, bd_s, tl_s, tl_n, ap_c, ap_n, v_s, v_n, nd_1, nd_0, ct13, eq_self, iI_add, iI_sub, iI_mul, iI_nat, iI_eq, iI_lt, iI_le, iI_eq0, iI_lt0, ↓reduceIte, if_true, if_false, not_true_eq_false, not_false_eq_true, true_and, and_true, false_and, and_false, true_or, or_true, false_or, or_false, Int.reduceLT, Int.reduceLE, Int.reduceEq, Int.reduceAdd, Int.reduceSub, Int.reduceMul, Nat.reduceAdd, Nat.reduceLT, Nat.reduceEqDiff, Int.reduceNeg, nc_s, nc_0, Int.zero_add, Int.add_zero, oI_r, oI_w, oI_f0, oI_g0, oI_f1, oI_g1, oI_f2, oI_g2, oI_f3, oI_g3, oI_f4, oI_g4, oI_f5, oI_g5, oI_f6, oI_g6, oI_f7, oI_g7, oI_f8, oI_g8, oI_f9, oI_g9, oI_f10, oI_g10, oI_f11, oI_g11, oI_f12, oI_g12, oI_f13, oI_g13, oI_f14, oI_g14, oI_f15, oI_g15, oI_f16, oI_g16, oI_f17, oI_g17, oI_f18, oI_g18, oI_f19, oI_g19, oI_f20, oI_g20, oI_f21, oI_g21, oI_f22, oI_g22, oI_f23, oI_g23, oI_f24, oI_g24, oI_f25, oI_g25, ur_r, ur_o, ur_s, up_r, up_o, up_s, jI_add, jI_sub, jI_mul, jI_neg, jI_i, jI_n, lgc_j, cj_lt, cj_ge, cj_gt, cj_le, cj_eq, oL_r, oL_w, oL_f6, oL_g6, oL_f7, oL_g7, oL_f17, oL_g17, oL_f18, oL_g18, dl_T, dl_F, de_T, de_F, dle_T, dle_F, iI_divn, rem_n, nd_v, ct_s, Bool.false_eq_true]
theorem t_alike (h : txK T R J t x n) (hs : sK T J) (q : Nat) (hq : q < 5) (hi : 0 ≤ i ∧ i < 800) (v : Int) : rn_c (d + 5) 34 [.ref t, .ref (10 + q)] (T, oI (pC J t i v V), L, R, z, w) = some (some (.int (iI (alP x n q i))), (T, oI (pC J t i v V), L, R, z, w)) := by
  refine Eq.trans ?_ (al_loop (d := d) (L := L) (z := z) (w := w) (i := i) (V := V) h hs q hq hi v (sl q).length 0 (by omega))
  simp (disch := first | omega | exact hJ _ _ | exact rJ_g hJ _ _ | (simp (disch := omega) only [ur_r, ur_o, up_r, up_o]; omega) | assumption) only [c34, s34_0, s34_1, kl_i, kl_r, kl_l, kl_n, kl_z, bd_s, tl_s, tl_n, ap_c, ap_n, v_s, v_n, nd_1, nd_0, ct13, eq_self, iI_add, iI_sub, iI_mul, iI_nat, iI_eq, iI_lt, iI_le, iI_eq0, iI_lt0, ↓reduceIte, if_true, if_false, not_true_eq_false, not_false_eq_true, true_and, and_true, false_and, and_false, true_or, or_true, false_or, or_false, Int.reduceLT, Int.reduceLE, Int.reduceEq, Int.reduceAdd, Int.reduceSub, Int.reduceMul, Nat.reduceAdd, Nat.reduceLT, Nat.reduceEqDiff, Int.reduceNeg, nc_s, nc_0, Int.zero_add, Int.add_zero, oI_r, oI_w, oI_f0, oI_g0, oI_f1, oI_g1, oI_f2, oI_g2, oI_f3, oI_g3, oI_f4, oI_g4, oI_f5, oI_g5, oI_f6, oI_g6, oI_f7, oI_g7, oI_f8, oI_g8, oI_f9, oI_g9, oI_f10, oI_g10, oI_f11, oI_g11, oI_f12, oI_g12, oI_f13, oI_g13, oI_f14, oI_g14, oI_f15, oI_g15, oI_f16, oI_g16, oI_f17, oI_g17, oI_f18, oI_g18, oI_f19, oI_g19, oI_f20, oI_g20, oI_f21, oI_g21, oI_f22, oI_g22, oI_f23, oI_g23, oI_f24, oI_g24, oI_f25, oI_g25, ur_r, ur_o, ur_s, up_r, up_o, up_s, jI_add, jI_sub, jI_mul, jI_neg, jI_i, jI_n, lgc_j, cj_lt, cj_ge, cj_gt, cj_le, cj_eq, oL_r, oL_w, oL_f6, oL_g6, oL_f7, oL_g7, oL_f17, oL_g17, oL_f18, oL_g18, dl_T, dl_F, de_T, de_F, dle_T, dle_F, iI_divn, rem_n, nd_v, ct_s, Bool.false_eq_true]
theorem t_wordOf (hs : sK T J) (q : Nat) (hq : q < 5) : rn_c d 33 [.int (iI q)] (T, oI J, L, R, z, w) = some (some (.ref (10 + q)), (T, oI J, L, R, z, w)) := by
  have y0 := hs.t0
  have y1 := hs.t1
  have y2 := hs.t2
  have y3 := hs.t3
  have y4 := hs.t4
  have : q = 0 ∨ q = 1 ∨ q = 2 ∨ q = 3 ∨ q = 4 := by omega
  rcases this with rfl | rfl | rfl | rfl | rfl
  · simp (disch := first | omega | exact hJ _ _ | exact rJ_g hJ _ _ | (simp (disch := omega) only [ur_r, ur_o, up_r, up_o]; omega) | assumption) only [c33, s33_0, b33_1, s33_32, s33_34, s33_34n, s33_35, s33_37, s33_37n, s33_38, s33_40, s33_40n, s33_41, s33_43, s33_43n, s33_44, s33_46, s33_46n, y0, kl_i, kl_r, kl_l, kl_n, kl_z, bd_s, tl_s, tl_n, ap_c, ap_n, v_s, v_n, nd_1, nd_0, ct13, eq_self, iI_add, iI_sub, iI_mul, iI_nat, iI_eq, iI_lt, iI_le, iI_eq0, iI_lt0, ↓reduceIte, if_true, if_false, not_true_eq_false, not_false_eq_true, true_and, and_true, false_and, and_false, true_or, or_true, false_or, or_false, Int.reduceLT, Int.reduceLE, Int.reduceEq, Int.reduceAdd, Int.reduceSub, Int.reduceMul, Nat.reduceAdd, Nat.reduceLT, Nat.reduceEqDiff, Int.reduceNeg, nc_s, nc_0, Int.zero_add, Int.add_zero, oI_r, oI_w, oI_f0, oI_g0, oI_f1, oI_g1, oI_f2, oI_g2, oI_f3, oI_g3, oI_f4, oI_g4, oI_f5, oI_g5, oI_f6, oI_g6, oI_f7, oI_g7, oI_f8, oI_g8, oI_f9, oI_g9, oI_f10, oI_g10, oI_f11, oI_g11, oI_f12, oI_g12, oI_f13, oI_g13, oI_f14, oI_g14, oI_f15, oI_g15, oI_f16, oI_g16, oI_f17, oI_g17, oI_f18, oI_g18, oI_f19, oI_g19, oI_f20, oI_g20, oI_f21, oI_g21, oI_f22, oI_g22, oI_f23, oI_g23, oI_f24, oI_g24, oI_f25, oI_g25, ur_r, ur_o, ur_s, up_r, up_o, up_s, jI_add, jI_sub, jI_mul, jI_neg, jI_i, jI_n, lgc_j, cj_lt, cj_ge, cj_gt, cj_le, cj_eq, oL_r, oL_w, oL_f6, oL_g6, oL_f7, oL_g7, oL_f17, oL_g17, oL_f18, oL_g18, dl_T, dl_F, de_T, de_F, dle_T, dle_F, iI_divn, rem_n, nd_v, ct_s, Bool.false_eq_true]
  · simp (disch := first | omega | exact hJ _ _ | exact rJ_g hJ _ _ | (simp (disch := omega) only [ur_r, ur_o, up_r, up_o]; omega) | assumption) only [c33, s33_0, b33_1, s33_32, s33_34, s33_34n, s33_35, s33_37, s33_37n, s33_38, s33_40, s33_40n, s33_41, s33_43, s33_43n, s33_44, s33_46, s33_46n, y1, kl_i, kl_r, kl_l, kl_n, kl_z, bd_s, tl_s, tl_n, ap_c, ap_n, v_s, v_n, nd_1, nd_0, ct13, eq_self, iI_add, iI_sub, iI_mul, iI_nat, iI_eq, iI_lt, iI_le, iI_eq0, iI_lt0, ↓reduceIte, if_true, if_false, not_true_eq_false, not_false_eq_true, true_and, and_true, false_and, and_false, true_or, or_true, false_or, or_false, Int.reduceLT, Int.reduceLE, Int.reduceEq, Int.reduceAdd, Int.reduceSub, Int.reduceMul, Nat.reduceAdd, Nat.reduceLT, Nat.reduceEqDiff, Int.reduceNeg, nc_s, nc_0, Int.zero_add, Int.add_zero, oI_r, oI_w, oI_f0, oI_g0, oI_f1, oI_g1, oI_f2, oI_g2, oI_f3, oI_g3, oI_f4, oI_g4, oI_f5, oI_g5, oI_f6, oI_g6, oI_f7, oI_g7, oI_f8, oI_g8, oI_f9, oI_g9, oI_f10, oI_g10, oI_f11, oI_g11, oI_f12, oI_g12, oI_f13, oI_g13, oI_f14, oI_g14, oI_f15, oI_g15, oI_f16, oI_g16, oI_f17, oI_g17, oI_f18, oI_g18, oI_f19, oI_g19, oI_f20, oI_g20, oI_f21, oI_g21, oI_f22, oI_g22, oI_f23, oI_g23, oI_f24, oI_g24, oI_f25, oI_g25, ur_r, ur_o, ur_s, up_r, up_o, up_s, jI_add, jI_sub, jI_mul, jI_neg, jI_i, jI_n, lgc_j, cj_lt, cj_ge, cj_gt, cj_le, cj_eq, oL_r, oL_w, oL_f6, oL_g6, oL_f7, oL_g7, oL_f17, oL_g17, oL_f18, oL_g18, dl_T, dl_F, de_T, de_F, dle_T, dle_F, iI_divn, rem_n, nd_v, ct_s, Bool.false_eq_true]
  · simp (disch := first | omega | exact hJ _ _ | exact rJ_g hJ _ _ | (simp (disch := omega) only [ur_r, ur_o, up_r, up_o]; omega) | assumption) only [c33, s33_0, b33_1, s33_32, s33_34, s33_34n, s33_35, s33_37, s33_37n, s33_38, s33_40, s33_40n, s33_41, s33_43, s33_43n, s33_44, s33_46, s33_46n, y2, kl_i, kl_r, kl_l, kl_n, kl_z, bd_s, tl_s, tl_n, ap_c, ap_n, v_s, v_n, nd_1, nd_0, ct13, eq_self, iI_add, iI_sub, iI_mul, iI_nat, iI_eq, iI_lt, iI_le, iI_eq0, iI_lt0, ↓reduceIte, if_true, if_false, not_true_eq_false, not_false_eq_true, true_and, and_true, false_and, and_false, true_or, or_true, false_or, or_false, Int.reduceLT, Int.reduceLE, Int.reduceEq, Int.reduceAdd, Int.reduceSub, Int.reduceMul, Nat.reduceAdd, Nat.reduceLT, Nat.reduceEqDiff, Int.reduceNeg, nc_s, nc_0, Int.zero_add, Int.add_zero, oI_r, oI_w, oI_f0, oI_g0, oI_f1, oI_g1, oI_f2, oI_g2, oI_f3, oI_g3, oI_f4, oI_g4, oI_f5, oI_g5, oI_f6, oI_g6, oI_f7, oI_g7, oI_f8, oI_g8, oI_f9, oI_g9, oI_f10, oI_g10, oI_f11, oI_g11, oI_f12, oI_g12, oI_f13, oI_g13, oI_f14, oI_g14, oI_f15, oI_g15, oI_f16, oI_g16, oI_f17, oI_g17, oI_f18, oI_g18, oI_f19, oI_g19, oI_f20, oI_g20, oI_f21, oI_g21, oI_f22, oI_g22, oI_f23, oI_g23, oI_f24, oI_g24, oI_f25, oI_g25, ur_r, ur_o, ur_s, up_r, up_o, up_s, jI_add, jI_sub, jI_mul, jI_neg, jI_i, jI_n, lgc_j, cj_lt, cj_ge, cj_gt, cj_le, cj_eq, oL_r, oL_w, oL_f6, oL_g6, oL_f7, oL_g7, oL_f17, oL_g17, oL_f18, oL_g18, dl_T, dl_F, de_T, de_F, dle_T, dle_F, iI_divn, rem_n, nd_v, ct_s, Bool.false_eq_true]
  · simp (disch := first | omega | exact hJ _ _ | exact rJ_g hJ _ _ | (simp (disch := omega) only [ur_r, ur_o, up_r, up_o]; omega) | assumption) only [c33, s33_0, b33_1, s33_32, s33_34, s33_34n, s33_35, s33_37, s33_37n, s33_38, s33_40, s33_40n, s33_41, s33_43, s33_43n, s33_44, s33_46, s33_46n, y3, kl_i, kl_r, kl_l, kl_n, kl_z, bd_s, tl_s, tl_n, ap_c, ap_n, v_s, v_n, nd_1, nd_0, ct13, eq_self, iI_add, iI_sub, iI_mul, iI_nat, iI_eq, iI_lt, iI_le, iI_eq0, iI_lt0, ↓reduceIte, if_true, if_false, not_true_eq_false, not_false_eq_true, true_and, and_true, false_and, and_false, true_or, or_true, false_or, or_false, Int.reduceLT, Int.reduceLE, Int.reduceEq, Int.reduceAdd, Int.reduceSub, Int.reduceMul, Nat.reduceAdd, Nat.reduceLT, Nat.reduceEqDiff, Int.reduceNeg, nc_s, nc_0, Int.zero_add, Int.add_zero, oI_r, oI_w, oI_f0, oI_g0, oI_f1, oI_g1, oI_f2, oI_g2, oI_f3, oI_g3, oI_f4, oI_g4, oI_f5, oI_g5, oI_f6, oI_g6, oI_f7, oI_g7, oI_f8, oI_g8, oI_f9, oI_g9, oI_f10, oI_g10, oI_f11, oI_g11, oI_f12, oI_g12, oI_f13, oI_g13, oI_f14, oI_g14, oI_f15, oI_g15, oI_f16, oI_g16, oI_f17, oI_g17, oI_f18, oI_g18, oI_f19, oI_g19, oI_f20, oI_g20, oI_f21, oI_g21, oI_f22, oI_g22, oI_f23, oI_g23, oI_f24, oI_g24, oI_f25, oI_g25, ur_r, ur_o, ur_s, up_r, up_o, up_s, jI_add, jI_sub, jI_mul, jI_neg, jI_i, jI_n, lgc_j, cj_lt, cj_ge, cj_gt, cj_le, cj_eq, oL_r, oL_w, oL_f6, oL_g6, oL_f7, oL_g7, oL_f17, oL_g17, oL_f18, oL_g18, dl_T, dl_F, de_T, de_F, dle_T, dle_F, iI_divn, rem_n, nd_v, ct_s, Bool.false_eq_true]
  · simp (disch := first | omega | exact hJ _ _ | exact rJ_g hJ _ _ | (simp (disch := omega) only [ur_r, ur_o, up_r, up_o]; omega) | assumption) only [c33, s33_0, b33_1, s33_32, s33_34, s33_34n, s33_35, s33_37, s33_37n, s33_38, s33_40, s33_40n, s33_41, s33_43, s33_43n, s33_44, s33_46, s33_46n, y4, kl_i, kl_r, kl_l, kl_n, kl_z, bd_s, tl_s, tl_n, ap_c, ap_n, v_s, v_n, nd_1, nd_0, ct13, eq_self, iI_add, iI_sub, iI_mul, iI_nat, iI_eq, iI_lt, iI_le, iI_eq0, iI_lt0, ↓reduceIte, if_true, if_false, not_true_eq_false, not_false_eq_true, true_and, and_true, false_and, and_false, true_or, or_true, false_or, or_false, Int.reduceLT, Int.reduceLE, Int.reduceEq, Int.reduceAdd, Int.reduceSub, Int.reduceMul, Nat.reduceAdd, Nat.reduceLT, Nat.reduceEqDiff, Int.reduceNeg, nc_s, nc_0, Int.zero_add, Int.add_zero, oI_r, oI_w, oI_f0, oI_g0, oI_f1, oI_g1, oI_f2, oI_g2, oI_f3, oI_g3, oI_f4, oI_g4, oI_f5, oI_g5, oI_f6, oI_g6, oI_f7, oI_g7, oI_f8, oI_g8, oI_f9, oI_g9, oI_f10, oI_g10, oI_f11, oI_g11, oI_f12, oI_g12, oI_f13, oI_g13, oI_f14, oI_g14, oI_f15, oI_g15, oI_f16, oI_g16, oI_f17, oI_g17, oI_f18, oI_g18, oI_f19, oI_g19, oI_f20, oI_g20, oI_f21, oI_g21, oI_f22, oI_g22, oI_f23, oI_g23, oI_f24, oI_g24, oI_f25, oI_g25, ur_r, ur_o, ur_s, up_r, up_o, up_s, jI_add, jI_sub, jI_mul, jI_neg, jI_i, jI_n, lgc_j, cj_lt, cj_ge, cj_gt, cj_le, cj_eq, oL_r, oL_w, oL_f6, oL_g6, oL_f7, oL_g7, oL_f17, oL_g17, oL_f18, oL_g18, dl_T, dl_F, de_T, de_F, dle_T, dle_F, iI_divn, rem_n, nd_v, ct_s, Bool.false_eq_true]
def mxV (a b : Int) : Int := if a < b then b else a
theorem wo_step (h : txK T R J t x n) (hs : sK T J) (hi : 0 ≤ i ∧ i < 700) (v : Int) (q : Nat) (hq : q < 5) (f : Int) (hf : 0 ≤ f ∧ f ≤ 5) (l3 l4 : Option Value) : rn_r (d + 6) 32 4 [some (.ref t), some (.int (iI f)), some (.int (iI q)), l3, l4] [] (T, oI (pC J t i v V), L, R, z, w) = if alP x n q i = (sl q).length then some (some (.int (iI q)), (T, oI (pC J t (i + alP x n q i) v V), L, R, z, w)) else rn_r (d + 6) 32 4 [some (.ref t), some (.int (iI (mxV f (alP x n q i)))), some (.int (iI ((q + 1 : Nat) : Int))), some (.ref (10 + q)), some (.int (iI (alP x n q i)))] [] (T, oI (pC J t i v V), L, R, z, w) := by
  have ht := h.2.2.2.2.2.2
  have t0 := h.t0
  have l6 := (sl_r q (by omega)).1
  have hs' : sK T (pC J t i v V) := sK_u (sK_u hs (by omega)) (by omega)
  have hT := (hs'.1 q (by omega)).1
  have hB := (hs'.1 q (by omega)).2
  have kl := j_len (d := d + 4) (L := L) (R := R) (z := z) (w := w) (J := pC J t i v V) hT (by rw [show 10 + q + 20 = 30 + q by omega]; exact hB) (by omega)
  have y0 : ¬ (T (10 + q)).1 = 0 := by rw [hT]; decide
  have wo := t_wordOf (d := d + 5) (L := L) (R := R) (z := z) (w := w) hs' q hq
  have al := t_alike (d := d) (L := L) (z := z) (w := w) (V := V) h hs q hq (i := i) (by omega) v
  have ar := alG_r (x := x) (n := n) (c := slc q) (sl q).length 0 i
  have ar' : 0 ≤ alP x n q i ∧ alP x n q i ≤ (sl q).length := by unfold alP; omega
  generalize alP x n q i = a at *
  by_cases e : a = (sl q).length
  · rw [if_pos e]
    simp (disch := first | omega | exact hJ _ _ | exact rJ_g hJ _ _ | (simp (disch := omega) only [ur_r, ur_o, up_r, up_o]; omega) | assumption) only [s32_4, s32_5, b32_6, s32_9, s32_10, s32_13, s32_13n, s32_13v, s32_14, s32_14v, s32_15, s32_15v, s32_16, s32_19, s32_21, s32_23, s32_23v, s32_24, b32_27, s32_30, s32_30v, s32_31, s32_32, s32_35, s32_37, s32_38, s32_41, s32_42, t0, hT, y0, wo, al, kl, up_c, ur_c, kl_i, kl_r, kl_l, kl_n, kl_z, bd_s, tl_s, tl_n, ap_c, ap_n, v_s, v_n, nd_1, nd_0, ct13, eq_self, iI_add, iI_sub, iI_mul, iI_nat, iI_eq, iI_lt, iI_le, iI_eq0, iI_lt0, ↓reduceIte, if_true, if_false, not_true_eq_false, not_false_eq_true, true_and, and_true, false_and, and_false, true_or, or_true, false_or, or_false, Int.reduceLT, Int.reduceLE, Int.reduceEq, Int.reduceAdd, Int.reduceSub, Int.reduceMul, Nat.reduceAdd, Nat.reduceLT, Nat.reduceEqDiff, Int.reduceNeg, nc_s, nc_0, Int.zero_add, Int.add_zero, oI_r, oI_w, oI_f0, oI_g0, oI_f1, oI_g1, oI_f2, oI_g2, oI_f3, oI_g3, oI_f4, oI_g4, oI_f5, oI_g5, oI_f6, oI_g6, oI_f7, oI_g7, oI_f8, oI_g8, oI_f9, oI_g9, oI_f10, oI_g10, oI_f11, oI_g11, oI_f12, oI_g12, oI_f13, oI_g13, oI_f14, oI_g14, oI_f15, oI_g15, oI_f16, oI_g16, oI_f17, oI_g17, oI_f18, oI_g18, oI_f19, oI_g19, oI_f20, oI_g20, oI_f21, oI_g21, oI_f22, oI_g22, oI_f23, oI_g23, oI_f24, oI_g24, oI_f25, oI_g25, ur_r, ur_o, ur_s, up_r, up_o, up_s, jI_add, jI_sub, jI_mul, jI_neg, jI_i, jI_n, lgc_j, cj_lt, cj_ge, cj_gt, cj_le, cj_eq, oL_r, oL_w, oL_f6, oL_g6, oL_f7, oL_g7, oL_f17, oL_g17, oL_f18, oL_g18, dl_T, dl_F, de_T, de_F, dle_T, dle_F, iI_divn, rem_n, nd_v, ct_s, Bool.false_eq_true]
  · rw [if_neg e]
    have mx := j_max (d := d + 5) (T := T) (I := oI (pC J t i v V)) (L := L) (R := R) (z := z) (w := w) f a (by omega) (by omega)
    refine Eq.trans ?_ (s32_53 ..)
    unfold mxV
    simp (disch := first | omega | exact hJ _ _ | exact rJ_g hJ _ _ | (simp (disch := omega) only [ur_r, ur_o, up_r, up_o]; omega) | assumption) only [s32_4, s32_5, b32_6, s32_9, s32_10, s32_13, s32_13n, s32_13v, s32_14, s32_14v, s32_15, s32_15v, s32_16, s32_19, s32_21, s32_23, s32_23v, s32_24, b32_27, s32_30, s32_30v, s32_31, s32_32, s32_35, s32_37, s32_38, s32_41, s32_42, s32_43, s32_44, s32_46, s32_49, s32_50, t0, hT, y0, wo, al, kl, mx, kl_i, kl_r, kl_l, kl_n, kl_z, bd_s, tl_s, tl_n, ap_c, ap_n, v_s, v_n, nd_1, nd_0, ct13, eq_self, iI_add, iI_sub, iI_mul, iI_nat, iI_eq, iI_lt, iI_le, iI_eq0, iI_lt0, ↓reduceIte, if_true, if_false, not_true_eq_false, not_false_eq_true, true_and, and_true, false_and, and_false, true_or, or_true, false_or, or_false, Int.reduceLT, Int.reduceLE, Int.reduceEq, Int.reduceAdd, Int.reduceSub, Int.reduceMul, Nat.reduceAdd, Nat.reduceLT, Nat.reduceEqDiff, Int.reduceNeg, nc_s, nc_0, Int.zero_add, Int.add_zero, oI_r, oI_w, oI_f0, oI_g0, oI_f1, oI_g1, oI_f2, oI_g2, oI_f3, oI_g3, oI_f4, oI_g4, oI_f5, oI_g5, oI_f6, oI_g6, oI_f7, oI_g7, oI_f8, oI_g8, oI_f9, oI_g9, oI_f10, oI_g10, oI_f11, oI_g11, oI_f12, oI_g12, oI_f13, oI_g13, oI_f14, oI_g14, oI_f15, oI_g15, oI_f16, oI_g16, oI_f17, oI_g17, oI_f18, oI_g18, oI_f19, oI_g19, oI_f20, oI_g20, oI_f21, oI_g21, oI_f22, oI_g22, oI_f23, oI_g23, oI_f24, oI_g24, oI_f25, oI_g25, ur_r, ur_o, ur_s, up_r, up_o, up_s, jI_add, jI_sub, jI_mul, jI_neg, jI_i, jI_n, lgc_j, cj_lt, cj_ge, cj_gt, cj_le, cj_eq, oL_r, oL_w, oL_f6, oL_g6, oL_f7, oL_g7, oL_f17, oL_g17, oL_f18, oL_g18, dl_T, dl_F, de_T, de_F, dle_T, dle_F, iI_divn, rem_n, nd_v, ct_s, Bool.false_eq_true]
/-- a word's place behind it, and its number; -1: none -/
def rwR (x : Int → Int) (n i : Int) : Int × Int :=
  if alP x n 0 i = 4 then (i + alP x n 0 i, 0) else if alP x n 1 i = 3 then (i + alP x n 1 i, 1) else if alP x n 2 i = 5 then (i + alP x n 2 i, 2) else if alP x n 3 i = 4 then (i + alP x n 3 i, 3) else if alP x n 4 i = 4 then (i + alP x n 4 i, 4) else (i + mxV (mxV (mxV (mxV (mxV 0 (alP x n 0 i)) (alP x n 1 i)) (alP x n 2 i)) (alP x n 3 i)) (alP x n 4 i), -1)
theorem mxV_r {a b : Int} (h : 0 ≤ a ∧ a ≤ 5) (g : 0 ≤ b ∧ b ≤ 5) : 0 ≤ mxV a b ∧ mxV a b ≤ 5 := by unfold mxV; split <;> omega
theorem alP_r (q : Nat) (hq : q < 5) (i : Int) : 0 ≤ alP x n q i ∧ alP x n q i ≤ 5 := by
  have l6 := (sl_r q (by omega)).1
  have := alG_r (x := x) (n := n) (c := slc q) (sl q).length 0 i
  unfold alP; omega
theorem t_word (h : txK T R J t x n) (hs : sK T J) (hi : 0 ≤ i ∧ i < 700) (v : Int) : rn_c (d + 6) 32 [.ref t] (T, oI (pC J t i v V), L, R, z, w) = some (some (.int (iI (rwR x n i).2)), (T, oI (pC J t (rwR x n i).1 v V), L, R, z, w)) := by
  have t0 := h.t0
  have r0 := alP_r (x := x) (n := n) 0 (by omega) i
  have r1 := alP_r (x := x) (n := n) 1 (by omega) i
  have r2 := alP_r (x := x) (n := n) 2 (by omega) i
  have r3 := alP_r (x := x) (n := n) 3 (by omega) i
  have r4 := alP_r (x := x) (n := n) 4 (by omega) i
  have m0 := mxV_r (a := 0) (by omega) r0
  have m1 := mxV_r m0 r1
  have m2 := mxV_r m1 r2
  have m3 := mxV_r m2 r3
  have m4 := mxV_r m3 r4
  have s0 := wo_step (d := d) (L := L) (z := z) (w := w) (V := V) h hs hi v 0 (by omega) 0 (by omega) none none
  have s1 := wo_step (d := d) (L := L) (z := z) (w := w) (V := V) h hs hi v 1 (by omega) _ m0 (some (.ref (10 + 0))) (some (.int (iI (alP x n 0 i))))
  have s2 := wo_step (d := d) (L := L) (z := z) (w := w) (V := V) h hs hi v 2 (by omega) _ m1 (some (.ref (10 + 1))) (some (.int (iI (alP x n 1 i))))
  have s3 := wo_step (d := d) (L := L) (z := z) (w := w) (V := V) h hs hi v 3 (by omega) _ m2 (some (.ref (10 + 2))) (some (.int (iI (alP x n 2 i))))
  have s4 := wo_step (d := d) (L := L) (z := z) (w := w) (V := V) h hs hi v 4 (by omega) _ m3 (some (.ref (10 + 3))) (some (.int (iI (alP x n 3 i))))
  have e0 : ((sl 0).length : Int) = 4 := rfl
  have e1 : ((sl 1).length : Int) = 3 := rfl
  have e2 : ((sl 2).length : Int) = 5 := rfl
  have e3 : ((sl 3).length : Int) = 4 := rfl
  have e4 : ((sl 4).length : Int) = 4 := rfl
  rw [e0] at s0
  rw [e1] at s1
  rw [e2] at s2
  rw [e3] at s3
  rw [e4] at s4
  have st : rn_c (d + 6) 32 [.ref t] (T, oI (pC J t i v V), L, R, z, w) = rn_r (d + 6) 32 4 [some (.ref t), some (.int (iI 0)), some (.int (iI ((0 : Nat) : Int))), none, none] [] (T, oI (pC J t i v V), L, R, z, w) := by
    simp (disch := first | omega | exact hJ _ _ | exact rJ_g hJ _ _ | (simp (disch := omega) only [ur_r, ur_o, up_r, up_o]; omega) | assumption) only [c32, s32_0, s32_1, s32_2, s32_3, kl_i, kl_r, kl_l, kl_n, kl_z, bd_s, tl_s, tl_n, ap_c, ap_n, v_s, v_n, nd_1, nd_0, ct13, eq_self, iI_add, iI_sub, iI_mul, iI_nat, iI_eq, iI_lt, iI_le, iI_eq0, iI_lt0, ↓reduceIte, if_true, if_false, not_true_eq_false, not_false_eq_true, true_and, and_true, false_and, and_false, true_or, or_true, false_or, or_false, Int.reduceLT, Int.reduceLE, Int.reduceEq, Int.reduceAdd, Int.reduceSub, Int.reduceMul, Nat.reduceAdd, Nat.reduceLT, Nat.reduceEqDiff, Int.reduceNeg, nc_s, nc_0, Int.zero_add, Int.add_zero, oI_r, oI_w, oI_f0, oI_g0, oI_f1, oI_g1, oI_f2, oI_g2, oI_f3, oI_g3, oI_f4, oI_g4, oI_f5, oI_g5, oI_f6, oI_g6, oI_f7, oI_g7, oI_f8, oI_g8, oI_f9, oI_g9, oI_f10, oI_g10, oI_f11, oI_g11, oI_f12, oI_g12, oI_f13, oI_g13, oI_f14, oI_g14, oI_f15, oI_g15, oI_f16, oI_g16, oI_f17, oI_g17, oI_f18, oI_g18, oI_f19, oI_g19, oI_f20, oI_g20, oI_f21, oI_g21, oI_f22, oI_g22, oI_f23, oI_g23, oI_f24, oI_g24, oI_f25, oI_g25, ur_r, ur_o, ur_s, up_r, up_o, up_s, jI_add, jI_sub, jI_mul, jI_neg, jI_i, jI_n, lgc_j, cj_lt, cj_ge, cj_gt, cj_le, cj_eq, oL_r, oL_w, oL_f6, oL_g6, oL_f7, oL_g7, oL_f17, oL_g17, oL_f18, oL_g18, dl_T, dl_F, de_T, de_F, dle_T, dle_F, iI_divn, rem_n, nd_v, ct_s, Bool.false_eq_true]
  rw [st, s0]
  unfold rwR
  by_cases c0 : alP x n 0 i = 4
  · rw [if_pos c0, if_pos c0]; rfl
  rw [if_neg c0, if_neg c0, s1]
  by_cases c1 : alP x n 1 i = 3
  · rw [if_pos c1, if_pos c1]; rfl
  rw [if_neg c1, if_neg c1, s2]
  by_cases c2 : alP x n 2 i = 5
  · rw [if_pos c2, if_pos c2]; rfl
  rw [if_neg c2, if_neg c2, s3]
  by_cases c3 : alP x n 3 i = 4
  · rw [if_pos c3, if_pos c3]; rfl
  rw [if_neg c3, if_neg c3, s4]
  by_cases c4 : alP x n 4 i = 4
  · rw [if_pos c4, if_pos c4]; rfl
  rw [if_neg c4, if_neg c4]
  generalize mxV (mxV (mxV (mxV (mxV 0 (alP x n 0 i)) (alP x n 1 i)) (alP x n 2 i)) (alP x n 3 i)) (alP x n 4 i) = f at *
  have c5 : ((4 + 1 : Nat) : Int) = 5 := rfl
  rw [c5]
  simp (disch := first | omega | exact hJ _ _ | exact rJ_g hJ _ _ | (simp (disch := omega) only [ur_r, ur_o, up_r, up_o]; omega) | assumption) only [s32_4, s32_5, b32_6, s32_56, s32_56v, s32_57, s32_58, s32_61, s32_62, s32_63, s32_66, s32_67, t0, up_c, ur_c, kl_i, kl_r, kl_l, kl_n, kl_z, bd_s, tl_s, tl_n, ap_c, ap_n, v_s, v_n, nd_1, nd_0, ct13, eq_self, iI_add, iI_sub, iI_mul, iI_nat, iI_eq, iI_lt, iI_le, iI_eq0, iI_lt0, ↓reduceIte, if_true, if_false, not_true_eq_false, not_false_eq_true, true_and, and_true, false_and, and_false, true_or, or_true, false_or, or_false, Int.reduceLT, Int.reduceLE, Int.reduceEq, Int.reduceAdd, Int.reduceSub, Int.reduceMul, Nat.reduceAdd, Nat.reduceLT, Nat.reduceEqDiff, Int.reduceNeg, nc_s, nc_0, Int.zero_add, Int.add_zero, oI_r, oI_w, oI_f0, oI_g0, oI_f1, oI_g1, oI_f2, oI_g2, oI_f3, oI_g3, oI_f4, oI_g4, oI_f5, oI_g5, oI_f6, oI_g6, oI_f7, oI_g7, oI_f8, oI_g8, oI_f9, oI_g9, oI_f10, oI_g10, oI_f11, oI_g11, oI_f12, oI_g12, oI_f13, oI_g13, oI_f14, oI_g14, oI_f15, oI_g15, oI_f16, oI_g16, oI_f17, oI_g17, oI_f18, oI_g18, oI_f19, oI_g19, oI_f20, oI_g20, oI_f21, oI_g21, oI_f22, oI_g22, oI_f23, oI_g23, oI_f24, oI_g24, oI_f25, oI_g25, ur_r, ur_o, ur_s, up_r, up_o, up_s, jI_add, jI_sub, jI_mul, jI_neg, jI_i, jI_n, lgc_j, cj_lt, cj_ge, cj_gt, cj_le, cj_eq, oL_r, oL_w, oL_f6, oL_g6, oL_f7, oL_g7, oL_f17, oL_g17, oL_f18, oL_g18, dl_T, dl_F, de_T, de_F, dle_T, dle_F, iI_divn, rem_n, nd_v, ct_s, Bool.false_eq_true]
/-- what stands behind a word and a blank -/
def clK (x : Int → Int) (n q p : Int) : CR :=
  if (nuP x n p).2 = -1 then (p, none) else if q = 0 ∨ q = 3 then (if atP x n (nuP x n p).1 = 32 then ((soP x n (faP x n 5) ((nuP x n p).1 + 1)).1, (soP x n (faP x n 5) ((nuP x n p).1 + 1)).2.map (fun ts => (q, (nuP x n p).2, ts))) else ((nuP x n p).1, none)) else ((nuP x n p).1, some (q, (nuP x n p).2, []))
theorem al_0 : alP x n 0 i = if atP x n i = 114 then (if atP x n (i + 1) = 97 then (if atP x n (i + 2) = 105 then (if atP x n (i + 3) = 110 then 4 else 3) else 2) else 1) else 0 := by
  show alG x n (slc 0) 4 0 i = _
  simp only [alG, nc_s, nc_0, Int.add_zero, Int.zero_add, Int.reduceAdd]
  rfl
theorem al_1 : alP x n 1 i = if atP x n i = 119 then (if atP x n (i + 1) = 101 then (if atP x n (i + 2) = 116 then 3 else 2) else 1) else 0 := by
  show alG x n (slc 1) 3 0 i = _
  simp only [alG, nc_s, nc_0, Int.add_zero, Int.zero_add, Int.reduceAdd]
  rfl
theorem al_2 : alP x n 2 i = if atP x n i = 99 then (if atP x n (i + 1) = 97 then (if atP x n (i + 2) = 114 then (if atP x n (i + 3) = 114 then (if atP x n (i + 4) = 121 then 5 else 4) else 3) else 2) else 1) else 0 := by
  show alG x n (slc 2) 5 0 i = _
  simp only [alG, nc_s, nc_0, Int.add_zero, Int.zero_add, Int.reduceAdd]
  rfl
theorem al_3 : alP x n 3 i = if atP x n i = 108 then (if atP x n (i + 1) = 111 then (if atP x n (i + 2) = 115 then (if atP x n (i + 3) = 116 then 4 else 3) else 2) else 1) else 0 := by
  show alG x n (slc 3) 4 0 i = _
  simp only [alG, nc_s, nc_0, Int.add_zero, Int.zero_add, Int.reduceAdd]
  rfl
theorem al_4 : alP x n 4 i = if atP x n i = 99 then (if atP x n (i + 1) = 97 then (if atP x n (i + 2) = 114 then (if atP x n (i + 3) = 116 then 4 else 3) else 2) else 1) else 0 := by
  show alG x n (slc 4) 4 0 i = _
  simp only [alG, nc_s, nc_0, Int.add_zero, Int.zero_add, Int.reduceAdd]
  rfl
theorem wd_7 : wdP x n 7 i = if atP x n i = 114 then (if atP x n (i + 1) = 97 then (if atP x n (i + 2) = 105 then (if atP x n (i + 3) = 110 then (if atP x n (i + 4) = 32 then (i + 5, true) else (i + 4, false)) else (i + 3, false)) else (i + 2, false)) else (i + 1, false)) else (i, false) := by
  show spN x n (slc 7) 5 0 i = _
  simp only [spN, Int.add_assoc, Int.reduceAdd]
  rfl
theorem wd_10 : wdP x n 10 i = if atP x n i = 108 then (if atP x n (i + 1) = 111 then (if atP x n (i + 2) = 115 then (if atP x n (i + 3) = 116 then (if atP x n (i + 4) = 32 then (i + 5, true) else (i + 4, false)) else (i + 3, false)) else (i + 2, false)) else (i + 1, false)) else (i, false) := by
  show spN x n (slc 10) 5 0 i = _
  simp only [spN, Int.add_assoc, Int.reduceAdd]
  rfl
theorem wd_11 : wdP x n 11 i = if atP x n i = 119 then (if atP x n (i + 1) = 101 then (if atP x n (i + 2) = 116 then (if atP x n (i + 3) = 32 then (i + 4, true) else (i + 3, false)) else (i + 2, false)) else (i + 1, false)) else (i, false) := by
  show spN x n (slc 11) 4 0 i = _
  simp only [spN, Int.add_assoc, Int.reduceAdd]
  rfl
theorem wd_12 : wdP x n 12 i = if atP x n i = 99 then (if atP x n (i + 1) = 97 then (if atP x n (i + 2) = 114 then (i + 3, true) else (i + 2, false)) else (i + 1, false)) else (i, false) := by
  show spN x n (slc 12) 3 0 i = _
  simp only [spN, Int.add_assoc, Int.reduceAdd]
  rfl
theorem wd_13 : wdP x n 13 i = if atP x n i = 114 then (if atP x n (i + 1) = 121 then (if atP x n (i + 2) = 32 then (i + 3, true) else (i + 2, false)) else (i + 1, false)) else (i, false) := by
  show spN x n (slc 13) 3 0 i = _
  simp only [spN, Int.add_assoc, Int.reduceAdd]
  rfl
theorem wd_14 : wdP x n 14 i = if atP x n i = 116 then (if atP x n (i + 1) = 32 then (i + 2, true) else (i + 1, false)) else (i, false) := by
  show spN x n (slc 14) 2 0 i = _
  simp only [spN, Int.add_assoc, Int.reduceAdd]
  rfl
theorem mx_0 {a : Int} (h : 0 ≤ a) : mxV 0 a = a ∧ mxV a 0 = a := by unfold mxV; constructor <;> split <;> omega
theorem mx_e {a : Int} : mxV a a = a := by unfold mxV; split <;> omega
theorem moP_t {q : Nat} {kd i j : Int} (h : wdP x n q i = (j, true)) (hk : kd = 0 ∨ kd = 3) : moP x n q kd i = clK x n kd j := by
  unfold moP clK
  rw [h]
  simp only [if_true]
  rw [if_pos hk]
theorem moP_f {q : Nat} {kd i j : Int} (h : wdP x n q i = (j, false)) : moP x n q kd i = (j, none) := by
  unfold moP
  rw [h]
  rfl
theorem tlP_t {q : Nat} {kd i j : Int} (h : wdP x n q i = (j, true)) (hk : ¬ (kd = 0 ∨ kd = 3)) : tlP x n q kd i = clK x n kd j := by
  unfold tlP clK
  rw [h]
  simp only [if_true]
  rw [if_neg hk]
theorem tlP_f {q : Nat} {kd i j : Int} (h : wdP x n q i = (j, false)) : tlP x n q kd i = (j, none) := by
  unfold tlP
  rw [h]
  rfl
/-- the class's words and the reference's -/
theorem rw_cl (i : Int) : ((rwR x n i).2 = -1 ∧ clP x n i = ((rwR x n i).1, none)) ∨ ((0 ≤ (rwR x n i).2 ∧ (rwR x n i).2 ≤ 4 ∧ i < (rwR x n i).1 ∧ (rwR x n i).1 ≤ i + 5) ∧ (¬ atP x n (rwR x n i).1 = 32 → clP x n i = ((rwR x n i).1, none)) ∧ (atP x n (rwR x n i).1 = 32 → clP x n i = clK x n (rwR x n i).2 ((rwR x n i).1 + 1))) := by
  by_cases c0 : atP x n i = 114
  case pos =>
    have a1 : alP x n 1 i = 0 := by rw [al_1, if_neg (by omega)]
    have a2 : alP x n 2 i = 0 := by rw [al_2, if_neg (by omega)]
    have a3 : alP x n 3 i = 0 := by rw [al_3, if_neg (by omega)]
    have a4 : alP x n 4 i = 0 := by rw [al_4, if_neg (by omega)]
    have cl : clP x n i = moP x n 7 0 i := by unfold clP; rw [if_neg (by omega), if_neg (by omega), if_pos c0]
    by_cases c1 : atP x n (i + 1) = 97
    case neg =>
      have a0 : alP x n 0 i = 1 := by rw [al_0, if_pos c0, if_neg c1]
      have e : rwR x n i = (i + 1, -1) := by unfold rwR; rw [a0, a1, a2, a3, a4]; simp [mxV]
      have wd : wdP x n 7 i = (i + 1, false) := by rw [wd_7, if_pos c0, if_neg c1]
      exact Or.inl ⟨by rw [e], by rw [cl, moP_f wd, e]⟩
    by_cases c2 : atP x n (i + 2) = 105
    case neg =>
      have a0 : alP x n 0 i = 2 := by rw [al_0, if_pos c0, if_pos c1, if_neg c2]
      have e : rwR x n i = (i + 2, -1) := by unfold rwR; rw [a0, a1, a2, a3, a4]; simp [mxV]
      have wd : wdP x n 7 i = (i + 2, false) := by rw [wd_7, if_pos c0, if_pos c1, if_neg c2]
      exact Or.inl ⟨by rw [e], by rw [cl, moP_f wd, e]⟩
    by_cases c3 : atP x n (i + 3) = 110
    case neg =>
      have a0 : alP x n 0 i = 3 := by rw [al_0, if_pos c0, if_pos c1, if_pos c2, if_neg c3]
      have e : rwR x n i = (i + 3, -1) := by unfold rwR; rw [a0, a1, a2, a3, a4]; simp [mxV]
      have wd : wdP x n 7 i = (i + 3, false) := by rw [wd_7, if_pos c0, if_pos c1, if_pos c2, if_neg c3]
      exact Or.inl ⟨by rw [e], by rw [cl, moP_f wd, e]⟩
    have a0 : alP x n 0 i = 4 := by rw [al_0, if_pos c0, if_pos c1, if_pos c2, if_pos c3]
    have e : rwR x n i = (i + 4, 0) := by unfold rwR; rw [a0, a1, a2, a3, a4]; simp [mxV]
    refine Or.inr ⟨by rw [e]; simp only []; omega, fun hn => ?_, fun hy => ?_⟩
    · rw [e] at hn ⊢
      have wd : wdP x n 7 i = (i + 4, false) := by rw [wd_7, if_pos c0, if_pos c1, if_pos c2, if_pos c3, if_neg hn]
      rw [cl, moP_f wd]
    · rw [e] at hy ⊢
      have wd : wdP x n 7 i = (i + 5, true) := by rw [wd_7, if_pos c0, if_pos c1, if_pos c2, if_pos c3, if_pos hy]
      rw [cl, moP_t wd (by omega)]
      simp only [Int.add_assoc, Int.reduceAdd]
  have n114 := c0
  clear c0
  by_cases c0 : atP x n i = 108
  case pos =>
    have a0 : alP x n 0 i = 0 := by rw [al_0, if_neg (by omega)]
    have a1 : alP x n 1 i = 0 := by rw [al_1, if_neg (by omega)]
    have a2 : alP x n 2 i = 0 := by rw [al_2, if_neg (by omega)]
    have a4 : alP x n 4 i = 0 := by rw [al_4, if_neg (by omega)]
    have cl : clP x n i = moP x n 10 3 i := by unfold clP; rw [if_neg (by omega), if_pos c0]
    by_cases c1 : atP x n (i + 1) = 111
    case neg =>
      have a3 : alP x n 3 i = 1 := by rw [al_3, if_pos c0, if_neg c1]
      have e : rwR x n i = (i + 1, -1) := by unfold rwR; rw [a0, a1, a2, a3, a4]; simp [mxV]
      have wd : wdP x n 10 i = (i + 1, false) := by rw [wd_10, if_pos c0, if_neg c1]
      exact Or.inl ⟨by rw [e], by rw [cl, moP_f wd, e]⟩
    by_cases c2 : atP x n (i + 2) = 115
    case neg =>
      have a3 : alP x n 3 i = 2 := by rw [al_3, if_pos c0, if_pos c1, if_neg c2]
      have e : rwR x n i = (i + 2, -1) := by unfold rwR; rw [a0, a1, a2, a3, a4]; simp [mxV]
      have wd : wdP x n 10 i = (i + 2, false) := by rw [wd_10, if_pos c0, if_pos c1, if_neg c2]
      exact Or.inl ⟨by rw [e], by rw [cl, moP_f wd, e]⟩
    by_cases c3 : atP x n (i + 3) = 116
    case neg =>
      have a3 : alP x n 3 i = 3 := by rw [al_3, if_pos c0, if_pos c1, if_pos c2, if_neg c3]
      have e : rwR x n i = (i + 3, -1) := by unfold rwR; rw [a0, a1, a2, a3, a4]; simp [mxV]
      have wd : wdP x n 10 i = (i + 3, false) := by rw [wd_10, if_pos c0, if_pos c1, if_pos c2, if_neg c3]
      exact Or.inl ⟨by rw [e], by rw [cl, moP_f wd, e]⟩
    have a3 : alP x n 3 i = 4 := by rw [al_3, if_pos c0, if_pos c1, if_pos c2, if_pos c3]
    have e : rwR x n i = (i + 4, 3) := by unfold rwR; rw [a0, a1, a2, a3, a4]; simp [mxV]
    refine Or.inr ⟨by rw [e]; simp only []; omega, fun hn => ?_, fun hy => ?_⟩
    · rw [e] at hn ⊢
      have wd : wdP x n 10 i = (i + 4, false) := by rw [wd_10, if_pos c0, if_pos c1, if_pos c2, if_pos c3, if_neg hn]
      rw [cl, moP_f wd]
    · rw [e] at hy ⊢
      have wd : wdP x n 10 i = (i + 5, true) := by rw [wd_10, if_pos c0, if_pos c1, if_pos c2, if_pos c3, if_pos hy]
      rw [cl, moP_t wd (by omega)]
      simp only [Int.add_assoc, Int.reduceAdd]
  have n108 := c0
  clear c0
  by_cases c0 : atP x n i = 119
  case pos =>
    have a0 : alP x n 0 i = 0 := by rw [al_0, if_neg (by omega)]
    have a2 : alP x n 2 i = 0 := by rw [al_2, if_neg (by omega)]
    have a3 : alP x n 3 i = 0 := by rw [al_3, if_neg (by omega)]
    have a4 : alP x n 4 i = 0 := by rw [al_4, if_neg (by omega)]
    have cl : clP x n i = tlP x n 11 1 i := by unfold clP; rw [if_neg (by omega), if_neg (by omega), if_neg (by omega), if_pos c0]
    by_cases c1 : atP x n (i + 1) = 101
    case neg =>
      have a1 : alP x n 1 i = 1 := by rw [al_1, if_pos c0, if_neg c1]
      have e : rwR x n i = (i + 1, -1) := by unfold rwR; rw [a0, a1, a2, a3, a4]; simp [mxV]
      have wd : wdP x n 11 i = (i + 1, false) := by rw [wd_11, if_pos c0, if_neg c1]
      exact Or.inl ⟨by rw [e], by rw [cl, tlP_f wd, e]⟩
    by_cases c2 : atP x n (i + 2) = 116
    case neg =>
      have a1 : alP x n 1 i = 2 := by rw [al_1, if_pos c0, if_pos c1, if_neg c2]
      have e : rwR x n i = (i + 2, -1) := by unfold rwR; rw [a0, a1, a2, a3, a4]; simp [mxV]
      have wd : wdP x n 11 i = (i + 2, false) := by rw [wd_11, if_pos c0, if_pos c1, if_neg c2]
      exact Or.inl ⟨by rw [e], by rw [cl, tlP_f wd, e]⟩
    have a1 : alP x n 1 i = 3 := by rw [al_1, if_pos c0, if_pos c1, if_pos c2]
    have e : rwR x n i = (i + 3, 1) := by unfold rwR; rw [a0, a1, a2, a3, a4]; simp [mxV]
    refine Or.inr ⟨by rw [e]; simp only []; omega, fun hn => ?_, fun hy => ?_⟩
    · rw [e] at hn ⊢
      have wd : wdP x n 11 i = (i + 3, false) := by rw [wd_11, if_pos c0, if_pos c1, if_pos c2, if_neg hn]
      rw [cl, tlP_f wd]
    · rw [e] at hy ⊢
      have wd : wdP x n 11 i = (i + 4, true) := by rw [wd_11, if_pos c0, if_pos c1, if_pos c2, if_pos hy]
      rw [cl, tlP_t wd (by omega)]
      simp only [Int.add_assoc, Int.reduceAdd]
  have n119 := c0
  clear c0
  by_cases c0 : atP x n i = 99
  case neg =>
    have a0 : alP x n 0 i = 0 := by rw [al_0, if_neg (by omega)]
    have a1 : alP x n 1 i = 0 := by rw [al_1, if_neg (by omega)]
    have a2 : alP x n 2 i = 0 := by rw [al_2, if_neg (by omega)]
    have a3 : alP x n 3 i = 0 := by rw [al_3, if_neg (by omega)]
    have a4 : alP x n 4 i = 0 := by rw [al_4, if_neg (by omega)]
    have e : rwR x n i = (i, -1) := by unfold rwR; rw [a0, a1, a2, a3, a4]; simp [mxV]
    exact Or.inl ⟨by rw [e], by unfold clP; rw [if_neg (by omega), if_neg (by omega), if_neg (by omega), if_neg (by omega), e]⟩
  have cl : clP x n i = caP x n i := by unfold clP; rw [if_pos c0]
  have a0 : alP x n 0 i = 0 := by rw [al_0, if_neg (by omega)]
  have a1 : alP x n 1 i = 0 := by rw [al_1, if_neg (by omega)]
  have a3 : alP x n 3 i = 0 := by rw [al_3, if_neg (by omega)]
  by_cases c1 : atP x n (i + 1) = 97
  case neg =>
    have a2 : alP x n 2 i = 1 := by rw [al_2, if_pos c0, if_neg c1]
    have a4 : alP x n 4 i = 1 := by rw [al_4, if_pos c0, if_neg c1]
    have e : rwR x n i = (i + 1, -1) := by unfold rwR; rw [a0, a1, a2, a3, a4]; simp [mxV]
    have wd : wdP x n 12 i = (i + 1, false) := by rw [wd_12, if_pos c0, if_neg c1]
    exact Or.inl ⟨by rw [e], by rw [cl, e]; unfold caP; rw [wd]; rfl⟩
  by_cases c2 : atP x n (i + 2) = 114
  case neg =>
    have a2 : alP x n 2 i = 2 := by rw [al_2, if_pos c0, if_pos c1, if_neg c2]
    have a4 : alP x n 4 i = 2 := by rw [al_4, if_pos c0, if_pos c1, if_neg c2]
    have e : rwR x n i = (i + 2, -1) := by unfold rwR; rw [a0, a1, a2, a3, a4]; simp [mxV]
    have wd : wdP x n 12 i = (i + 2, false) := by rw [wd_12, if_pos c0, if_pos c1, if_neg c2]
    exact Or.inl ⟨by rw [e], by rw [cl, e]; unfold caP; rw [wd]; rfl⟩
  have wd2 : wdP x n 12 i = (i + 3, true) := by rw [wd_12, if_pos c0, if_pos c1, if_pos c2]
  have g1 : i + 3 + 1 = i + 4 := by omega
  have g2 : i + 3 + 2 = i + 5 := by omega
  by_cases c3 : atP x n (i + 3) = 114
  · have ca : clP x n i = tlP x n 13 2 (i + 3) := by rw [cl]; unfold caP; rw [wd2]; simp only [if_true]; rw [if_pos c3]
    have a4 : alP x n 4 i = 3 := by rw [al_4, if_pos c0, if_pos c1, if_pos c2, if_neg (by omega)]
    by_cases c4 : atP x n (i + 4) = 121
    case neg =>
      have a2 : alP x n 2 i = 4 := by rw [al_2, if_pos c0, if_pos c1, if_pos c2, if_pos c3, if_neg c4]
      have e : rwR x n i = (i + 4, -1) := by unfold rwR; rw [a0, a1, a2, a3, a4]; simp [mxV]
      have wd : wdP x n 13 (i + 3) = (i + 4, false) := by rw [wd_13, if_pos c3, g1, if_neg c4]
      exact Or.inl ⟨by rw [e], by rw [ca, e, tlP_f wd]⟩
    have a2 : alP x n 2 i = 5 := by rw [al_2, if_pos c0, if_pos c1, if_pos c2, if_pos c3, if_pos c4]
    have e : rwR x n i = (i + 5, 2) := by unfold rwR; rw [a0, a1, a2, a3, a4]; simp
    refine Or.inr ⟨by rw [e]; simp only []; omega, fun hn => ?_, fun hy => ?_⟩
    · rw [e] at hn ⊢
      have wd : wdP x n 13 (i + 3) = (i + 5, false) := by rw [wd_13, if_pos c3, g1, g2, if_pos c4, if_neg hn]
      rw [ca, tlP_f wd]
    · rw [e] at hy ⊢
      have wd : wdP x n 13 (i + 3) = (i + 6, true) := by rw [wd_13, if_pos c3, g1, g2, if_pos c4, if_pos hy, show i + 3 + 3 = i + 6 by omega]
      rw [ca, tlP_t wd (by omega)]
      simp only [Int.add_assoc, Int.reduceAdd]
  · have ca : clP x n i = tlP x n 14 4 (i + 3) := by rw [cl]; unfold caP; rw [wd2]; simp only [if_true]; rw [if_neg c3]
    have a2 : alP x n 2 i = 3 := by rw [al_2, if_pos c0, if_pos c1, if_pos c2, if_neg c3]
    by_cases c4 : atP x n (i + 3) = 116
    case neg =>
      have a4 : alP x n 4 i = 3 := by rw [al_4, if_pos c0, if_pos c1, if_pos c2, if_neg c4]
      have e : rwR x n i = (i + 3, -1) := by unfold rwR; rw [a0, a1, a2, a3, a4]; simp [mxV]
      have wd : wdP x n 14 (i + 3) = (i + 3, false) := by rw [wd_14, if_neg c4]
      exact Or.inl ⟨by rw [e], by rw [ca, e, tlP_f wd]⟩
    have a4 : alP x n 4 i = 4 := by rw [al_4, if_pos c0, if_pos c1, if_pos c2, if_pos c4]
    have e : rwR x n i = (i + 4, 4) := by unfold rwR; rw [a0, a1, a2, a3, a4]; simp
    refine Or.inr ⟨by rw [e]; simp only []; omega, fun hn => ?_, fun hy => ?_⟩
    · rw [e] at hn ⊢
      have wd : wdP x n 14 (i + 3) = (i + 4, false) := by rw [wd_14, if_pos c4, g1, if_neg hn]
      rw [ca, tlP_f wd]
    · rw [e] at hy ⊢
      have wd : wdP x n 14 (i + 3) = (i + 5, true) := by rw [wd_14, if_pos c4, g1, g2, if_pos hy]
      rw [ca, tlP_t wd (by omega)]
      simp only [Int.add_assoc, Int.reduceAdd]
end TC
