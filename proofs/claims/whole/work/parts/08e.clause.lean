/-! the reference's clauses -/
section PC
variable {d : Nat} {T : Nat → Nat × Nat} {L : Nat → Nat → Int64} {R : Nat → Nat → Option Nat} {z w : Nat} {J : mR} {a n i o b : Int} {t S : Int → Int}
def spN (t : Int → Int) (n : Int) (c : Int → Int) : Nat → Int → Int → Int × Bool
  | 0, _, i => (i, true)
  | r + 1, k, i => if atP t n i = c k then spN t n c r (k + 1) (i + 1) else (i, false)
abbrev slc (q : Nat) (k : Int) : Int := (sl q).getD k.toNat 0
theorem sl_r : ∀ q : Nat, q < 15 → (sl q).length < 6 ∧ ∀ k : Nat, k < (sl q).length → 0 ≤ slc q k ∧ slc q k < 128 := by decide
theorem sp_w (h : rM T R) (hs : sK T J) (hp : pH J a n) (hx : tX S t n) (q : Nat) (hq : q < 15) (hi : 0 ≤ i ∧ i < 1000) : ∀ (r k : Nat), k + r = (sl q).length → rn_r (d + 5) 114 2 [some (.ref 193), some (.ref (10 + q)), some (.int (iI k))] [] (T, oI (pM J i 1 o S), L, R, z, w) = some (none, (T, oI (pM J i 1 o S), L, R, z, w)) := by
  have hs' : sK T (pM J i 1 o S) := sK_u (sK_u hs (by decide)) (by decide)
  have hT := (hs'.1 q hq).1
  have hB := (hs'.1 q hq).2
  obtain ⟨l6, lr⟩ := sl_r q hq
  have kl := j_len (d := d + 3) (L := L) (R := R) (z := z) (w := w) (J := pM J i 1 o S) hT (by rw [show 10 + q + 20 = 30 + q by omega]; exact hB) (by omega)
  intro r
  induction r with
  | zero =>
    intro k hk
    have hk' : (k : Int) = ((sl q).length : Int) := by omega
    simp (disch := first | omega | exact hJ _ _ | exact rJ_g hJ _ _ | (simp (disch := omega) only [ur_r, ur_o, up_r, up_o]; omega) | assumption) only [s114_2, s114_3, s114_3v, s114_4, b114_7, s114_25, hT, kl, kl_i, kl_r, kl_l, kl_n, kl_z, bd_s, tl_s, tl_n, ap_c, ap_n, v_s, v_n, nd_1, nd_0, ct13, eq_self, iI_add, iI_sub, iI_mul, iI_nat, iI_eq, iI_lt, iI_le, iI_eq0, iI_lt0, ↓reduceIte, if_true, if_false, not_true_eq_false, not_false_eq_true, true_and, and_true, false_and, and_false, true_or, or_true, false_or, or_false, Int.reduceLT, Int.reduceLE, Int.reduceEq, Int.reduceAdd, Int.reduceSub, Int.reduceMul, Nat.reduceAdd, Nat.reduceLT, Nat.reduceEqDiff, Int.reduceNeg, nc_s, nc_0, Int.zero_add, Int.add_zero, oI_r, oI_w, oI_f0, oI_g0, oI_f1, oI_g1, oI_f2, oI_g2, oI_f3, oI_g3, oI_f4, oI_g4, oI_f5, oI_g5, oI_f6, oI_g6, oI_f7, oI_g7, oI_f8, oI_g8, oI_f9, oI_g9, oI_f10, oI_g10, oI_f11, oI_g11, oI_f12, oI_g12, oI_f13, oI_g13, oI_f14, oI_g14, oI_f15, oI_g15, oI_f16, oI_g16, oI_f17, oI_g17, oI_f18, oI_g18, oI_f19, oI_g19, oI_f20, oI_g20, oI_f21, oI_g21, oI_f22, oI_g22, oI_f23, oI_g23, oI_f24, oI_g24, oI_f25, oI_g25, ur_r, ur_o, ur_s, up_r, up_o, up_s, jI_add, jI_sub, jI_mul, jI_neg, jI_i, jI_n, lgc_j, cj_lt, cj_ge, cj_gt, cj_le, cj_eq, oL_r, oL_w, oL_f6, oL_g6, oL_f7, oL_g7, oL_f17, oL_g17, oL_f18, oL_g18, dl_T, dl_F, de_T, de_F, dle_T, dle_F, iI_divn, rem_n, nd_v, ct_s, Bool.false_eq_true]
  | succ r ih =>
    intro k hk
    have kc := j_char (d := d) (L := L) (R := R) (z := z) (w := w) (J := pM J i 1 o S) hT (by rw [show 10 + q + 20 = 30 + q by omega]; exact hB) (k := k) (v := slc q k) (by omega) (by omega) (by rw [show 10 + q + 20 = 30 + q by omega]; exact hs'.2 q k hq (by omega)) (lr k (by omega))
    have mw := n_must_w (d := d + 3) (L := L) (R := R) (z := z) (w := w) (i := i) (o := o) h hp hx hi (slc q k)
    refine Eq.trans ?_ ((s114_22 ..).trans (ih (k + 1) (by omega)))
    simp (disch := first | omega | exact hJ _ _ | exact rJ_g hJ _ _ | (simp (disch := omega) only [ur_r, ur_o, up_r, up_o]; omega) | assumption) only [s114_2, s114_3, s114_3v, s114_4, b114_7, s114_10, s114_10v, s114_11, s114_11v, s114_12, s114_13, s114_16, s114_19, h.t193, hT, kl, kc, mw, kl_i, kl_r, kl_l, kl_n, kl_z, bd_s, tl_s, tl_n, ap_c, ap_n, v_s, v_n, nd_1, nd_0, ct13, eq_self, iI_add, iI_sub, iI_mul, iI_nat, iI_eq, iI_lt, iI_le, iI_eq0, iI_lt0, ↓reduceIte, if_true, if_false, not_true_eq_false, not_false_eq_true, true_and, and_true, false_and, and_false, true_or, or_true, false_or, or_false, Int.reduceLT, Int.reduceLE, Int.reduceEq, Int.reduceAdd, Int.reduceSub, Int.reduceMul, Nat.reduceAdd, Nat.reduceLT, Nat.reduceEqDiff, Int.reduceNeg, nc_s, nc_0, Int.zero_add, Int.add_zero, oI_r, oI_w, oI_f0, oI_g0, oI_f1, oI_g1, oI_f2, oI_g2, oI_f3, oI_g3, oI_f4, oI_g4, oI_f5, oI_g5, oI_f6, oI_g6, oI_f7, oI_g7, oI_f8, oI_g8, oI_f9, oI_g9, oI_f10, oI_g10, oI_f11, oI_g11, oI_f12, oI_g12, oI_f13, oI_g13, oI_f14, oI_g14, oI_f15, oI_g15, oI_f16, oI_g16, oI_f17, oI_g17, oI_f18, oI_g18, oI_f19, oI_g19, oI_f20, oI_g20, oI_f21, oI_g21, oI_f22, oI_g22, oI_f23, oI_g23, oI_f24, oI_g24, oI_f25, oI_g25, ur_r, ur_o, ur_s, up_r, up_o, up_s, jI_add, jI_sub, jI_mul, jI_neg, jI_i, jI_n, lgc_j, cj_lt, cj_ge, cj_gt, cj_le, cj_eq, oL_r, oL_w, oL_f6, oL_g6, oL_f7, oL_g7, oL_f17, oL_g17, oL_f18, oL_g18, dl_T, dl_F, de_T, de_F, dle_T, dle_F, iI_divn, rem_n, nd_v, ct_s, Bool.false_eq_true]
theorem n_spells_w (h : rM T R) (hs : sK T J) (hp : pH J a n) (hx : tX S t n) (q : Nat) (hq : q < 15) (hi : 0 ≤ i ∧ i < 1000) : rn_c (d + 5) 114 [.ref 193, .ref (10 + q)] (T, oI (pM J i 1 o S), L, R, z, w) = some (none, (T, oI (pM J i 1 o S), L, R, z, w)) := by
  refine Eq.trans ?_ (sp_w (d := d) (L := L) (z := z) (w := w) (o := o) h hs hp hx q hq hi (sl q).length 0 (by omega))
  simp (disch := first | omega | exact hJ _ _ | exact rJ_g hJ _ _ | (simp (disch := omega) only [ur_r, ur_o, up_r, up_o]; omega) | assumption) only [c114, s114_0, s114_1, kl_i, kl_r, kl_l, kl_n, kl_z, bd_s, tl_s, tl_n, ap_c, ap_n, v_s, v_n, nd_1, nd_0, ct13, eq_self, iI_add, iI_sub, iI_mul, iI_nat, iI_eq, iI_lt, iI_le, iI_eq0, iI_lt0, ↓reduceIte, if_true, if_false, not_true_eq_false, not_false_eq_true, true_and, and_true, false_and, and_false, true_or, or_true, false_or, or_false, Int.reduceLT, Int.reduceLE, Int.reduceEq, Int.reduceAdd, Int.reduceSub, Int.reduceMul, Nat.reduceAdd, Nat.reduceLT, Nat.reduceEqDiff, Int.reduceNeg, nc_s, nc_0, Int.zero_add, Int.add_zero, oI_r, oI_w, oI_f0, oI_g0, oI_f1, oI_g1, oI_f2, oI_g2, oI_f3, oI_g3, oI_f4, oI_g4, oI_f5, oI_g5, oI_f6, oI_g6, oI_f7, oI_g7, oI_f8, oI_g8, oI_f9, oI_g9, oI_f10, oI_g10, oI_f11, oI_g11, oI_f12, oI_g12, oI_f13, oI_g13, oI_f14, oI_g14, oI_f15, oI_g15, oI_f16, oI_g16, oI_f17, oI_g17, oI_f18, oI_g18, oI_f19, oI_g19, oI_f20, oI_g20, oI_f21, oI_g21, oI_f22, oI_g22, oI_f23, oI_g23, oI_f24, oI_g24, oI_f25, oI_g25, ur_r, ur_o, ur_s, up_r, up_o, up_s, jI_add, jI_sub, jI_mul, jI_neg, jI_i, jI_n, lgc_j, cj_lt, cj_ge, cj_gt, cj_le, cj_eq, oL_r, oL_w, oL_f6, oL_g6, oL_f7, oL_g7, oL_f17, oL_g17, oL_f18, oL_g18, dl_T, dl_F, de_T, de_F, dle_T, dle_F, iI_divn, rem_n, nd_v, ct_s, Bool.false_eq_true]
def wdP (t : Int → Int) (n : Int) (q : Nat) (i : Int) : Int × Bool := spN t n (slc q) (sl q).length 0 i
def wb (r : Int × Bool) : Int := if r.2 = true then 0 else 1
theorem sp_loop (h : rM T R) (hs : sK T J) (hp : pH J a n) (hx : tX S t n) (q : Nat) (hq : q < 15) : ∀ (r k : Nat) (i : Int), k + r = (sl q).length → 0 ≤ i ∧ i + r < 1000 → rn_r (d + 5) 114 2 [some (.ref 193), some (.ref (10 + q)), some (.int (iI k))] [] (T, oI (pM J i 0 o S), L, R, z, w) = some (none, (T, oI (pM J (spN t n (slc q) r k i).1 (wb (spN t n (slc q) r k i)) o S), L, R, z, w)) := by
  obtain ⟨l6, lr⟩ := sl_r q hq
  intro r
  induction r with
  | zero =>
    intro k i hk hi
    have hs' : sK T (pM J i 0 o S) := sK_u (sK_u hs (by decide)) (by decide)
    have hT := (hs'.1 q hq).1
    have hB := (hs'.1 q hq).2
    have kl := j_len (d := d + 3) (L := L) (R := R) (z := z) (w := w) (J := pM J i 0 o S) hT (by rw [show 10 + q + 20 = 30 + q by omega]; exact hB) (by omega)
    have hk' : (k : Int) = ((sl q).length : Int) := by omega
    simp only [spN, wb]
    simp (disch := first | omega | exact hJ _ _ | exact rJ_g hJ _ _ | (simp (disch := omega) only [ur_r, ur_o, up_r, up_o]; omega) | assumption) only [s114_2, s114_3, s114_3v, s114_4, b114_7, s114_25, hT, kl, kl_i, kl_r, kl_l, kl_n, kl_z, bd_s, tl_s, tl_n, ap_c, ap_n, v_s, v_n, nd_1, nd_0, ct13, eq_self, iI_add, iI_sub, iI_mul, iI_nat, iI_eq, iI_lt, iI_le, iI_eq0, iI_lt0, ↓reduceIte, if_true, if_false, not_true_eq_false, not_false_eq_true, true_and, and_true, false_and, and_false, true_or, or_true, false_or, or_false, Int.reduceLT, Int.reduceLE, Int.reduceEq, Int.reduceAdd, Int.reduceSub, Int.reduceMul, Nat.reduceAdd, Nat.reduceLT, Nat.reduceEqDiff, Int.reduceNeg, nc_s, nc_0, Int.zero_add, Int.add_zero, oI_r, oI_w, oI_f0, oI_g0, oI_f1, oI_g1, oI_f2, oI_g2, oI_f3, oI_g3, oI_f4, oI_g4, oI_f5, oI_g5, oI_f6, oI_g6, oI_f7, oI_g7, oI_f8, oI_g8, oI_f9, oI_g9, oI_f10, oI_g10, oI_f11, oI_g11, oI_f12, oI_g12, oI_f13, oI_g13, oI_f14, oI_g14, oI_f15, oI_g15, oI_f16, oI_g16, oI_f17, oI_g17, oI_f18, oI_g18, oI_f19, oI_g19, oI_f20, oI_g20, oI_f21, oI_g21, oI_f22, oI_g22, oI_f23, oI_g23, oI_f24, oI_g24, oI_f25, oI_g25, ur_r, ur_o, ur_s, up_r, up_o, up_s, jI_add, jI_sub, jI_mul, jI_neg, jI_i, jI_n, lgc_j, cj_lt, cj_ge, cj_gt, cj_le, cj_eq, oL_r, oL_w, oL_f6, oL_g6, oL_f7, oL_g7, oL_f17, oL_g17, oL_f18, oL_g18, dl_T, dl_F, de_T, de_F, dle_T, dle_F, iI_divn, rem_n, nd_v, ct_s, Bool.false_eq_true]
  | succ r ih =>
    intro k i hk hi
    have hs' : sK T (pM J i 0 o S) := sK_u (sK_u hs (by decide)) (by decide)
    have hT := (hs'.1 q hq).1
    have hB := (hs'.1 q hq).2
    have kl := j_len (d := d + 3) (L := L) (R := R) (z := z) (w := w) (J := pM J i 0 o S) hT (by rw [show 10 + q + 20 = 30 + q by omega]; exact hB) (by omega)
    have kr := lr k (by omega)
    have kc := j_char (d := d) (L := L) (R := R) (z := z) (w := w) (J := pM J i 0 o S) hT (by rw [show 10 + q + 20 = 30 + q by omega]; exact hB) (k := k) (v := slc q k) (by omega) (by omega) (by rw [show 10 + q + 20 = 30 + q by omega]; exact hs'.2 q k hq (by omega)) kr
    have mu := n_must (d := d + 3) (L := L) (R := R) (z := z) (w := w) (i := i) (o := o) h hp hx (by omega) (slc q k) (by omega)
    unfold muP mwP at mu
    simp only [spN]
    by_cases e : atP t n i = slc q k
    · rw [if_pos e]
      rw [if_pos e, if_pos e] at mu
      refine Eq.trans ?_ ((s114_22 ..).trans (ih (k + 1) (i + 1) (by omega) (by omega)))
      simp (disch := first | omega | exact hJ _ _ | exact rJ_g hJ _ _ | (simp (disch := omega) only [ur_r, ur_o, up_r, up_o]; omega) | assumption) only [s114_2, s114_3, s114_3v, s114_4, b114_7, s114_10, s114_10v, s114_11, s114_11v, s114_12, s114_13, s114_16, s114_19, h.t193, hT, kl, kc, mu, kl_i, kl_r, kl_l, kl_n, kl_z, bd_s, tl_s, tl_n, ap_c, ap_n, v_s, v_n, nd_1, nd_0, ct13, eq_self, iI_add, iI_sub, iI_mul, iI_nat, iI_eq, iI_lt, iI_le, iI_eq0, iI_lt0, ↓reduceIte, if_true, if_false, not_true_eq_false, not_false_eq_true, true_and, and_true, false_and, and_false, true_or, or_true, false_or, or_false, Int.reduceLT, Int.reduceLE, Int.reduceEq, Int.reduceAdd, Int.reduceSub, Int.reduceMul, Nat.reduceAdd, Nat.reduceLT, Nat.reduceEqDiff, Int.reduceNeg, nc_s, nc_0, Int.zero_add, Int.add_zero, oI_r, oI_w, oI_f0, oI_g0, oI_f1, oI_g1, oI_f2, oI_g2, oI_f3, oI_g3, oI_f4, oI_g4, oI_f5, oI_g5, oI_f6, oI_g6, oI_f7, oI_g7, oI_f8, oI_g8, oI_f9, oI_g9, oI_f10, oI_g10, oI_f11, oI_g11, oI_f12, oI_g12, oI_f13, oI_g13, oI_f14, oI_g14, oI_f15, oI_g15, oI_f16, oI_g16, oI_f17, oI_g17, oI_f18, oI_g18, oI_f19, oI_g19, oI_f20, oI_g20, oI_f21, oI_g21, oI_f22, oI_g22, oI_f23, oI_g23, oI_f24, oI_g24, oI_f25, oI_g25, ur_r, ur_o, ur_s, up_r, up_o, up_s, jI_add, jI_sub, jI_mul, jI_neg, jI_i, jI_n, lgc_j, cj_lt, cj_ge, cj_gt, cj_le, cj_eq, oL_r, oL_w, oL_f6, oL_g6, oL_f7, oL_g7, oL_f17, oL_g17, oL_f18, oL_g18, dl_T, dl_F, de_T, de_F, dle_T, dle_F, iI_divn, rem_n, nd_v, ct_s, Bool.false_eq_true]
    · rw [if_neg e]
      rw [if_neg e, if_neg e] at mu
      simp only [wb]
      refine Eq.trans ?_ ((s114_22 ..).trans (sp_w (d := d) (L := L) (z := z) (w := w) (o := o) h hs hp hx q hq (by omega) r (k + 1) (by omega)))
      simp (disch := first | omega | exact hJ _ _ | exact rJ_g hJ _ _ | (simp (disch := omega) only [ur_r, ur_o, up_r, up_o]; omega) | assumption) only [s114_2, s114_3, s114_3v, s114_4, b114_7, s114_10, s114_10v, s114_11, s114_11v, s114_12, s114_13, s114_16, s114_19, h.t193, hT, kl, kc, mu, kl_i, kl_r, kl_l, kl_n, kl_z, bd_s, tl_s, tl_n, ap_c, ap_n, v_s, v_n, nd_1, nd_0, ct13, eq_self, iI_add, iI_sub, iI_mul, iI_nat, iI_eq, iI_lt, iI_le, iI_eq0, iI_lt0, ↓reduceIte, if_true, if_false, not_true_eq_false, not_false_eq_true, true_and, and_true, false_and, and_false, true_or, or_true, false_or, or_false, Int.reduceLT, Int.reduceLE, Int.reduceEq, Int.reduceAdd, Int.reduceSub, Int.reduceMul, Nat.reduceAdd, Nat.reduceLT, Nat.reduceEqDiff, Int.reduceNeg, nc_s, nc_0, Int.zero_add, Int.add_zero, oI_r, oI_w, oI_f0, oI_g0, oI_f1, oI_g1, oI_f2, oI_g2, oI_f3, oI_g3, oI_f4, oI_g4, oI_f5, oI_g5, oI_f6, oI_g6, oI_f7, oI_g7, oI_f8, oI_g8, oI_f9, oI_g9, oI_f10, oI_g10, oI_f11, oI_g11, oI_f12, oI_g12, oI_f13, oI_g13, oI_f14, oI_g14, oI_f15, oI_g15, oI_f16, oI_g16, oI_f17, oI_g17, oI_f18, oI_g18, oI_f19, oI_g19, oI_f20, oI_g20, oI_f21, oI_g21, oI_f22, oI_g22, oI_f23, oI_g23, oI_f24, oI_g24, oI_f25, oI_g25, ur_r, ur_o, ur_s, up_r, up_o, up_s, jI_add, jI_sub, jI_mul, jI_neg, jI_i, jI_n, lgc_j, cj_lt, cj_ge, cj_gt, cj_le, cj_eq, oL_r, oL_w, oL_f6, oL_g6, oL_f7, oL_g7, oL_f17, oL_g17, oL_f18, oL_g18, dl_T, dl_F, de_T, de_F, dle_T, dle_F, iI_divn, rem_n, nd_v, ct_s, Bool.false_eq_true]
theorem n_spells (h : rM T R) (hs : sK T J) (hp : pH J a n) (hx : tX S t n) (q : Nat) (hq : q < 15) (hi : 0 ≤ i ∧ i < 900) : rn_c (d + 5) 114 [.ref 193, .ref (10 + q)] (T, oI (pM J i 0 o S), L, R, z, w) = some (none, (T, oI (pM J (wdP t n q i).1 (wb (wdP t n q i)) o S), L, R, z, w)) := by
  have l6 := (sl_r q hq).1
  refine Eq.trans ?_ (sp_loop (d := d) (L := L) (z := z) (w := w) (o := o) h hs hp hx q hq (sl q).length 0 i (by omega) (by omega))
  simp (disch := first | omega | exact hJ _ _ | exact rJ_g hJ _ _ | (simp (disch := omega) only [ur_r, ur_o, up_r, up_o]; omega) | assumption) only [c114, s114_0, s114_1, kl_i, kl_r, kl_l, kl_n, kl_z, bd_s, tl_s, tl_n, ap_c, ap_n, v_s, v_n, nd_1, nd_0, ct13, eq_self, iI_add, iI_sub, iI_mul, iI_nat, iI_eq, iI_lt, iI_le, iI_eq0, iI_lt0, ↓reduceIte, if_true, if_false, not_true_eq_false, not_false_eq_true, true_and, and_true, false_and, and_false, true_or, or_true, false_or, or_false, Int.reduceLT, Int.reduceLE, Int.reduceEq, Int.reduceAdd, Int.reduceSub, Int.reduceMul, Nat.reduceAdd, Nat.reduceLT, Nat.reduceEqDiff, Int.reduceNeg, nc_s, nc_0, Int.zero_add, Int.add_zero, oI_r, oI_w, oI_f0, oI_g0, oI_f1, oI_g1, oI_f2, oI_g2, oI_f3, oI_g3, oI_f4, oI_g4, oI_f5, oI_g5, oI_f6, oI_g6, oI_f7, oI_g7, oI_f8, oI_g8, oI_f9, oI_g9, oI_f10, oI_g10, oI_f11, oI_g11, oI_f12, oI_g12, oI_f13, oI_g13, oI_f14, oI_g14, oI_f15, oI_g15, oI_f16, oI_g16, oI_f17, oI_g17, oI_f18, oI_g18, oI_f19, oI_g19, oI_f20, oI_g20, oI_f21, oI_g21, oI_f22, oI_g22, oI_f23, oI_g23, oI_f24, oI_g24, oI_f25, oI_g25, ur_r, ur_o, ur_s, up_r, up_o, up_s, jI_add, jI_sub, jI_mul, jI_neg, jI_i, jI_n, lgc_j, cj_lt, cj_ge, cj_gt, cj_le, cj_eq, oL_r, oL_w, oL_f6, oL_g6, oL_f7, oL_g7, oL_f17, oL_g17, oL_f18, oL_g18, dl_T, dl_F, de_T, de_F, dle_T, dle_F, iI_divn, rem_n, nd_v, ct_s, Bool.false_eq_true]
theorem spN_g {c : Int → Int} : ∀ (r : Nat) (k i : Int), (∀ j, ¬ c j = -1) → 0 ≤ i → i ≤ n → i ≤ (spN t n c r k i).1 ∧ (spN t n c r k i).1 ≤ n ∧ ((spN t n c r k i).2 = true → (spN t n c r k i).1 = i + r) := by
  intro r
  induction r with
  | zero => intro k i _ h0 hi; exact ⟨Int.le_refl _, hi, fun _ => by show i = i + 0; omega⟩
  | succ r ih =>
    intro k i hc h0 hi
    simp only [spN]
    split
    · rename_i e
      have := atP_n e (hc k)
      obtain ⟨q1, q2, q3⟩ := ih (k + 1) (i + 1) hc (by omega) (by omega)
      exact ⟨by omega, q2, fun q => by rw [q3 q]; omega⟩
    · exact ⟨Int.le_refl _, hi, fun q => by cases q⟩
theorem slc_n (q : Nat) : ∀ j, ¬ slc q j = -1 := by
  intro j hj
  unfold slc at hj
  by_cases hq : q < 15
  · by_cases hk : j.toNat < (sl q).length
    · have := (sl_r q hq).2 j.toNat hk
      unfold slc at this
      rw [Int.toNat_natCast] at this
      omega
    · have e : (sl q)[j.toNat]? = none := List.getElem?_eq_none (by omega)
      unfold List.getD at hj
      rw [e] at hj
      exact absurd hj (by decide)
  · have e : sl q = [] := by
      unfold sl List.getD
      rw [List.getElem?_eq_none (by simp only [List.length_cons, List.length_nil]; omega)]
      rfl
    rw [e] at hj
    exact absurd hj (by simp)
theorem wdP_g (q : Nat) (h0 : 0 ≤ i) (hi : i ≤ n) : i ≤ (wdP t n q i).1 ∧ (wdP t n q i).1 ≤ n ∧ ((wdP t n q i).2 = true → (wdP t n q i).1 = i + (sl q).length) := spN_g _ 0 i (slc_n q) h0 hi
/-- a clause: its place, and what it is: kind, number, tokens -/
abbrev CR : Type := Int × Option (Int × Int × List Int)
def moP (t : Int → Int) (n : Int) (q : Nat) (kd i : Int) : CR :=
  if (wdP t n q i).2 = true then (if (nuP t n (wdP t n q i).1).2 = -1 then ((wdP t n q i).1, none) else if atP t n (nuP t n (wdP t n q i).1).1 = 32 then ((soP t n (faP t n 5) ((nuP t n (wdP t n q i).1).1 + 1)).1, (soP t n (faP t n 5) ((nuP t n (wdP t n q i).1).1 + 1)).2.map (fun ts => (kd, (nuP t n (wdP t n q i).1).2, ts))) else ((nuP t n (wdP t n q i).1).1, none)) else ((wdP t n q i).1, none)
def tlP (t : Int → Int) (n : Int) (q : Nat) (kd i : Int) : CR :=
  if (wdP t n q i).2 = true then (if (nuP t n (wdP t n q i).1).2 = -1 then ((wdP t n q i).1, none) else ((nuP t n (wdP t n q i).1).1, some (kd, (nuP t n (wdP t n q i).1).2, []))) else ((wdP t n q i).1, none)
def caP (t : Int → Int) (n i : Int) : CR :=
  if (wdP t n 12 i).2 = true then (if atP t n (wdP t n 12 i).1 = 114 then tlP t n 13 2 (wdP t n 12 i).1 else tlP t n 14 4 (wdP t n 12 i).1) else ((wdP t n 12 i).1, none)
def clP (t : Int → Int) (n i : Int) : CR :=
  if atP t n i = 99 then caP t n i else if atP t n i = 108 then moP t n 10 3 i else if atP t n i = 114 then moP t n 7 0 i else if atP t n i = 119 then tlP t n 11 1 i else (i, none)
def cw (r : CR) : Int := match r.2 with
  | none => 1
  | some _ => 0
theorem cw_n {j : Int} : cw (j, none) = 1 := rfl
theorem cw_s {j : Int} {c : Int × Int × List Int} : cw (j, some c) = 0 := rfl
/-- what a clause leaves -/
def clS (a : Int) (S : Int → Int) (c : Int × Int × List Int) : Int → Int :=
  if c.1 = 0 then laT a S (c.2.2 ++ [-10 - c.2.1]) else if c.1 = 3 then laT a S (c.2.2 ++ [-200 - c.2.1]) else if c.1 = 1 then up S (220 + a) c.2.1 else if c.1 = 2 then up S (225 + a) c.2.1 else up S (230 + a) c.2.1
def eqC (a : Int) (S S' : Int → Int) : Prop := ∀ j, ¬ j = 220 + a → ¬ j = 225 + a → ¬ j = 230 + a → ¬ j = 235 + a → (j < 240 + 140 * a ∨ 380 + 140 * a ≤ j) → S' j = S j
theorem eqC.ii : eqC a S S := fun _ _ _ _ _ _ => rfl
theorem eqC.tr {S S' S'' : Int → Int} (h : eqC a S S') (g : eqC a S' S'') : eqC a S S'' := fun j h1 h2 h3 h4 h5 => (g j h1 h2 h3 h4 h5).trans (h j h1 h2 h3 h4 h5)
theorem eqO.cc {S S' : Int → Int} (h : eqO a S S') : eqC a S S' := fun j _ _ _ h4 h5 => h j h4 h5
theorem eqC.tx {S S' : Int → Int} (h : eqC a S S') (ha : 0 ≤ a ∧ a ≤ 4) (hn : 0 ≤ n ∧ n ≤ 120) (hx : tX S t n) : tX S' t n := fun j h0 h1 => ⟨(h (30 + j) (by omega) (by omega) (by omega) (by omega) (by omega)).trans (hx j h0 h1).1, (hx j h0 h1).2⟩
def resC (a : Int) (S : Int → Int) (r : CR) (S' : Int → Int) : Prop := (∀ c, r.2 = some c → S' = clS a S c) ∧ eqC a S S'
end PC
