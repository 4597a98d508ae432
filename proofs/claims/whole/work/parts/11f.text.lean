/-! the class: a town is read; the whole text -/
section TF
variable {d : Nat} {T : Nat → Nat × Nat} {L : Nat → Nat → Int64} {R : Nat → Nat → Option Nat} {z w : Nat} {J : mR} {t : Nat} {n i k : Int} {x V : Int → Int} {cs : List CL}
def rfV (n : Int) (r : TR) : Int := if tw r = 0 then (if r.1 = n then -1 else r.1) else r.1
theorem rfV_n {n e : Int} {g : Int → TR} : rfV n (tnC (e, none) g) = e := rfl
theorem rfV_1 {n e : Int} {cs : List CL} (h : e = n) : rfV n (e, some cs) = -1 := (if_pos rfl : rfV n (e, some cs) = if e = n then -1 else e).trans (if_pos h)
theorem rfV_0 {n e : Int} {cs : List CL} (h : ¬ e = n) : rfV n (e, some cs) = e := (if_pos rfl : rfV n (e, some cs) = if e = n then -1 else e).trans (if_neg h)
theorem tkR_p (h : tkR J t cs) : tkR (pC J t i (J t 9) (J (t + 5))) t cs := by
  obtain ⟨g1, g2, g3, g4, g5, g6, g7, g8⟩ := h
  obtain ⟨K, hK⟩ : ∃ K, K = pC J t i (J t 9) (J (t + 5)) := ⟨_, rfl⟩
  rw [← hK]
  have k0 : ∀ j, ¬ j = 13 → K t j = J t j := by
    intro j hj
    have : K t = up (up (J t) 9 (J t 9)) 13 i := by rw [hK]; simp (disch := omega) only [pC, ur_o, ur_r]
    rw [this, up_o hj, up_e]
  have ko : ∀ b, ¬ b = t → K b = J b := by
    intro b hb
    by_cases e : b = t + 5
    · rw [e, hK]; simp (disch := omega) only [pC, ur_r]
    · rw [hK]; simp (disch := omega) only [pC, ur_o]
  refine ⟨g1, fun h s a1 a2 a3 a4 => by rw [ko _ (by omega)]; exact g2 h s a1 a2 a3 a4, ?_, by rw [k0 7 (by omega)]; exact g4, fun j j0 j5 => by rw [ko _ (by omega)]; exact g5 j j0 j5, by rw [k0 0 (by omega)]; exact g6, by rw [k0 1 (by omega)]; exact g7, by rw [k0 2 (by omega)]; exact g8⟩
  have key : ∀ (cs : List CL) (p k : Int), loR J t cs p k → loR K t cs p k := by
    intro cs
    induction cs with
    | nil => intro p k h; exact ⟨by rw [k0 7 (by omega)]; exact h.1, by rw [k0 9 (by omega)]; exact h.2⟩
    | cons c cs ih =>
      intro p k h
      unfold loR at h ⊢
      split
      · rename_i q; rw [if_pos q] at h; exact ⟨by rw [ko _ (by omega)]; exact h.1, ih _ _ h.2⟩
      rename_i q; rw [if_neg q] at h
      split
      · rename_i q2; rw [if_pos q2] at h; exact ⟨by rw [ko _ (by omega)]; exact h.1, by rw [ko _ (by omega)]; exact h.2.1, by rw [ko _ (by omega)]; exact h.2.2.1, by rw [ko _ (by omega)]; exact h.2.2.2.1, ih _ _ h.2.2.2.2⟩
      · rename_i q2; rw [if_neg q2] at h; exact ih _ _ h
  exact key cs 0 0 g3
theorem tnR_e (h : ¬ atP x n i = 59) : ∀ m, tnR x n m i = (i, some []) := by
  intro m
  cases m with
  | zero => rfl
  | succ m => simp only [tnR, if_neg h]
theorem rf_loop : ∀ (m : Nat) (J : mR) (cs : List CL) (j : Int), m ≤ 9 → txK T R J t x n → sK T J → tkR J t cs → cs.length + m = 9 → J t 13 = j → 0 ≤ j → j ≤ n → J t 9 ≤ j → ∃ J' : mR, rn_r (d + 25) 27 12 [some (.ref t), some (.ref 115), some (.int (iI n)), some (.int (iI (9 - (m : Int))))] [] (T, oI J, L, R, z, w) = some (some (.int (iI (rfV n (tnC (clP x n j) (tnR x n m))))), (T, oI J', L, R, z, w)) ∧ fT t J J' ∧ ∀ cs', (tnC (clP x n j) (tnR x n m)).2 = some cs' → (tnC (clP x n j) (tnR x n m)).1 = n → tkR J' t (cs ++ cs') ∧ J' t 9 ≤ n := by
  intro m
  induction m with
  | zero =>
    intro J cs j hm h hs hk hc h13 h0 hj h9
    have hn := h.2.2.2.1
    have t0 := h.t0
    obtain ⟨J1, run1, f1, p1, k1⟩ := t_clause (d := d) (L := L) (z := z) (w := w) h hs hk (by omega) h13 ⟨h0, hj⟩ h9
    obtain ⟨g1, g2⟩ := clP_g (t := x) (i := j) (n := n) h0 hj
    have s12 : J1 t 12 = n := f1.2.trans h.2.2.2.2.2.1
    generalize clP x n j = r at *
    obtain ⟨e, oc⟩ := r
    cases oc with
    | none =>
      refine ⟨J1, ?_, f1, fun cs' q => by cases q⟩
      simp only [cw_n] at run1 p1
      rw [rfV_n]
      simp (disch := first | omega | exact hJ _ _ | exact rJ_g hJ _ _ | (simp (disch := omega) only [ur_r, ur_o, up_r, up_o]; omega) | assumption) only [s27_12, s27_13, b27_15, s27_18, s27_18v, s27_19, b27_22, s27_25, s27_25v, s27_26, s27_29, t0, run1, p1, Int.sub_zero, kl_i, kl_r, kl_l, kl_n, kl_z, bd_s, tl_s, tl_n, ap_c, ap_n, v_s, v_n, nd_1, nd_0, ct13, eq_self, iI_add, iI_sub, iI_mul, iI_nat, iI_eq, iI_lt, iI_le, iI_eq0, iI_lt0, ↓reduceIte, if_true, if_false, not_true_eq_false, not_false_eq_true, true_and, and_true, false_and, and_false, true_or, or_true, false_or, or_false, Int.reduceLT, Int.reduceLE, Int.reduceEq, Int.reduceAdd, Int.reduceSub, Int.reduceMul, Nat.reduceAdd, Nat.reduceLT, Nat.reduceEqDiff, Int.reduceNeg, nc_s, nc_0, Int.zero_add, Int.add_zero, oI_r, oI_w, oI_f0, oI_g0, oI_f1, oI_g1, oI_f2, oI_g2, oI_f3, oI_g3, oI_f4, oI_g4, oI_f5, oI_g5, oI_f6, oI_g6, oI_f7, oI_g7, oI_f8, oI_g8, oI_f9, oI_g9, oI_f10, oI_g10, oI_f11, oI_g11, oI_f12, oI_g12, oI_f13, oI_g13, oI_f14, oI_g14, oI_f15, oI_g15, oI_f16, oI_g16, oI_f17, oI_g17, oI_f18, oI_g18, oI_f19, oI_g19, oI_f20, oI_g20, oI_f21, oI_g21, oI_f22, oI_g22, oI_f23, oI_g23, oI_f24, oI_g24, oI_f25, oI_g25, ur_r, ur_o, ur_s, up_r, up_o, up_s, jI_add, jI_sub, jI_mul, jI_neg, jI_i, jI_n, lgc_j, cj_lt, cj_ge, cj_gt, cj_le, cj_eq, oL_r, oL_w, oL_f6, oL_g6, oL_f7, oL_g7, oL_f17, oL_g17, oL_f18, oL_g18, dl_T, dl_F, de_T, de_F, dle_T, dle_F, iI_divn, rem_n, nd_v, ct_s, Bool.false_eq_true]
    | some c =>
      simp only [cw_s] at run1 p1 g1 g2
      have q1 : tnC (e, some c) (tnR x n 0) = (e, some [c]) := tnC_s rfl
      rw [q1]
      by_cases c1 : e = n
      · refine ⟨J1, ?_, f1, fun cs' q _ => ?_⟩
        · have : rfV n (e, some [c]) = -1 := rfV_1 c1
          rw [this]
          simp (disch := first | omega | exact hJ _ _ | exact rJ_g hJ _ _ | (simp (disch := omega) only [ur_r, ur_o, up_r, up_o]; omega) | assumption) only [s27_12, s27_13, b27_15, s27_18, s27_18v, s27_19, b27_22, s27_25, s27_25v, s27_26, s27_29, s27_30, s27_30v, s27_31, s27_34, s27_34v, s27_35, b27_38, s27_41, s27_42, t0, run1, p1, s12, Int.sub_zero, kl_i, kl_r, kl_l, kl_n, kl_z, bd_s, tl_s, tl_n, ap_c, ap_n, v_s, v_n, nd_1, nd_0, ct13, eq_self, iI_add, iI_sub, iI_mul, iI_nat, iI_eq, iI_lt, iI_le, iI_eq0, iI_lt0, ↓reduceIte, if_true, if_false, not_true_eq_false, not_false_eq_true, true_and, and_true, false_and, and_false, true_or, or_true, false_or, or_false, Int.reduceLT, Int.reduceLE, Int.reduceEq, Int.reduceAdd, Int.reduceSub, Int.reduceMul, Nat.reduceAdd, Nat.reduceLT, Nat.reduceEqDiff, Int.reduceNeg, nc_s, nc_0, Int.zero_add, Int.add_zero, oI_r, oI_w, oI_f0, oI_g0, oI_f1, oI_g1, oI_f2, oI_g2, oI_f3, oI_g3, oI_f4, oI_g4, oI_f5, oI_g5, oI_f6, oI_g6, oI_f7, oI_g7, oI_f8, oI_g8, oI_f9, oI_g9, oI_f10, oI_g10, oI_f11, oI_g11, oI_f12, oI_g12, oI_f13, oI_g13, oI_f14, oI_g14, oI_f15, oI_g15, oI_f16, oI_g16, oI_f17, oI_g17, oI_f18, oI_g18, oI_f19, oI_g19, oI_f20, oI_g20, oI_f21, oI_g21, oI_f22, oI_g22, oI_f23, oI_g23, oI_f24, oI_g24, oI_f25, oI_g25, ur_r, ur_o, ur_s, up_r, up_o, up_s, jI_add, jI_sub, jI_mul, jI_neg, jI_i, jI_n, lgc_j, cj_lt, cj_ge, cj_gt, cj_le, cj_eq, oL_r, oL_w, oL_f6, oL_g6, oL_f7, oL_g7, oL_f17, oL_g17, oL_f18, oL_g18, dl_T, dl_F, de_T, de_F, dle_T, dle_F, iI_divn, rem_n, nd_v, ct_s, Bool.false_eq_true]
        · cases q
          have := k1 c rfl
          exact ⟨this.1, by have := this.2; simp only [] at this; omega⟩
      · refine ⟨J1, ?_, f1, fun cs' q e2 => absurd e2 c1⟩
        have : rfV n (e, some [c]) = e := rfV_0 c1
        rw [this]
        simp (disch := first | omega | exact hJ _ _ | exact rJ_g hJ _ _ | (simp (disch := omega) only [ur_r, ur_o, up_r, up_o]; omega) | assumption) only [c27, s27_0, s27_0v, s27_1, s27_1v, s27_2, s27_2n, s27_5, s27_5v, s27_6, s27_7, s27_10, s27_11, s27_12, s27_13, b27_15, s27_18, s27_18v, s27_19, b27_22, s27_25, s27_25v, s27_26, s27_29, s27_30, s27_30v, s27_31, s27_34, s27_34v, s27_35, b27_38, s27_41, s27_42, s27_43, s27_44, s27_45, s27_46, b27_48, s27_51, s27_51v, s27_52, s27_54, b27_57, s27_60, s27_60v, s27_61, s27_64, s27_65, s27_68, s27_71, s27_71v, s27_72, s27_75, t0, run1, p1, s12, Int.sub_zero, kl_i, kl_r, kl_l, kl_n, kl_z, bd_s, tl_s, tl_n, ap_c, ap_n, v_s, v_n, nd_1, nd_0, ct13, eq_self, iI_add, iI_sub, iI_mul, iI_nat, iI_eq, iI_lt, iI_le, iI_eq0, iI_lt0, ↓reduceIte, if_true, if_false, not_true_eq_false, not_false_eq_true, true_and, and_true, false_and, and_false, true_or, or_true, false_or, or_false, Int.reduceLT, Int.reduceLE, Int.reduceEq, Int.reduceAdd, Int.reduceSub, Int.reduceMul, Nat.reduceAdd, Nat.reduceLT, Nat.reduceEqDiff, Int.reduceNeg, nc_s, nc_0, Int.zero_add, Int.add_zero, oI_r, oI_w, oI_f0, oI_g0, oI_f1, oI_g1, oI_f2, oI_g2, oI_f3, oI_g3, oI_f4, oI_g4, oI_f5, oI_g5, oI_f6, oI_g6, oI_f7, oI_g7, oI_f8, oI_g8, oI_f9, oI_g9, oI_f10, oI_g10, oI_f11, oI_g11, oI_f12, oI_g12, oI_f13, oI_g13, oI_f14, oI_g14, oI_f15, oI_g15, oI_f16, oI_g16, oI_f17, oI_g17, oI_f18, oI_g18, oI_f19, oI_g19, oI_f20, oI_g20, oI_f21, oI_g21, oI_f22, oI_g22, oI_f23, oI_g23, oI_f24, oI_g24, oI_f25, oI_g25, ur_r, ur_o, ur_s, up_r, up_o, up_s, jI_add, jI_sub, jI_mul, jI_neg, jI_i, jI_n, lgc_j, cj_lt, cj_ge, cj_gt, cj_le, cj_eq, oL_r, oL_w, oL_f6, oL_g6, oL_f7, oL_g7, oL_f17, oL_g17, oL_f18, oL_g18, dl_T, dl_F, de_T, de_F, dle_T, dle_F, iI_divn, rem_n, nd_v, ct_s, Bool.false_eq_true]
  | succ m ih =>
    intro J cs j hm h hs hk hc h13 h0 hj h9
    have hn := h.2.2.2.1
    have t0 := h.t0
    have ht := h.2.2.2.2.2.2
    obtain ⟨J1, run1, f1, p1, k1⟩ := t_clause (d := d) (L := L) (z := z) (w := w) h hs hk (by omega) h13 ⟨h0, hj⟩ h9
    obtain ⟨g1, g2⟩ := clP_g (t := x) (i := j) (n := n) h0 hj
    have s12 : J1 t 12 = n := f1.2.trans h.2.2.2.2.2.1
    have h1 : txK T R J1 t x n := h.fx (f1.1 115 (by omega)) f1.2
    generalize clP x n j = r at *
    obtain ⟨e, oc⟩ := r
    cases oc with
    | none =>
      refine ⟨J1, ?_, f1, fun cs' q => by cases q⟩
      simp only [cw_n] at run1 p1
      rw [rfV_n]
      simp (disch := first | omega | exact hJ _ _ | exact rJ_g hJ _ _ | (simp (disch := omega) only [ur_r, ur_o, up_r, up_o]; omega) | assumption) only [s27_12, s27_13, b27_15, s27_18, s27_18v, s27_19, b27_22, s27_25, s27_25v, s27_26, s27_29, t0, run1, p1, kl_i, kl_r, kl_l, kl_n, kl_z, bd_s, tl_s, tl_n, ap_c, ap_n, v_s, v_n, nd_1, nd_0, ct13, eq_self, iI_add, iI_sub, iI_mul, iI_nat, iI_eq, iI_lt, iI_le, iI_eq0, iI_lt0, ↓reduceIte, if_true, if_false, not_true_eq_false, not_false_eq_true, true_and, and_true, false_and, and_false, true_or, or_true, false_or, or_false, Int.reduceLT, Int.reduceLE, Int.reduceEq, Int.reduceAdd, Int.reduceSub, Int.reduceMul, Nat.reduceAdd, Nat.reduceLT, Nat.reduceEqDiff, Int.reduceNeg, nc_s, nc_0, Int.zero_add, Int.add_zero, oI_r, oI_w, oI_f0, oI_g0, oI_f1, oI_g1, oI_f2, oI_g2, oI_f3, oI_g3, oI_f4, oI_g4, oI_f5, oI_g5, oI_f6, oI_g6, oI_f7, oI_g7, oI_f8, oI_g8, oI_f9, oI_g9, oI_f10, oI_g10, oI_f11, oI_g11, oI_f12, oI_g12, oI_f13, oI_g13, oI_f14, oI_g14, oI_f15, oI_g15, oI_f16, oI_g16, oI_f17, oI_g17, oI_f18, oI_g18, oI_f19, oI_g19, oI_f20, oI_g20, oI_f21, oI_g21, oI_f22, oI_g22, oI_f23, oI_g23, oI_f24, oI_g24, oI_f25, oI_g25, ur_r, ur_o, ur_s, up_r, up_o, up_s, jI_add, jI_sub, jI_mul, jI_neg, jI_i, jI_n, lgc_j, cj_lt, cj_ge, cj_gt, cj_le, cj_eq, oL_r, oL_w, oL_f6, oL_g6, oL_f7, oL_g7, oL_f17, oL_g17, oL_f18, oL_g18, dl_T, dl_F, de_T, de_F, dle_T, dle_F, iI_divn, rem_n, nd_v, ct_s, Bool.false_eq_true]
    | some c =>
      simp only [cw_s] at run1 p1 g1 g2
      by_cases c1 : e = n
      · have n59 : ¬ atP x n e = 59 := by unfold atP; rw [if_neg (by omega)]; decide
        have q1 : tnC (e, some c) (tnR x n (m + 1)) = (e, some [c]) := tnC_s (tnR_e n59 _)
        rw [q1]
        refine ⟨J1, ?_, f1, fun cs' q _ => ?_⟩
        · have : rfV n (e, some [c]) = -1 := rfV_1 c1
          rw [this]
          simp (disch := first | omega | exact hJ _ _ | exact rJ_g hJ _ _ | (simp (disch := omega) only [ur_r, ur_o, up_r, up_o]; omega) | assumption) only [s27_12, s27_13, b27_15, s27_18, s27_18v, s27_19, b27_22, s27_25, s27_25v, s27_26, s27_29, s27_30, s27_30v, s27_31, s27_34, s27_34v, s27_35, b27_38, s27_41, s27_42, t0, run1, p1, s12, kl_i, kl_r, kl_l, kl_n, kl_z, bd_s, tl_s, tl_n, ap_c, ap_n, v_s, v_n, nd_1, nd_0, ct13, eq_self, iI_add, iI_sub, iI_mul, iI_nat, iI_eq, iI_lt, iI_le, iI_eq0, iI_lt0, ↓reduceIte, if_true, if_false, not_true_eq_false, not_false_eq_true, true_and, and_true, false_and, and_false, true_or, or_true, false_or, or_false, Int.reduceLT, Int.reduceLE, Int.reduceEq, Int.reduceAdd, Int.reduceSub, Int.reduceMul, Nat.reduceAdd, Nat.reduceLT, Nat.reduceEqDiff, Int.reduceNeg, nc_s, nc_0, Int.zero_add, Int.add_zero, oI_r, oI_w, oI_f0, oI_g0, oI_f1, oI_g1, oI_f2, oI_g2, oI_f3, oI_g3, oI_f4, oI_g4, oI_f5, oI_g5, oI_f6, oI_g6, oI_f7, oI_g7, oI_f8, oI_g8, oI_f9, oI_g9, oI_f10, oI_g10, oI_f11, oI_g11, oI_f12, oI_g12, oI_f13, oI_g13, oI_f14, oI_g14, oI_f15, oI_g15, oI_f16, oI_g16, oI_f17, oI_g17, oI_f18, oI_g18, oI_f19, oI_g19, oI_f20, oI_g20, oI_f21, oI_g21, oI_f22, oI_g22, oI_f23, oI_g23, oI_f24, oI_g24, oI_f25, oI_g25, ur_r, ur_o, ur_s, up_r, up_o, up_s, jI_add, jI_sub, jI_mul, jI_neg, jI_i, jI_n, lgc_j, cj_lt, cj_ge, cj_gt, cj_le, cj_eq, oL_r, oL_w, oL_f6, oL_g6, oL_f7, oL_g7, oL_f17, oL_g17, oL_f18, oL_g18, dl_T, dl_F, de_T, de_F, dle_T, dle_F, iI_divn, rem_n, nd_v, ct_s, Bool.false_eq_true]
        · cases q
          have := k1 c rfl
          exact ⟨this.1, by have := this.2; simp only [] at this; omega⟩
      · have sk := t_skip (d := d + 23) (L := L) (z := z) (w := w) (k := J1 t 9) (V := J1 (t + 5)) h1 59 (by omega) (i := e) (by omega)
        rw [pC_e p1] at sk
        have k2 := k1 c rfl
        simp only [] at k2
        by_cases c2 : atP x n e = 59
        · rw [if_pos c2, if_pos c2] at sk
          have q1 : tnR x n (m + 1) e = tnC (clP x n (e + 1)) (tnR x n m) := by simp only [tnR, if_pos c2]
          have p13 : pC J1 t (e + 1) (J1 t 9) (J1 (t + 5)) t 13 = e + 1 := by
            show ur (ur J1 t _) (t + 5) _ t 13 = _
            simp (disch := omega) only [ur_o, ur_r, up_r]
          have p9 : pC J1 t (e + 1) (J1 t 9) (J1 (t + 5)) t 9 = J1 t 9 := by
            show ur (ur J1 t _) (t + 5) _ t 9 = _
            simp (disch := omega) only [ur_o, ur_r, up_r, up_o]
          have f2 : fT t J (pC J1 t (e + 1) (J1 t 9) (J1 (t + 5))) := f1.tr fT_p
          obtain ⟨J2, run2, f3, k3⟩ := ih (pC J1 t (e + 1) (J1 t 9) (J1 (t + 5))) (cs ++ [c]) (e + 1) (by omega) (h1.p) (sK_x hs (fun b hb => f2.1 b (by omega))) (tkR_p k2.1) (by rw [List.length_append]; simp only [List.length_cons, List.length_nil]; omega) p13 (by omega) (by have := atP_n c2 (by decide); omega) (by rw [p9]; omega)
          have e9 : 9 - ((m : Int) + 1) + 1 = 9 - m := by omega
          have hstep : rn_r (d + 25) 27 12 [some (.ref t), some (.ref 115), some (.int (iI n)), some (.int (iI (9 - ((m + 1 : Nat) : Int))))] [] (T, oI J, L, R, z, w) = rn_r (d + 25) 27 12 [some (.ref t), some (.ref 115), some (.int (iI n)), some (.int (iI (9 - (m : Int))))] [] (T, oI (pC J1 t (e + 1) (J1 t 9) (J1 (t + 5))), L, R, z, w) := by
            refine Eq.trans ?_ (s27_68 ..)
            simp (disch := first | omega | exact hJ _ _ | exact rJ_g hJ _ _ | (simp (disch := omega) only [ur_r, ur_o, up_r, up_o]; omega) | assumption) only [s27_12, s27_13, b27_15, s27_18, s27_18v, s27_19, b27_22, s27_25, s27_25v, s27_26, s27_29, s27_30, s27_30v, s27_31, s27_34, s27_34v, s27_35, b27_38, s27_41, s27_42, s27_43, s27_44, s27_45, s27_46, b27_48, s27_51, s27_51v, s27_52, s27_54, b27_57, s27_60, s27_60v, s27_61, s27_64, s27_65, t0, run1, p1, s12, sk, e9, kl_i, kl_r, kl_l, kl_n, kl_z, bd_s, tl_s, tl_n, ap_c, ap_n, v_s, v_n, nd_1, nd_0, ct13, eq_self, iI_add, iI_sub, iI_mul, iI_nat, iI_eq, iI_lt, iI_le, iI_eq0, iI_lt0, ↓reduceIte, if_true, if_false, not_true_eq_false, not_false_eq_true, true_and, and_true, false_and, and_false, true_or, or_true, false_or, or_false, Int.reduceLT, Int.reduceLE, Int.reduceEq, Int.reduceAdd, Int.reduceSub, Int.reduceMul, Nat.reduceAdd, Nat.reduceLT, Nat.reduceEqDiff, Int.reduceNeg, nc_s, nc_0, Int.zero_add, Int.add_zero, oI_r, oI_w, oI_f0, oI_g0, oI_f1, oI_g1, oI_f2, oI_g2, oI_f3, oI_g3, oI_f4, oI_g4, oI_f5, oI_g5, oI_f6, oI_g6, oI_f7, oI_g7, oI_f8, oI_g8, oI_f9, oI_g9, oI_f10, oI_g10, oI_f11, oI_g11, oI_f12, oI_g12, oI_f13, oI_g13, oI_f14, oI_g14, oI_f15, oI_g15, oI_f16, oI_g16, oI_f17, oI_g17, oI_f18, oI_g18, oI_f19, oI_g19, oI_f20, oI_g20, oI_f21, oI_g21, oI_f22, oI_g22, oI_f23, oI_g23, oI_f24, oI_g24, oI_f25, oI_g25, ur_r, ur_o, ur_s, up_r, up_o, up_s, jI_add, jI_sub, jI_mul, jI_neg, jI_i, jI_n, lgc_j, cj_lt, cj_ge, cj_gt, cj_le, cj_eq, oL_r, oL_w, oL_f6, oL_g6, oL_f7, oL_g7, oL_f17, oL_g17, oL_f18, oL_g18, dl_T, dl_F, de_T, de_F, dle_T, dle_F, iI_divn, rem_n, nd_v, ct_s, Bool.false_eq_true]
          rw [hstep]
          generalize hz : tnC (clP x n (e + 1)) (tnR x n m) = rr at *
          obtain ⟨p, ocs⟩ := rr
          cases ocs with
          | none =>
            rw [tnC_n q1]
            exact ⟨J2, run2, f2.tr f3, fun cs' q => by cases q⟩
          | some us =>
            rw [tnC_s q1]
            refine ⟨J2, run2, f2.tr f3, fun cs' q e2 => ?_⟩
            cases q
            have := k3 us rfl e2
            rw [List.append_assoc] at this
            exact this
        · rw [if_neg c2, if_neg c2] at sk
          have q1 : tnC (e, some c) (tnR x n (m + 1)) = (e, some [c]) := tnC_s (tnR_e c2 _)
          rw [q1]
          rw [pC_e p1] at sk
          refine ⟨J1, ?_, f1, fun cs' q e2 => absurd e2 c1⟩
          have : rfV n (e, some [c]) = e := rfV_0 c1
          rw [this]
          simp (disch := first | omega | exact hJ _ _ | exact rJ_g hJ _ _ | (simp (disch := omega) only [ur_r, ur_o, up_r, up_o]; omega) | assumption) only [s27_12, s27_13, b27_15, s27_18, s27_18v, s27_19, b27_22, s27_25, s27_25v, s27_26, s27_29, s27_30, s27_30v, s27_31, s27_34, s27_34v, s27_35, b27_38, s27_41, s27_42, s27_43, s27_44, s27_45, s27_46, b27_48, s27_51, s27_51v, s27_52, s27_54, b27_57, s27_60, s27_60v, s27_61, s27_64, t0, run1, p1, s12, sk, kl_i, kl_r, kl_l, kl_n, kl_z, bd_s, tl_s, tl_n, ap_c, ap_n, v_s, v_n, nd_1, nd_0, ct13, eq_self, iI_add, iI_sub, iI_mul, iI_nat, iI_eq, iI_lt, iI_le, iI_eq0, iI_lt0, ↓reduceIte, if_true, if_false, not_true_eq_false, not_false_eq_true, true_and, and_true, false_and, and_false, true_or, or_true, false_or, or_false, Int.reduceLT, Int.reduceLE, Int.reduceEq, Int.reduceAdd, Int.reduceSub, Int.reduceMul, Nat.reduceAdd, Nat.reduceLT, Nat.reduceEqDiff, Int.reduceNeg, nc_s, nc_0, Int.zero_add, Int.add_zero, oI_r, oI_w, oI_f0, oI_g0, oI_f1, oI_g1, oI_f2, oI_g2, oI_f3, oI_g3, oI_f4, oI_g4, oI_f5, oI_g5, oI_f6, oI_g6, oI_f7, oI_g7, oI_f8, oI_g8, oI_f9, oI_g9, oI_f10, oI_g10, oI_f11, oI_g11, oI_f12, oI_g12, oI_f13, oI_g13, oI_f14, oI_g14, oI_f15, oI_g15, oI_f16, oI_g16, oI_f17, oI_g17, oI_f18, oI_g18, oI_f19, oI_g19, oI_f20, oI_g20, oI_f21, oI_g21, oI_f22, oI_g22, oI_f23, oI_g23, oI_f24, oI_g24, oI_f25, oI_g25, ur_r, ur_o, ur_s, up_r, up_o, up_s, jI_add, jI_sub, jI_mul, jI_neg, jI_i, jI_n, lgc_j, cj_lt, cj_ge, cj_gt, cj_le, cj_eq, oL_r, oL_w, oL_f6, oL_g6, oL_f7, oL_g7, oL_f17, oL_g17, oL_f18, oL_g18, dl_T, dl_F, de_T, de_F, dle_T, dle_F, iI_divn, rem_n, nd_v, ct_s, Bool.false_eq_true]
theorem tc_11 (h : tc T R t) {o : Option Nat} : tc T (am_u R t 11 o) t := by
  have q : ∀ j, ¬ j = 11 → am_u R t 11 o t j = R t j := fun j hj => by unfold am_u; rw [if_neg (by omega)]
  unfold tc at h ⊢
  rw [q 3 (by decide), q 4 (by decide), q 5 (by decide), q 6 (by decide), q 8 (by decide), q 10 (by decide)]
  exact h
theorem t_readFrom (h : tc T R t) (ht : 205 ≤ t) (h115 : T 115 = (22, 120)) (hn : 0 ≤ n ∧ n ≤ 120) (hb : ∀ j, 0 ≤ j → j < n → iI (J 115 j) &&& iI 255 = iI (x j) ∧ 0 ≤ x j ∧ x j ≤ 255) (hs : sK T J) (hk : tkR J t []) (h13 : J t 13 = 0) (h9 : J t 9 = 0) : ∃ J' : mR, rn_c (d + 25) 27 [.ref t, .ref 115, .int (iI n)] (T, oI J, L, R, z, w) = some (some (.int (iI (rfV n (tnP x n)))), (T, oI J', L, am_u R t 11 (some 115), z, w)) ∧ (∀ b, ¬ (t ≤ b ∧ b ≤ t + 6) → J' b = J b) ∧ ∀ cs', (tnP x n).2 = some cs' → (tnP x n).1 = n → tkR J' t cs' ∧ J' t 9 ≤ n := by
  have t0 : T t = (8, 0) := h.1
  obtain ⟨K, hK⟩ : ∃ K, K = ur J t (up (J t) 12 n) := ⟨_, rfl⟩
  have ko : ∀ b, ¬ b = t → K b = J b := fun b hb => by rw [hK, ur_o hb]
  have kt : ∀ j, ¬ j = 12 → K t j = J t j := fun j hj => by rw [hK, ur_r, up_o hj]
  have k12 : K t 12 = n := by rw [hK, ur_r, up_r]
  have r11 : am_u R t 11 (some 115) t 11 = some 115 := by unfold am_u; rw [if_pos ⟨rfl, rfl⟩]
  have hx : txK T (am_u R t 11 (some 115)) K t x n := ⟨tc_11 h, r11, h115, hn, by rw [ko 115 (by omega)]; exact hb, k12, ht⟩
  obtain ⟨g1, g2, g3, g4, g5, g6, g7, g8⟩ := hk
  have hk' : tkR K t [] := ⟨g1, fun h s a1 a2 a3 a4 => by rw [ko _ (by omega)]; exact g2 h s a1 a2 a3 a4, ⟨by rw [kt 7 (by omega)]; exact g3.1, by rw [kt 9 (by omega)]; exact g3.2⟩, by rw [kt 7 (by omega)]; exact g4, fun j j0 j5 => by rw [ko _ (by omega)]; exact g5 j j0 j5, by rw [kt 0 (by omega)]; exact g6, by rw [kt 1 (by omega)]; exact g7, by rw [kt 2 (by omega)]; exact g8⟩
  obtain ⟨J', run1, f1, k1⟩ := rf_loop (d := d) (L := L) (R := am_u R t 11 (some 115)) (z := z) (w := w) 9 K [] 0 (by omega) hx (sK_x hs (fun b hb => ko b (by omega))) hk' rfl (by rw [kt 13 (by omega)]; exact h13) (by omega) (by omega) (by rw [kt 9 (by omega)]; omega)
  refine ⟨J', ?_, fun b hb => (f1.1 b hb).trans (ko b (by omega)), k1⟩
  refine Eq.trans ?_ run1
  have e9 : (9 : Int) - ((9 : Nat) : Int) = 0 := rfl
  rw [e9, hK]
  simp (disch := first | omega | exact hJ _ _ | exact rJ_g hJ _ _ | (simp (disch := omega) only [ur_r, ur_o, up_r, up_o]; omega) | assumption) only [c27, s27_0, s27_0v, s27_1, s27_1v, s27_2, s27_2n, s27_5, s27_5v, s27_6, s27_7, s27_10, s27_11, t0, h115, Nat.reduceLeDiff, kl_i, kl_r, kl_l, kl_n, kl_z, bd_s, tl_s, tl_n, ap_c, ap_n, v_s, v_n, nd_1, nd_0, ct13, eq_self, iI_add, iI_sub, iI_mul, iI_nat, iI_eq, iI_lt, iI_le, iI_eq0, iI_lt0, ↓reduceIte, if_true, if_false, not_true_eq_false, not_false_eq_true, true_and, and_true, false_and, and_false, true_or, or_true, false_or, or_false, Int.reduceLT, Int.reduceLE, Int.reduceEq, Int.reduceAdd, Int.reduceSub, Int.reduceMul, Nat.reduceAdd, Nat.reduceLT, Nat.reduceEqDiff, Int.reduceNeg, nc_s, nc_0, Int.zero_add, Int.add_zero, oI_r, oI_w, oI_f0, oI_g0, oI_f1, oI_g1, oI_f2, oI_g2, oI_f3, oI_g3, oI_f4, oI_g4, oI_f5, oI_g5, oI_f6, oI_g6, oI_f7, oI_g7, oI_f8, oI_g8, oI_f9, oI_g9, oI_f10, oI_g10, oI_f11, oI_g11, oI_f12, oI_g12, oI_f13, oI_g13, oI_f14, oI_g14, oI_f15, oI_g15, oI_f16, oI_g16, oI_f17, oI_g17, oI_f18, oI_g18, oI_f19, oI_g19, oI_f20, oI_g20, oI_f21, oI_g21, oI_f22, oI_g22, oI_f23, oI_g23, oI_f24, oI_g24, oI_f25, oI_g25, ur_r, ur_o, ur_s, up_r, up_o, up_s, jI_add, jI_sub, jI_mul, jI_neg, jI_i, jI_n, lgc_j, cj_lt, cj_ge, cj_gt, cj_le, cj_eq, oL_r, oL_w, oL_f6, oL_g6, oL_f7, oL_g7, oL_f17, oL_g17, oL_f18, oL_g18, dl_T, dl_F, de_T, de_F, dle_T, dle_F, iI_divn, rem_n, nd_v, ct_s, Bool.false_eq_true]
end TF
