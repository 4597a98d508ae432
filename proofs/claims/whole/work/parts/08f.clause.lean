/-! the reference's clauses: much, tellsHere, clauseOfC, clauseHere -/
section PD
variable {d : Nat} {T : Nat → Nat × Nat} {L : Nat → Nat → Int64} {R : Nat → Nat → Option Nat} {z w : Nat} {J : mR} {a n i o b : Int} {t S : Int → Int}
theorem n_some0 (h : rM T R) (hs : sK T J) (hp : pH J a n) (hn : 0 ≤ n ∧ n ≤ 120) : runsP T R J a n t L z w (d + 23) 120 0 (soP t n (faP t n 5)) := by
  have q0 := n_factor (L := L) (z := z) (w := w) (t := t) h hs hp hn 5 d 0 (by decide) (by omega)
  have q1 := n_every (d := d + 18) h hp hn (faP t n 5) (faP_g t n 5) (o := 0) q0
  exact n_some (d := d + 19) h hp hn (evP t n (faP t n 5)) (evP_g (faP_g t n 5)) (o := 0) q1
/-- how many tokens there are -/
def cnOk (a : Int) (S : Int → Int) (i : Int) : Prop := 0 ≤ S (235 + a) ∧ S (235 + a) ≤ i
def runsC (T : Nat → Nat × Nat) (R : Nat → Nat → Option Nat) (J : mR) (a n : Int) (t : Int → Int) (L : Nat → Nat → Int64) (z w D y : Nat) (as : List Value) (f : Int → CR) : Prop := ∀ (i : Int) (S : Int → Int), 0 ≤ i → i ≤ n → tX S t n → cnOk a S i → ∃ S' : Int → Int, rn_c D y as (T, oI (pM J i 0 0 S), L, R, z, w) = some (none, (T, oI (pM J (f i).1 (cw (f i)) 0 S'), L, R, z, w)) ∧ resC a S (f i) S' ∧ ((f i).2.isSome = true → cnOk a S' (f i).1)
theorem wb_t {r : Int × Bool} (h : r.2 = true) : wb r = 0 := by unfold wb; rw [if_pos h]
theorem wb_f {r : Int × Bool} (h : ¬ r.2 = true) : wb r = 1 := by unfold wb; rw [if_neg h]
theorem n_much (h : rM T R) (hs : sK T J) (hp : pH J a n) (hn : 0 ≤ n ∧ n ≤ 120) (q : Nat) (hq : q < 15) (kd k0 : Int) (hk : kd = 0 ∧ k0 = -10 ∨ kd = 3 ∧ k0 = -200) : runsC T R J a n t L z w (d + 24) 121 [.ref 193, .int (iI k0), .ref (10 + q)] (moP t n q kd) := by
  intro i S h0 hi hx hc
  obtain ⟨hc0, hc1⟩ := hc
  have sp := n_spells (d := d + 18) (L := L) (z := z) (w := w) (o := 0) h hs hp hx q hq (i := i) (by omega)
  obtain ⟨w1, w2, w3⟩ := wdP_g (t := t) q h0 hi
  unfold moP
  by_cases cw1 : (wdP t n q i).2 = true
  · rw [if_pos cw1]
    rw [wb_t cw1] at sp
    generalize (wdP t n q i).1 = j at *
    have fg := n_fig (d := d + 22) (L := L) (z := z) (w := w) (i := j) (o := 0) h hp hx (by omega)
    obtain ⟨u1, u2, u3, u4, u5, u6⟩ := nuP_r (t := t) (n := n) (i := j)
    by_cases cn : (nuP t n j).2 = -1
    · rw [if_pos cn]
      rw [if_pos cn, if_pos cn, u6 cn] at fg
      have mw := n_must_w (d := d + 22) (L := L) (z := z) (w := w) (i := j) (o := 0) h hp hx (by omega) 32
      have sw := n_some_w' (d := d + 18) (T := T) (R := R) (L := L) (z := z) (w := w) (o := 0) h j S (J := J)
      refine ⟨S, ?_, ⟨fun c q => (by cases q), eqC.ii⟩, fun q => (by cases q)⟩
      simp only [cw_n]
      simp (disch := first | omega | exact hJ _ _ | exact rJ_g hJ _ _ | (simp (disch := omega) only [ur_r, ur_o, up_r, up_o]; omega) | assumption) only [c121, s121_0, s121_0v, s121_1, s121_1v, s121_2, s121_5, s121_5v, s121_6, s121_9, s121_10, s121_10v, s121_11, s121_13, s121_16, s121_16v, s121_17, s121_20, s121_20v, s121_21, s121_22, s121_23, s121_24, s121_27, h.t193, sp, fg, mw, sw, n_emits_w h hp, kl_i, kl_r, kl_l, kl_n, kl_z, bd_s, tl_s, tl_n, ap_c, ap_n, v_s, v_n, nd_1, nd_0, ct13, eq_self, iI_add, iI_sub, iI_mul, iI_nat, iI_eq, iI_lt, iI_le, iI_eq0, iI_lt0, ↓reduceIte, if_true, if_false, not_true_eq_false, not_false_eq_true, true_and, and_true, false_and, and_false, true_or, or_true, false_or, or_false, Int.reduceLT, Int.reduceLE, Int.reduceEq, Int.reduceAdd, Int.reduceSub, Int.reduceMul, Nat.reduceAdd, Nat.reduceLT, Nat.reduceEqDiff, Int.reduceNeg, nc_s, nc_0, Int.zero_add, Int.add_zero, oI_r, oI_w, oI_f0, oI_g0, oI_f1, oI_g1, oI_f2, oI_g2, oI_f3, oI_g3, oI_f4, oI_g4, oI_f5, oI_g5, oI_f6, oI_g6, oI_f7, oI_g7, oI_f8, oI_g8, oI_f9, oI_g9, oI_f10, oI_g10, oI_f11, oI_g11, oI_f12, oI_g12, oI_f13, oI_g13, oI_f14, oI_g14, oI_f15, oI_g15, oI_f16, oI_g16, oI_f17, oI_g17, oI_f18, oI_g18, oI_f19, oI_g19, oI_f20, oI_g20, oI_f21, oI_g21, oI_f22, oI_g22, oI_f23, oI_g23, oI_f24, oI_g24, oI_f25, oI_g25, ur_r, ur_o, ur_s, up_r, up_o, up_s, jI_add, jI_sub, jI_mul, jI_neg, jI_i, jI_n, lgc_j, cj_lt, cj_ge, cj_gt, cj_le, cj_eq, oL_r, oL_w, oL_f6, oL_g6, oL_f7, oL_g7, oL_f17, oL_g17, oL_f18, oL_g18, dl_T, dl_F, de_T, de_F, dle_T, dle_F, iI_divn, rem_n, nd_v, ct_s, Bool.false_eq_true]
    · rw [if_neg cn]
      rw [if_neg cn, if_neg cn] at fg
      have u5' := u5 (by omega)
      generalize hnu : nuP t n j = nu at *
      obtain ⟨k, m⟩ := nu
      simp only [] at *
      have mu := n_must (d := d + 22) (L := L) (R := R) (z := z) (w := w) (i := k) (o := 0) h hp hx (by omega) 32 (by omega)
      unfold muP mwP at mu
      by_cases c32 : atP t n k = 32
      · have hkn := atP_n c32 (by decide)
        rw [if_pos c32]
        rw [if_pos c32, if_pos c32] at mu
        obtain ⟨S1, hrun1, r1, r2⟩ := n_some0 (d := d) (L := L) (z := z) (w := w) (t := t) h hs hp hn (k + 1) S (by omega) (by omega) hx hc0 (by omega)
        obtain ⟨g1, g2, g3⟩ := soP_g (faP_g t n 5) (k + 1) (by omega) (by omega)
        generalize soP t n (faP t n 5) (k + 1) = r at *
        obtain ⟨p, ots⟩ := r
        cases ots with
        | none =>
          refine ⟨S1, ?_, ⟨fun c q => (by cases q), r2.cc⟩, fun q => (by cases q)⟩
          simp only [bw_n] at hrun1
          simp only [Option.map_none, cw_n]
          simp (disch := first | omega | exact hJ _ _ | exact rJ_g hJ _ _ | (simp (disch := omega) only [ur_r, ur_o, up_r, up_o]; omega) | assumption) only [c121, s121_0, s121_0v, s121_1, s121_1v, s121_2, s121_5, s121_5v, s121_6, s121_9, s121_10, s121_10v, s121_11, s121_13, s121_16, s121_16v, s121_17, s121_20, s121_20v, s121_21, s121_22, s121_23, s121_24, s121_27, h.t193, sp, fg, mu, hrun1, n_emits_w h hp, kl_i, kl_r, kl_l, kl_n, kl_z, bd_s, tl_s, tl_n, ap_c, ap_n, v_s, v_n, nd_1, nd_0, ct13, eq_self, iI_add, iI_sub, iI_mul, iI_nat, iI_eq, iI_lt, iI_le, iI_eq0, iI_lt0, ↓reduceIte, if_true, if_false, not_true_eq_false, not_false_eq_true, true_and, and_true, false_and, and_false, true_or, or_true, false_or, or_false, Int.reduceLT, Int.reduceLE, Int.reduceEq, Int.reduceAdd, Int.reduceSub, Int.reduceMul, Nat.reduceAdd, Nat.reduceLT, Nat.reduceEqDiff, Int.reduceNeg, nc_s, nc_0, Int.zero_add, Int.add_zero, oI_r, oI_w, oI_f0, oI_g0, oI_f1, oI_g1, oI_f2, oI_g2, oI_f3, oI_g3, oI_f4, oI_g4, oI_f5, oI_g5, oI_f6, oI_g6, oI_f7, oI_g7, oI_f8, oI_g8, oI_f9, oI_g9, oI_f10, oI_g10, oI_f11, oI_g11, oI_f12, oI_g12, oI_f13, oI_g13, oI_f14, oI_g14, oI_f15, oI_g15, oI_f16, oI_g16, oI_f17, oI_g17, oI_f18, oI_g18, oI_f19, oI_g19, oI_f20, oI_g20, oI_f21, oI_g21, oI_f22, oI_g22, oI_f23, oI_g23, oI_f24, oI_g24, oI_f25, oI_g25, ur_r, ur_o, ur_s, up_r, up_o, up_s, jI_add, jI_sub, jI_mul, jI_neg, jI_i, jI_n, lgc_j, cj_lt, cj_ge, cj_gt, cj_le, cj_eq, oL_r, oL_w, oL_f6, oL_g6, oL_f7, oL_g7, oL_f17, oL_g17, oL_f18, oL_g18, dl_T, dl_F, de_T, de_F, dle_T, dle_F, iI_divn, rem_n, nd_v, ct_s, Bool.false_eq_true]
        | some ts =>
          have g3' : (ts.length : Int) ≤ p - (k + 1) ∧ k + 1 < p := g3 ts rfl
          have g2 : p ≤ n := g2
          have e1 := r1 ts rfl
          have lc := laT_c (a := a) ts S
          rw [← e1] at lc
          have em := n_emits (d := d + 23) (L := L) (R := R) (z := z) (w := w) (i := p) (o := 0) (S := S1) h hp (k0 - m) (by omega)
          refine ⟨emS a S1 (k0 - m), ?_, ⟨fun c q => ?_, r2.cc.tr (emS_o (by omega) hp.2.1).cc⟩, fun _ => ⟨by rw [emS_c]; omega, by rw [emS_c]; show S1 (235 + a) + 1 ≤ p; omega⟩⟩
          · simp only [bw_s] at hrun1
            simp only [Option.map_some, cw_s]
            simp (disch := first | omega | exact hJ _ _ | exact rJ_g hJ _ _ | (simp (disch := omega) only [ur_r, ur_o, up_r, up_o]; omega) | assumption) only [c121, s121_0, s121_0v, s121_1, s121_1v, s121_2, s121_5, s121_5v, s121_6, s121_9, s121_10, s121_10v, s121_11, s121_13, s121_16, s121_16v, s121_17, s121_20, s121_20v, s121_21, s121_22, s121_23, s121_24, s121_27, h.t193, sp, fg, mu, hrun1, em, kl_i, kl_r, kl_l, kl_n, kl_z, bd_s, tl_s, tl_n, ap_c, ap_n, v_s, v_n, nd_1, nd_0, ct13, eq_self, iI_add, iI_sub, iI_mul, iI_nat, iI_eq, iI_lt, iI_le, iI_eq0, iI_lt0, ↓reduceIte, if_true, if_false, not_true_eq_false, not_false_eq_true, true_and, and_true, false_and, and_false, true_or, or_true, false_or, or_false, Int.reduceLT, Int.reduceLE, Int.reduceEq, Int.reduceAdd, Int.reduceSub, Int.reduceMul, Nat.reduceAdd, Nat.reduceLT, Nat.reduceEqDiff, Int.reduceNeg, nc_s, nc_0, Int.zero_add, Int.add_zero, oI_r, oI_w, oI_f0, oI_g0, oI_f1, oI_g1, oI_f2, oI_g2, oI_f3, oI_g3, oI_f4, oI_g4, oI_f5, oI_g5, oI_f6, oI_g6, oI_f7, oI_g7, oI_f8, oI_g8, oI_f9, oI_g9, oI_f10, oI_g10, oI_f11, oI_g11, oI_f12, oI_g12, oI_f13, oI_g13, oI_f14, oI_g14, oI_f15, oI_g15, oI_f16, oI_g16, oI_f17, oI_g17, oI_f18, oI_g18, oI_f19, oI_g19, oI_f20, oI_g20, oI_f21, oI_g21, oI_f22, oI_g22, oI_f23, oI_g23, oI_f24, oI_g24, oI_f25, oI_g25, ur_r, ur_o, ur_s, up_r, up_o, up_s, jI_add, jI_sub, jI_mul, jI_neg, jI_i, jI_n, lgc_j, cj_lt, cj_ge, cj_gt, cj_le, cj_eq, oL_r, oL_w, oL_f6, oL_g6, oL_f7, oL_g7, oL_f17, oL_g17, oL_f18, oL_g18, dl_T, dl_F, de_T, de_F, dle_T, dle_F, iI_divn, rem_n, nd_v, ct_s, Bool.false_eq_true]
          · cases q
            unfold clS
            rcases hk with ⟨q1, q2⟩ | ⟨q1, q2⟩
            · simp only [q1, q2, if_true]
              rw [laT_a, ← e1]; rfl
            · simp only [q1, q2, if_true]
              rw [if_neg (by decide), laT_a, ← e1]; rfl
      · rw [if_neg c32]
        rw [if_neg c32, if_neg c32] at mu
        have sw := n_some_w' (d := d + 18) (T := T) (R := R) (L := L) (z := z) (w := w) (o := 0) h k S (J := J)
        refine ⟨S, ?_, ⟨fun c q => (by cases q), eqC.ii⟩, fun q => (by cases q)⟩
        simp only [cw_n]
        simp (disch := first | omega | exact hJ _ _ | exact rJ_g hJ _ _ | (simp (disch := omega) only [ur_r, ur_o, up_r, up_o]; omega) | assumption) only [c121, s121_0, s121_0v, s121_1, s121_1v, s121_2, s121_5, s121_5v, s121_6, s121_9, s121_10, s121_10v, s121_11, s121_13, s121_16, s121_16v, s121_17, s121_20, s121_20v, s121_21, s121_22, s121_23, s121_24, s121_27, h.t193, sp, fg, mu, sw, n_emits_w h hp, kl_i, kl_r, kl_l, kl_n, kl_z, bd_s, tl_s, tl_n, ap_c, ap_n, v_s, v_n, nd_1, nd_0, ct13, eq_self, iI_add, iI_sub, iI_mul, iI_nat, iI_eq, iI_lt, iI_le, iI_eq0, iI_lt0, ↓reduceIte, if_true, if_false, not_true_eq_false, not_false_eq_true, true_and, and_true, false_and, and_false, true_or, or_true, false_or, or_false, Int.reduceLT, Int.reduceLE, Int.reduceEq, Int.reduceAdd, Int.reduceSub, Int.reduceMul, Nat.reduceAdd, Nat.reduceLT, Nat.reduceEqDiff, Int.reduceNeg, nc_s, nc_0, Int.zero_add, Int.add_zero, oI_r, oI_w, oI_f0, oI_g0, oI_f1, oI_g1, oI_f2, oI_g2, oI_f3, oI_g3, oI_f4, oI_g4, oI_f5, oI_g5, oI_f6, oI_g6, oI_f7, oI_g7, oI_f8, oI_g8, oI_f9, oI_g9, oI_f10, oI_g10, oI_f11, oI_g11, oI_f12, oI_g12, oI_f13, oI_g13, oI_f14, oI_g14, oI_f15, oI_g15, oI_f16, oI_g16, oI_f17, oI_g17, oI_f18, oI_g18, oI_f19, oI_g19, oI_f20, oI_g20, oI_f21, oI_g21, oI_f22, oI_g22, oI_f23, oI_g23, oI_f24, oI_g24, oI_f25, oI_g25, ur_r, ur_o, ur_s, up_r, up_o, up_s, jI_add, jI_sub, jI_mul, jI_neg, jI_i, jI_n, lgc_j, cj_lt, cj_ge, cj_gt, cj_le, cj_eq, oL_r, oL_w, oL_f6, oL_g6, oL_f7, oL_g7, oL_f17, oL_g17, oL_f18, oL_g18, dl_T, dl_F, de_T, de_F, dle_T, dle_F, iI_divn, rem_n, nd_v, ct_s, Bool.false_eq_true]
  · rw [if_neg cw1]
    rw [wb_f cw1] at sp
    generalize (wdP t n q i).1 = j at *
    have fw := n_fig_w (d := d + 22) (L := L) (z := z) (w := w) (i := j) (o := 0) h hp hx (by omega)
    have mw := n_must_w (d := d + 22) (L := L) (z := z) (w := w) (i := j) (o := 0) h hp hx (by omega) 32
    have sw := n_some_w' (d := d + 18) (T := T) (R := R) (L := L) (z := z) (w := w) (o := 0) h j S (J := J)
    refine ⟨S, ?_, ⟨fun c q => (by cases q), eqC.ii⟩, fun q => (by cases q)⟩
    simp only [cw_n]
    simp (disch := first | omega | exact hJ _ _ | exact rJ_g hJ _ _ | (simp (disch := omega) only [ur_r, ur_o, up_r, up_o]; omega) | assumption) only [c121, s121_0, s121_0v, s121_1, s121_1v, s121_2, s121_5, s121_5v, s121_6, s121_9, s121_10, s121_10v, s121_11, s121_13, s121_16, s121_16v, s121_17, s121_20, s121_20v, s121_21, s121_22, s121_23, s121_24, s121_27, h.t193, sp, fw, mw, sw, n_emits_w h hp, kl_i, kl_r, kl_l, kl_n, kl_z, bd_s, tl_s, tl_n, ap_c, ap_n, v_s, v_n, nd_1, nd_0, ct13, eq_self, iI_add, iI_sub, iI_mul, iI_nat, iI_eq, iI_lt, iI_le, iI_eq0, iI_lt0, ↓reduceIte, if_true, if_false, not_true_eq_false, not_false_eq_true, true_and, and_true, false_and, and_false, true_or, or_true, false_or, or_false, Int.reduceLT, Int.reduceLE, Int.reduceEq, Int.reduceAdd, Int.reduceSub, Int.reduceMul, Nat.reduceAdd, Nat.reduceLT, Nat.reduceEqDiff, Int.reduceNeg, nc_s, nc_0, Int.zero_add, Int.add_zero, oI_r, oI_w, oI_f0, oI_g0, oI_f1, oI_g1, oI_f2, oI_g2, oI_f3, oI_g3, oI_f4, oI_g4, oI_f5, oI_g5, oI_f6, oI_g6, oI_f7, oI_g7, oI_f8, oI_g8, oI_f9, oI_g9, oI_f10, oI_g10, oI_f11, oI_g11, oI_f12, oI_g12, oI_f13, oI_g13, oI_f14, oI_g14, oI_f15, oI_g15, oI_f16, oI_g16, oI_f17, oI_g17, oI_f18, oI_g18, oI_f19, oI_g19, oI_f20, oI_g20, oI_f21, oI_g21, oI_f22, oI_g22, oI_f23, oI_g23, oI_f24, oI_g24, oI_f25, oI_g25, ur_r, ur_o, ur_s, up_r, up_o, up_s, jI_add, jI_sub, jI_mul, jI_neg, jI_i, jI_n, lgc_j, cj_lt, cj_ge, cj_gt, cj_le, cj_eq, oL_r, oL_w, oL_f6, oL_g6, oL_f7, oL_g7, oL_f17, oL_g17, oL_f18, oL_g18, dl_T, dl_F, de_T, de_F, dle_T, dle_F, iI_divn, rem_n, nd_v, ct_s, Bool.false_eq_true]
theorem n_tellsHere (h : rM T R) (hs : sK T J) (hp : pH J a n) (hn : 0 ≤ n ∧ n ≤ 120) (q : Nat) (hq : q < 15) (kd k0 : Int) (hk : kd = 1 ∧ k0 = 220 ∨ kd = 2 ∧ k0 = 225 ∨ kd = 4 ∧ k0 = 230) : runsC T R J a n t L z w (d + 24) 122 [.ref 193, .int (iI k0), .ref (10 + q)] (tlP t n q kd) := by
  intro i S h0 hi hx hc
  obtain ⟨hc0, hc1⟩ := hc
  obtain ⟨h5, ha, h7, hn'⟩ := id hp
  have sp := n_spells (d := d + 18) (L := L) (z := z) (w := w) (o := 0) h hs hp hx q hq (i := i) (by omega)
  obtain ⟨w1, w2, w3⟩ := wdP_g (t := t) q h0 hi
  unfold tlP
  by_cases cw1 : (wdP t n q i).2 = true
  · rw [if_pos cw1]
    rw [wb_t cw1] at sp
    generalize (wdP t n q i).1 = j at *
    have fg := n_fig (d := d + 22) (L := L) (z := z) (w := w) (i := j) (o := 0) h hp hx (by omega)
    obtain ⟨u1, u2, u3, u4, u5, u6⟩ := nuP_r (t := t) (n := n) (i := j)
    by_cases cn : (nuP t n j).2 = -1
    · rw [if_pos cn]
      rw [if_pos cn, if_pos cn, u6 cn] at fg
      refine ⟨S, ?_, ⟨fun c q => (by cases q), eqC.ii⟩, fun q => (by cases q)⟩
      simp only [cw_n]
      simp (disch := first | omega | exact hJ _ _ | exact rJ_g hJ _ _ | (simp (disch := omega) only [ur_r, ur_o, up_r, up_o]; omega) | assumption) only [c122, s122_0, s122_0v, s122_1, s122_1v, s122_2, s122_5, s122_5v, s122_6, s122_9, s122_10, s122_10v, s122_11, b122_14, s122_17, s122_17v, s122_18, s122_21, s122_22, s122_22v, s122_23, s122_26, s122_27, s122_28, s122_29, h.t193, sp, fg, kl_i, kl_r, kl_l, kl_n, kl_z, bd_s, tl_s, tl_n, ap_c, ap_n, v_s, v_n, nd_1, nd_0, ct13, eq_self, iI_add, iI_sub, iI_mul, iI_nat, iI_eq, iI_lt, iI_le, iI_eq0, iI_lt0, ↓reduceIte, if_true, if_false, not_true_eq_false, not_false_eq_true, true_and, and_true, false_and, and_false, true_or, or_true, false_or, or_false, Int.reduceLT, Int.reduceLE, Int.reduceEq, Int.reduceAdd, Int.reduceSub, Int.reduceMul, Nat.reduceAdd, Nat.reduceLT, Nat.reduceEqDiff, Int.reduceNeg, nc_s, nc_0, Int.zero_add, Int.add_zero, oI_r, oI_w, oI_f0, oI_g0, oI_f1, oI_g1, oI_f2, oI_g2, oI_f3, oI_g3, oI_f4, oI_g4, oI_f5, oI_g5, oI_f6, oI_g6, oI_f7, oI_g7, oI_f8, oI_g8, oI_f9, oI_g9, oI_f10, oI_g10, oI_f11, oI_g11, oI_f12, oI_g12, oI_f13, oI_g13, oI_f14, oI_g14, oI_f15, oI_g15, oI_f16, oI_g16, oI_f17, oI_g17, oI_f18, oI_g18, oI_f19, oI_g19, oI_f20, oI_g20, oI_f21, oI_g21, oI_f22, oI_g22, oI_f23, oI_g23, oI_f24, oI_g24, oI_f25, oI_g25, ur_r, ur_o, ur_s, up_r, up_o, up_s, jI_add, jI_sub, jI_mul, jI_neg, jI_i, jI_n, lgc_j, cj_lt, cj_ge, cj_gt, cj_le, cj_eq, oL_r, oL_w, oL_f6, oL_g6, oL_f7, oL_g7, oL_f17, oL_g17, oL_f18, oL_g18, dl_T, dl_F, de_T, de_F, dle_T, dle_F, iI_divn, rem_n, nd_v, ct_s, Bool.false_eq_true]
    · rw [if_neg cn]
      rw [if_neg cn, if_neg cn] at fg
      have u5' := u5 (by omega)
      generalize hnu : nuP t n j = nu at *
      obtain ⟨k, m⟩ := nu
      simp only [] at *
      refine ⟨up S (k0 + a) m, ?_, ⟨fun c q => ?_, fun j h1 h2 h3 h4 h5 => up_o (by omega)⟩, fun _ => ⟨by rw [up_o (by omega)]; exact hc0, by rw [up_o (by omega)]; show S (235 + a) ≤ k; omega⟩⟩
      · simp only [cw_s]
        simp (disch := first | omega | exact hJ _ _ | exact rJ_g hJ _ _ | (simp (disch := omega) only [ur_r, ur_o, up_r, up_o]; omega) | assumption) only [c122, s122_0, s122_0v, s122_1, s122_1v, s122_2, s122_5, s122_5v, s122_6, s122_9, s122_10, s122_10v, s122_11, b122_14, s122_17, s122_17v, s122_18, s122_21, s122_22, s122_22v, s122_23, s122_26, s122_27, s122_28, s122_29, h.t193, h.r1, h.b194, h5, sp, fg, kl_i, kl_r, kl_l, kl_n, kl_z, bd_s, tl_s, tl_n, ap_c, ap_n, v_s, v_n, nd_1, nd_0, ct13, eq_self, iI_add, iI_sub, iI_mul, iI_nat, iI_eq, iI_lt, iI_le, iI_eq0, iI_lt0, ↓reduceIte, if_true, if_false, not_true_eq_false, not_false_eq_true, true_and, and_true, false_and, and_false, true_or, or_true, false_or, or_false, Int.reduceLT, Int.reduceLE, Int.reduceEq, Int.reduceAdd, Int.reduceSub, Int.reduceMul, Nat.reduceAdd, Nat.reduceLT, Nat.reduceEqDiff, Int.reduceNeg, nc_s, nc_0, Int.zero_add, Int.add_zero, oI_r, oI_w, oI_f0, oI_g0, oI_f1, oI_g1, oI_f2, oI_g2, oI_f3, oI_g3, oI_f4, oI_g4, oI_f5, oI_g5, oI_f6, oI_g6, oI_f7, oI_g7, oI_f8, oI_g8, oI_f9, oI_g9, oI_f10, oI_g10, oI_f11, oI_g11, oI_f12, oI_g12, oI_f13, oI_g13, oI_f14, oI_g14, oI_f15, oI_g15, oI_f16, oI_g16, oI_f17, oI_g17, oI_f18, oI_g18, oI_f19, oI_g19, oI_f20, oI_g20, oI_f21, oI_g21, oI_f22, oI_g22, oI_f23, oI_g23, oI_f24, oI_g24, oI_f25, oI_g25, ur_r, ur_o, ur_s, up_r, up_o, up_s, jI_add, jI_sub, jI_mul, jI_neg, jI_i, jI_n, lgc_j, cj_lt, cj_ge, cj_gt, cj_le, cj_eq, oL_r, oL_w, oL_f6, oL_g6, oL_f7, oL_g7, oL_f17, oL_g17, oL_f18, oL_g18, dl_T, dl_F, de_T, de_F, dle_T, dle_F, iI_divn, rem_n, nd_v, ct_s, Bool.false_eq_true]
      · cases q
        unfold clS
        rcases hk with ⟨q1, q2⟩ | ⟨q1, q2⟩ | ⟨q1, q2⟩ <;> subst q1 <;> subst q2 <;> rfl
  · rw [if_neg cw1]
    rw [wb_f cw1] at sp
    generalize (wdP t n q i).1 = j at *
    have fw := n_fig_w (d := d + 22) (L := L) (z := z) (w := w) (i := j) (o := 0) h hp hx (by omega)
    refine ⟨S, ?_, ⟨fun c q => (by cases q), eqC.ii⟩, fun q => (by cases q)⟩
    simp only [cw_n]
    simp (disch := first | omega | exact hJ _ _ | exact rJ_g hJ _ _ | (simp (disch := omega) only [ur_r, ur_o, up_r, up_o]; omega) | assumption) only [c122, s122_0, s122_0v, s122_1, s122_1v, s122_2, s122_5, s122_5v, s122_6, s122_9, s122_10, s122_10v, s122_11, b122_14, s122_17, s122_17v, s122_18, s122_21, s122_22, s122_22v, s122_23, s122_26, s122_27, s122_28, s122_29, h.t193, sp, fw, kl_i, kl_r, kl_l, kl_n, kl_z, bd_s, tl_s, tl_n, ap_c, ap_n, v_s, v_n, nd_1, nd_0, ct13, eq_self, iI_add, iI_sub, iI_mul, iI_nat, iI_eq, iI_lt, iI_le, iI_eq0, iI_lt0, ↓reduceIte, if_true, if_false, not_true_eq_false, not_false_eq_true, true_and, and_true, false_and, and_false, true_or, or_true, false_or, or_false, Int.reduceLT, Int.reduceLE, Int.reduceEq, Int.reduceAdd, Int.reduceSub, Int.reduceMul, Nat.reduceAdd, Nat.reduceLT, Nat.reduceEqDiff, Int.reduceNeg, nc_s, nc_0, Int.zero_add, Int.add_zero, oI_r, oI_w, oI_f0, oI_g0, oI_f1, oI_g1, oI_f2, oI_g2, oI_f3, oI_g3, oI_f4, oI_g4, oI_f5, oI_g5, oI_f6, oI_g6, oI_f7, oI_g7, oI_f8, oI_g8, oI_f9, oI_g9, oI_f10, oI_g10, oI_f11, oI_g11, oI_f12, oI_g12, oI_f13, oI_g13, oI_f14, oI_g14, oI_f15, oI_g15, oI_f16, oI_g16, oI_f17, oI_g17, oI_f18, oI_g18, oI_f19, oI_g19, oI_f20, oI_g20, oI_f21, oI_g21, oI_f22, oI_g22, oI_f23, oI_g23, oI_f24, oI_g24, oI_f25, oI_g25, ur_r, ur_o, ur_s, up_r, up_o, up_s, jI_add, jI_sub, jI_mul, jI_neg, jI_i, jI_n, lgc_j, cj_lt, cj_ge, cj_gt, cj_le, cj_eq, oL_r, oL_w, oL_f6, oL_g6, oL_f7, oL_g7, oL_f17, oL_g17, oL_f18, oL_g18, dl_T, dl_F, de_T, de_F, dle_T, dle_F, iI_divn, rem_n, nd_v, ct_s, Bool.false_eq_true]
theorem n_tellsHere_w (h : rM T R) (hs : sK T J) (hp : pH J a n) (hx : tX S t n) (q : Nat) (hq : q < 15) (k0 : Int) (hi : 0 ≤ i ∧ i < 900) : rn_c (d + 24) 122 [.ref 193, .int (iI k0), .ref (10 + q)] (T, oI (pM J i 1 0 S), L, R, z, w) = some (none, (T, oI (pM J i 1 0 S), L, R, z, w)) := by
  have sp := n_spells_w (d := d + 18) (L := L) (z := z) (w := w) (o := 0) h hs hp hx q hq (i := i) (by omega)
  have fw := n_fig_w (d := d + 22) (L := L) (z := z) (w := w) (i := i) (o := 0) h hp hx (by omega)
  simp (disch := first | omega | exact hJ _ _ | exact rJ_g hJ _ _ | (simp (disch := omega) only [ur_r, ur_o, up_r, up_o]; omega) | assumption) only [c122, s122_0, s122_0v, s122_1, s122_1v, s122_2, s122_5, s122_5v, s122_6, s122_9, s122_10, s122_10v, s122_11, b122_14, s122_17, s122_17v, s122_18, s122_21, s122_22, s122_22v, s122_23, s122_26, s122_27, s122_28, s122_29, h.t193, sp, fw, kl_i, kl_r, kl_l, kl_n, kl_z, bd_s, tl_s, tl_n, ap_c, ap_n, v_s, v_n, nd_1, nd_0, ct13, eq_self, iI_add, iI_sub, iI_mul, iI_nat, iI_eq, iI_lt, iI_le, iI_eq0, iI_lt0, ↓reduceIte, if_true, if_false, not_true_eq_false, not_false_eq_true, true_and, and_true, false_and, and_false, true_or, or_true, false_or, or_false, Int.reduceLT, Int.reduceLE, Int.reduceEq, Int.reduceAdd, Int.reduceSub, Int.reduceMul, Nat.reduceAdd, Nat.reduceLT, Nat.reduceEqDiff, Int.reduceNeg, nc_s, nc_0, Int.zero_add, Int.add_zero, oI_r, oI_w, oI_f0, oI_g0, oI_f1, oI_g1, oI_f2, oI_g2, oI_f3, oI_g3, oI_f4, oI_g4, oI_f5, oI_g5, oI_f6, oI_g6, oI_f7, oI_g7, oI_f8, oI_g8, oI_f9, oI_g9, oI_f10, oI_g10, oI_f11, oI_g11, oI_f12, oI_g12, oI_f13, oI_g13, oI_f14, oI_g14, oI_f15, oI_g15, oI_f16, oI_g16, oI_f17, oI_g17, oI_f18, oI_g18, oI_f19, oI_g19, oI_f20, oI_g20, oI_f21, oI_g21, oI_f22, oI_g22, oI_f23, oI_g23, oI_f24, oI_g24, oI_f25, oI_g25, ur_r, ur_o, ur_s, up_r, up_o, up_s, jI_add, jI_sub, jI_mul, jI_neg, jI_i, jI_n, lgc_j, cj_lt, cj_ge, cj_gt, cj_le, cj_eq, oL_r, oL_w, oL_f6, oL_g6, oL_f7, oL_g7, oL_f17, oL_g17, oL_f18, oL_g18, dl_T, dl_F, de_T, de_F, dle_T, dle_F, iI_divn, rem_n, nd_v, ct_s, Bool.false_eq_true]
theorem n_clauseOfC (h : rM T R) (hs : sK T J) (hp : pH J a n) (hn : 0 ≤ n ∧ n ≤ 120) : runsC T R J a n t L z w (d + 25) 123 [.ref 193] (caP t n) := by
  intro i S h0 hi hx hc
  have sp := n_spells (d := d + 19) (L := L) (z := z) (w := w) (o := 0) h hs hp hx 12 (by omega) (i := i) (by omega)
  obtain ⟨w1, w2, w3⟩ := wdP_g (t := t) 12 h0 hi
  unfold caP
  simp only [Nat.reduceAdd] at sp
  by_cases cw1 : (wdP t n 12 i).2 = true
  · rw [if_pos cw1]
    rw [wb_t cw1] at sp
    generalize (wdP t n 12 i).1 = j at *
    have hh := n_here (d := d + 24) (L := L) (z := z) (w := w) (i := j) (b := 0) (o := 0) h hp hx (by omega)
    have hr := atP_r hx (i := j) (by omega)
    have hc' : cnOk a S j := ⟨hc.1, by have := hc.2; omega⟩
    by_cases c114 : atP t n j = 114
    · rw [if_pos c114]
      obtain ⟨S1, hrun1, r1, r2⟩ := n_tellsHere (d := d) (L := L) (z := z) (w := w) (t := t) h hs hp hn 13 (by omega) 2 225 (by omega) j S (by omega) w2 hx hc'
      refine ⟨S1, ?_, r1, r2⟩
      simp only [Nat.reduceAdd] at hrun1
      simp (disch := first | omega | exact hJ _ _ | exact rJ_g hJ _ _ | (simp (disch := omega) only [ur_r, ur_o, up_r, up_o]; omega) | assumption) only [c123, s123_0, s123_0v, s123_1, s123_3, s123_6, s123_6v, s123_7, s123_10, b123_12, s123_15, s123_15v, s123_16, s123_19, s123_21, s123_24, s123_27, s123_27v, s123_28, s123_31, s123_33, s123_36, h.t193, sp, hh, c114, hrun1, kl_i, kl_r, kl_l, kl_n, kl_z, bd_s, tl_s, tl_n, ap_c, ap_n, v_s, v_n, nd_1, nd_0, ct13, eq_self, iI_add, iI_sub, iI_mul, iI_nat, iI_eq, iI_lt, iI_le, iI_eq0, iI_lt0, ↓reduceIte, if_true, if_false, not_true_eq_false, not_false_eq_true, true_and, and_true, false_and, and_false, true_or, or_true, false_or, or_false, Int.reduceLT, Int.reduceLE, Int.reduceEq, Int.reduceAdd, Int.reduceSub, Int.reduceMul, Nat.reduceAdd, Nat.reduceLT, Nat.reduceEqDiff, Int.reduceNeg, nc_s, nc_0, Int.zero_add, Int.add_zero, oI_r, oI_w, oI_f0, oI_g0, oI_f1, oI_g1, oI_f2, oI_g2, oI_f3, oI_g3, oI_f4, oI_g4, oI_f5, oI_g5, oI_f6, oI_g6, oI_f7, oI_g7, oI_f8, oI_g8, oI_f9, oI_g9, oI_f10, oI_g10, oI_f11, oI_g11, oI_f12, oI_g12, oI_f13, oI_g13, oI_f14, oI_g14, oI_f15, oI_g15, oI_f16, oI_g16, oI_f17, oI_g17, oI_f18, oI_g18, oI_f19, oI_g19, oI_f20, oI_g20, oI_f21, oI_g21, oI_f22, oI_g22, oI_f23, oI_g23, oI_f24, oI_g24, oI_f25, oI_g25, ur_r, ur_o, ur_s, up_r, up_o, up_s, jI_add, jI_sub, jI_mul, jI_neg, jI_i, jI_n, lgc_j, cj_lt, cj_ge, cj_gt, cj_le, cj_eq, oL_r, oL_w, oL_f6, oL_g6, oL_f7, oL_g7, oL_f17, oL_g17, oL_f18, oL_g18, dl_T, dl_F, de_T, de_F, dle_T, dle_F, iI_divn, rem_n, nd_v, ct_s, Bool.false_eq_true]
    · rw [if_neg c114]
      obtain ⟨S1, hrun1, r1, r2⟩ := n_tellsHere (d := d) (L := L) (z := z) (w := w) (t := t) h hs hp hn 14 (by omega) 4 230 (by omega) j S (by omega) w2 hx hc'
      refine ⟨S1, ?_, r1, r2⟩
      simp only [Nat.reduceAdd] at hrun1
      simp (disch := first | omega | exact hJ _ _ | exact rJ_g hJ _ _ | (simp (disch := omega) only [ur_r, ur_o, up_r, up_o]; omega) | assumption) only [c123, s123_0, s123_0v, s123_1, s123_3, s123_6, s123_6v, s123_7, s123_10, b123_12, s123_15, s123_15v, s123_16, s123_19, s123_21, s123_24, s123_27, s123_27v, s123_28, s123_31, s123_33, s123_36, h.t193, sp, hh, hrun1, kl_i, kl_r, kl_l, kl_n, kl_z, bd_s, tl_s, tl_n, ap_c, ap_n, v_s, v_n, nd_1, nd_0, ct13, eq_self, iI_add, iI_sub, iI_mul, iI_nat, iI_eq, iI_lt, iI_le, iI_eq0, iI_lt0, ↓reduceIte, if_true, if_false, not_true_eq_false, not_false_eq_true, true_and, and_true, false_and, and_false, true_or, or_true, false_or, or_false, Int.reduceLT, Int.reduceLE, Int.reduceEq, Int.reduceAdd, Int.reduceSub, Int.reduceMul, Nat.reduceAdd, Nat.reduceLT, Nat.reduceEqDiff, Int.reduceNeg, nc_s, nc_0, Int.zero_add, Int.add_zero, oI_r, oI_w, oI_f0, oI_g0, oI_f1, oI_g1, oI_f2, oI_g2, oI_f3, oI_g3, oI_f4, oI_g4, oI_f5, oI_g5, oI_f6, oI_g6, oI_f7, oI_g7, oI_f8, oI_g8, oI_f9, oI_g9, oI_f10, oI_g10, oI_f11, oI_g11, oI_f12, oI_g12, oI_f13, oI_g13, oI_f14, oI_g14, oI_f15, oI_g15, oI_f16, oI_g16, oI_f17, oI_g17, oI_f18, oI_g18, oI_f19, oI_g19, oI_f20, oI_g20, oI_f21, oI_g21, oI_f22, oI_g22, oI_f23, oI_g23, oI_f24, oI_g24, oI_f25, oI_g25, ur_r, ur_o, ur_s, up_r, up_o, up_s, jI_add, jI_sub, jI_mul, jI_neg, jI_i, jI_n, lgc_j, cj_lt, cj_ge, cj_gt, cj_le, cj_eq, oL_r, oL_w, oL_f6, oL_g6, oL_f7, oL_g7, oL_f17, oL_g17, oL_f18, oL_g18, dl_T, dl_F, de_T, de_F, dle_T, dle_F, iI_divn, rem_n, nd_v, ct_s, Bool.false_eq_true]
  · rw [if_neg cw1]
    rw [wb_f cw1] at sp
    generalize (wdP t n 12 i).1 = j at *
    have hh := n_here (d := d + 24) (L := L) (z := z) (w := w) (i := j) (b := 1) (o := 0) h hp hx (by omega)
    have hr := atP_r hx (i := j) (by omega)
    have t1 := n_tellsHere_w (d := d) (L := L) (z := z) (w := w) (i := j) h hs hp hx 13 (by omega) 225 (by omega)
    have t2 := n_tellsHere_w (d := d) (L := L) (z := z) (w := w) (i := j) h hs hp hx 14 (by omega) 230 (by omega)
    simp only [Nat.reduceAdd] at t1 t2
    refine ⟨S, ?_, ⟨fun c q => (by cases q), eqC.ii⟩, fun q => (by cases q)⟩
    simp only [cw_n]
    by_cases c114 : atP t n j = 114
    · simp (disch := first | omega | exact hJ _ _ | exact rJ_g hJ _ _ | (simp (disch := omega) only [ur_r, ur_o, up_r, up_o]; omega) | assumption) only [c123, s123_0, s123_0v, s123_1, s123_3, s123_6, s123_6v, s123_7, s123_10, b123_12, s123_15, s123_15v, s123_16, s123_19, s123_21, s123_24, s123_27, s123_27v, s123_28, s123_31, s123_33, s123_36, h.t193, sp, hh, c114, t1, t2, kl_i, kl_r, kl_l, kl_n, kl_z, bd_s, tl_s, tl_n, ap_c, ap_n, v_s, v_n, nd_1, nd_0, ct13, eq_self, iI_add, iI_sub, iI_mul, iI_nat, iI_eq, iI_lt, iI_le, iI_eq0, iI_lt0, ↓reduceIte, if_true, if_false, not_true_eq_false, not_false_eq_true, true_and, and_true, false_and, and_false, true_or, or_true, false_or, or_false, Int.reduceLT, Int.reduceLE, Int.reduceEq, Int.reduceAdd, Int.reduceSub, Int.reduceMul, Nat.reduceAdd, Nat.reduceLT, Nat.reduceEqDiff, Int.reduceNeg, nc_s, nc_0, Int.zero_add, Int.add_zero, oI_r, oI_w, oI_f0, oI_g0, oI_f1, oI_g1, oI_f2, oI_g2, oI_f3, oI_g3, oI_f4, oI_g4, oI_f5, oI_g5, oI_f6, oI_g6, oI_f7, oI_g7, oI_f8, oI_g8, oI_f9, oI_g9, oI_f10, oI_g10, oI_f11, oI_g11, oI_f12, oI_g12, oI_f13, oI_g13, oI_f14, oI_g14, oI_f15, oI_g15, oI_f16, oI_g16, oI_f17, oI_g17, oI_f18, oI_g18, oI_f19, oI_g19, oI_f20, oI_g20, oI_f21, oI_g21, oI_f22, oI_g22, oI_f23, oI_g23, oI_f24, oI_g24, oI_f25, oI_g25, ur_r, ur_o, ur_s, up_r, up_o, up_s, jI_add, jI_sub, jI_mul, jI_neg, jI_i, jI_n, lgc_j, cj_lt, cj_ge, cj_gt, cj_le, cj_eq, oL_r, oL_w, oL_f6, oL_g6, oL_f7, oL_g7, oL_f17, oL_g17, oL_f18, oL_g18, dl_T, dl_F, de_T, de_F, dle_T, dle_F, iI_divn, rem_n, nd_v, ct_s, Bool.false_eq_true]
    · simp (disch := first | omega | exact hJ _ _ | exact rJ_g hJ _ _ | (simp (disch := omega) only [ur_r, ur_o, up_r, up_o]; omega) | assumption) only [c123, s123_0, s123_0v, s123_1, s123_3, s123_6, s123_6v, s123_7, s123_10, b123_12, s123_15, s123_15v, s123_16, s123_19, s123_21, s123_24, s123_27, s123_27v, s123_28, s123_31, s123_33, s123_36, h.t193, sp, hh, t1, t2, kl_i, kl_r, kl_l, kl_n, kl_z, bd_s, tl_s, tl_n, ap_c, ap_n, v_s, v_n, nd_1, nd_0, ct13, eq_self, iI_add, iI_sub, iI_mul, iI_nat, iI_eq, iI_lt, iI_le, iI_eq0, iI_lt0, ↓reduceIte, if_true, if_false, not_true_eq_false, not_false_eq_true, true_and, and_true, false_and, and_false, true_or, or_true, false_or, or_false, Int.reduceLT, Int.reduceLE, Int.reduceEq, Int.reduceAdd, Int.reduceSub, Int.reduceMul, Nat.reduceAdd, Nat.reduceLT, Nat.reduceEqDiff, Int.reduceNeg, nc_s, nc_0, Int.zero_add, Int.add_zero, oI_r, oI_w, oI_f0, oI_g0, oI_f1, oI_g1, oI_f2, oI_g2, oI_f3, oI_g3, oI_f4, oI_g4, oI_f5, oI_g5, oI_f6, oI_g6, oI_f7, oI_g7, oI_f8, oI_g8, oI_f9, oI_g9, oI_f10, oI_g10, oI_f11, oI_g11, oI_f12, oI_g12, oI_f13, oI_g13, oI_f14, oI_g14, oI_f15, oI_g15, oI_f16, oI_g16, oI_f17, oI_g17, oI_f18, oI_g18, oI_f19, oI_g19, oI_f20, oI_g20, oI_f21, oI_g21, oI_f22, oI_g22, oI_f23, oI_g23, oI_f24, oI_g24, oI_f25, oI_g25, ur_r, ur_o, ur_s, up_r, up_o, up_s, jI_add, jI_sub, jI_mul, jI_neg, jI_i, jI_n, lgc_j, cj_lt, cj_ge, cj_gt, cj_le, cj_eq, oL_r, oL_w, oL_f6, oL_g6, oL_f7, oL_g7, oL_f17, oL_g17, oL_f18, oL_g18, dl_T, dl_F, de_T, de_F, dle_T, dle_F, iI_divn, rem_n, nd_v, ct_s, Bool.false_eq_true]
theorem n_clauseHere (h : rM T R) (hs : sK T J) (hp : pH J a n) (hn : 0 ≤ n ∧ n ≤ 120) : runsC T R J a n t L z w (d + 26) 124 [.ref 193] (clP t n) := by
  intro i S h0 hi hx hc
  have hh := n_here (d := d + 25) (L := L) (z := z) (w := w) (i := i) (b := 0) (o := 0) h hp hx (by omega)
  have hr := atP_r hx (i := i) (by omega)
  unfold clP
  by_cases c1 : atP t n i = 99
  · rw [if_pos c1]
    obtain ⟨S1, hrun1, r1, r2⟩ := n_clauseOfC (d := d) (L := L) (z := z) (w := w) (t := t) h hs hp hn i S h0 hi hx hc
    refine ⟨S1, ?_, r1, r2⟩
    simp (disch := first | omega | exact hJ _ _ | exact rJ_g hJ _ _ | (simp (disch := omega) only [ur_r, ur_o, up_r, up_o]; omega) | assumption) only [c124, s124_0, s124_0v, s124_1, b124_4, s124_48, s124_48v, s124_49, s124_51, s124_53, s124_56, s124_59, s124_59v, s124_60, s124_63, s124_65, s124_68, s124_71, s124_71v, s124_72, s124_75, s124_77, s124_80, s124_83, s124_83v, s124_84, s124_87, s124_90, s124_90v, s124_91, s124_92, s124_95, h.t193, hh, c1, hrun1, kl_i, kl_r, kl_l, kl_n, kl_z, bd_s, tl_s, tl_n, ap_c, ap_n, v_s, v_n, nd_1, nd_0, ct13, eq_self, iI_add, iI_sub, iI_mul, iI_nat, iI_eq, iI_lt, iI_le, iI_eq0, iI_lt0, ↓reduceIte, if_true, if_false, not_true_eq_false, not_false_eq_true, true_and, and_true, false_and, and_false, true_or, or_true, false_or, or_false, Int.reduceLT, Int.reduceLE, Int.reduceEq, Int.reduceAdd, Int.reduceSub, Int.reduceMul, Nat.reduceAdd, Nat.reduceLT, Nat.reduceEqDiff, Int.reduceNeg, nc_s, nc_0, Int.zero_add, Int.add_zero, oI_r, oI_w, oI_f0, oI_g0, oI_f1, oI_g1, oI_f2, oI_g2, oI_f3, oI_g3, oI_f4, oI_g4, oI_f5, oI_g5, oI_f6, oI_g6, oI_f7, oI_g7, oI_f8, oI_g8, oI_f9, oI_g9, oI_f10, oI_g10, oI_f11, oI_g11, oI_f12, oI_g12, oI_f13, oI_g13, oI_f14, oI_g14, oI_f15, oI_g15, oI_f16, oI_g16, oI_f17, oI_g17, oI_f18, oI_g18, oI_f19, oI_g19, oI_f20, oI_g20, oI_f21, oI_g21, oI_f22, oI_g22, oI_f23, oI_g23, oI_f24, oI_g24, oI_f25, oI_g25, ur_r, ur_o, ur_s, up_r, up_o, up_s, jI_add, jI_sub, jI_mul, jI_neg, jI_i, jI_n, lgc_j, cj_lt, cj_ge, cj_gt, cj_le, cj_eq, oL_r, oL_w, oL_f6, oL_g6, oL_f7, oL_g7, oL_f17, oL_g17, oL_f18, oL_g18, dl_T, dl_F, de_T, de_F, dle_T, dle_F, iI_divn, rem_n, nd_v, ct_s, Bool.false_eq_true]
  rw [if_neg c1]
  by_cases c2 : atP t n i = 108
  · rw [if_pos c2]
    obtain ⟨S1, hrun1, r1, r2⟩ := n_much (d := d + 1) (L := L) (z := z) (w := w) (t := t) h hs hp hn 10 (by omega) 3 (-200) (by omega) i S h0 hi hx hc
    refine ⟨S1, ?_, r1, r2⟩
    simp only [Nat.reduceAdd] at hrun1
    simp (disch := first | omega | exact hJ _ _ | exact rJ_g hJ _ _ | (simp (disch := omega) only [ur_r, ur_o, up_r, up_o]; omega) | assumption) only [c124, s124_0, s124_0v, s124_1, b124_4, s124_48, s124_48v, s124_49, s124_51, s124_53, s124_56, s124_59, s124_59v, s124_60, s124_63, s124_65, s124_68, s124_71, s124_71v, s124_72, s124_75, s124_77, s124_80, s124_83, s124_83v, s124_84, s124_87, s124_90, s124_90v, s124_91, s124_92, s124_95, h.t193, hh, c2, hrun1, kl_i, kl_r, kl_l, kl_n, kl_z, bd_s, tl_s, tl_n, ap_c, ap_n, v_s, v_n, nd_1, nd_0, ct13, eq_self, iI_add, iI_sub, iI_mul, iI_nat, iI_eq, iI_lt, iI_le, iI_eq0, iI_lt0, ↓reduceIte, if_true, if_false, not_true_eq_false, not_false_eq_true, true_and, and_true, false_and, and_false, true_or, or_true, false_or, or_false, Int.reduceLT, Int.reduceLE, Int.reduceEq, Int.reduceAdd, Int.reduceSub, Int.reduceMul, Nat.reduceAdd, Nat.reduceLT, Nat.reduceEqDiff, Int.reduceNeg, nc_s, nc_0, Int.zero_add, Int.add_zero, oI_r, oI_w, oI_f0, oI_g0, oI_f1, oI_g1, oI_f2, oI_g2, oI_f3, oI_g3, oI_f4, oI_g4, oI_f5, oI_g5, oI_f6, oI_g6, oI_f7, oI_g7, oI_f8, oI_g8, oI_f9, oI_g9, oI_f10, oI_g10, oI_f11, oI_g11, oI_f12, oI_g12, oI_f13, oI_g13, oI_f14, oI_g14, oI_f15, oI_g15, oI_f16, oI_g16, oI_f17, oI_g17, oI_f18, oI_g18, oI_f19, oI_g19, oI_f20, oI_g20, oI_f21, oI_g21, oI_f22, oI_g22, oI_f23, oI_g23, oI_f24, oI_g24, oI_f25, oI_g25, ur_r, ur_o, ur_s, up_r, up_o, up_s, jI_add, jI_sub, jI_mul, jI_neg, jI_i, jI_n, lgc_j, cj_lt, cj_ge, cj_gt, cj_le, cj_eq, oL_r, oL_w, oL_f6, oL_g6, oL_f7, oL_g7, oL_f17, oL_g17, oL_f18, oL_g18, dl_T, dl_F, de_T, de_F, dle_T, dle_F, iI_divn, rem_n, nd_v, ct_s, Bool.false_eq_true]
  rw [if_neg c2]
  by_cases c3 : atP t n i = 114
  · rw [if_pos c3]
    obtain ⟨S1, hrun1, r1, r2⟩ := n_much (d := d + 1) (L := L) (z := z) (w := w) (t := t) h hs hp hn 7 (by omega) 0 (-10) (by omega) i S h0 hi hx hc
    refine ⟨S1, ?_, r1, r2⟩
    simp only [Nat.reduceAdd] at hrun1
    simp (disch := first | omega | exact hJ _ _ | exact rJ_g hJ _ _ | (simp (disch := omega) only [ur_r, ur_o, up_r, up_o]; omega) | assumption) only [c124, s124_0, s124_0v, s124_1, b124_4, s124_48, s124_48v, s124_49, s124_51, s124_53, s124_56, s124_59, s124_59v, s124_60, s124_63, s124_65, s124_68, s124_71, s124_71v, s124_72, s124_75, s124_77, s124_80, s124_83, s124_83v, s124_84, s124_87, s124_90, s124_90v, s124_91, s124_92, s124_95, h.t193, hh, c3, hrun1, kl_i, kl_r, kl_l, kl_n, kl_z, bd_s, tl_s, tl_n, ap_c, ap_n, v_s, v_n, nd_1, nd_0, ct13, eq_self, iI_add, iI_sub, iI_mul, iI_nat, iI_eq, iI_lt, iI_le, iI_eq0, iI_lt0, ↓reduceIte, if_true, if_false, not_true_eq_false, not_false_eq_true, true_and, and_true, false_and, and_false, true_or, or_true, false_or, or_false, Int.reduceLT, Int.reduceLE, Int.reduceEq, Int.reduceAdd, Int.reduceSub, Int.reduceMul, Nat.reduceAdd, Nat.reduceLT, Nat.reduceEqDiff, Int.reduceNeg, nc_s, nc_0, Int.zero_add, Int.add_zero, oI_r, oI_w, oI_f0, oI_g0, oI_f1, oI_g1, oI_f2, oI_g2, oI_f3, oI_g3, oI_f4, oI_g4, oI_f5, oI_g5, oI_f6, oI_g6, oI_f7, oI_g7, oI_f8, oI_g8, oI_f9, oI_g9, oI_f10, oI_g10, oI_f11, oI_g11, oI_f12, oI_g12, oI_f13, oI_g13, oI_f14, oI_g14, oI_f15, oI_g15, oI_f16, oI_g16, oI_f17, oI_g17, oI_f18, oI_g18, oI_f19, oI_g19, oI_f20, oI_g20, oI_f21, oI_g21, oI_f22, oI_g22, oI_f23, oI_g23, oI_f24, oI_g24, oI_f25, oI_g25, ur_r, ur_o, ur_s, up_r, up_o, up_s, jI_add, jI_sub, jI_mul, jI_neg, jI_i, jI_n, lgc_j, cj_lt, cj_ge, cj_gt, cj_le, cj_eq, oL_r, oL_w, oL_f6, oL_g6, oL_f7, oL_g7, oL_f17, oL_g17, oL_f18, oL_g18, dl_T, dl_F, de_T, de_F, dle_T, dle_F, iI_divn, rem_n, nd_v, ct_s, Bool.false_eq_true]
  rw [if_neg c3]
  by_cases c4 : atP t n i = 119
  · rw [if_pos c4]
    obtain ⟨S1, hrun1, r1, r2⟩ := n_tellsHere (d := d + 1) (L := L) (z := z) (w := w) (t := t) h hs hp hn 11 (by omega) 1 220 (by omega) i S h0 hi hx hc
    refine ⟨S1, ?_, r1, r2⟩
    simp only [Nat.reduceAdd] at hrun1
    simp (disch := first | omega | exact hJ _ _ | exact rJ_g hJ _ _ | (simp (disch := omega) only [ur_r, ur_o, up_r, up_o]; omega) | assumption) only [c124, s124_0, s124_0v, s124_1, b124_4, s124_48, s124_48v, s124_49, s124_51, s124_53, s124_56, s124_59, s124_59v, s124_60, s124_63, s124_65, s124_68, s124_71, s124_71v, s124_72, s124_75, s124_77, s124_80, s124_83, s124_83v, s124_84, s124_87, s124_90, s124_90v, s124_91, s124_92, s124_95, h.t193, hh, c4, hrun1, kl_i, kl_r, kl_l, kl_n, kl_z, bd_s, tl_s, tl_n, ap_c, ap_n, v_s, v_n, nd_1, nd_0, ct13, eq_self, iI_add, iI_sub, iI_mul, iI_nat, iI_eq, iI_lt, iI_le, iI_eq0, iI_lt0, ↓reduceIte, if_true, if_false, not_true_eq_false, not_false_eq_true, true_and, and_true, false_and, and_false, true_or, or_true, false_or, or_false, Int.reduceLT, Int.reduceLE, Int.reduceEq, Int.reduceAdd, Int.reduceSub, Int.reduceMul, Nat.reduceAdd, Nat.reduceLT, Nat.reduceEqDiff, Int.reduceNeg, nc_s, nc_0, Int.zero_add, Int.add_zero, oI_r, oI_w, oI_f0, oI_g0, oI_f1, oI_g1, oI_f2, oI_g2, oI_f3, oI_g3, oI_f4, oI_g4, oI_f5, oI_g5, oI_f6, oI_g6, oI_f7, oI_g7, oI_f8, oI_g8, oI_f9, oI_g9, oI_f10, oI_g10, oI_f11, oI_g11, oI_f12, oI_g12, oI_f13, oI_g13, oI_f14, oI_g14, oI_f15, oI_g15, oI_f16, oI_g16, oI_f17, oI_g17, oI_f18, oI_g18, oI_f19, oI_g19, oI_f20, oI_g20, oI_f21, oI_g21, oI_f22, oI_g22, oI_f23, oI_g23, oI_f24, oI_g24, oI_f25, oI_g25, ur_r, ur_o, ur_s, up_r, up_o, up_s, jI_add, jI_sub, jI_mul, jI_neg, jI_i, jI_n, lgc_j, cj_lt, cj_ge, cj_gt, cj_le, cj_eq, oL_r, oL_w, oL_f6, oL_g6, oL_f7, oL_g7, oL_f17, oL_g17, oL_f18, oL_g18, dl_T, dl_F, de_T, de_F, dle_T, dle_F, iI_divn, rem_n, nd_v, ct_s, Bool.false_eq_true]
  rw [if_neg c4]
  refine ⟨S, ?_, ⟨fun c q => (by cases q), eqC.ii⟩, fun q => (by cases q)⟩
  simp only [cw_n]
  simp (disch := first | omega | exact hJ _ _ | exact rJ_g hJ _ _ | (simp (disch := omega) only [ur_r, ur_o, up_r, up_o]; omega) | assumption) only [c124, s124_0, s124_0v, s124_1, b124_4, s124_48, s124_48v, s124_49, s124_51, s124_53, s124_56, s124_59, s124_59v, s124_60, s124_63, s124_65, s124_68, s124_71, s124_71v, s124_72, s124_75, s124_77, s124_80, s124_83, s124_83v, s124_84, s124_87, s124_90, s124_90v, s124_91, s124_92, s124_95, h.t193, hh, up_c, ur_c, kl_i, kl_r, kl_l, kl_n, kl_z, bd_s, tl_s, tl_n, ap_c, ap_n, v_s, v_n, nd_1, nd_0, ct13, eq_self, iI_add, iI_sub, iI_mul, iI_nat, iI_eq, iI_lt, iI_le, iI_eq0, iI_lt0, ↓reduceIte, if_true, if_false, not_true_eq_false, not_false_eq_true, true_and, and_true, false_and, and_false, true_or, or_true, false_or, or_false, Int.reduceLT, Int.reduceLE, Int.reduceEq, Int.reduceAdd, Int.reduceSub, Int.reduceMul, Nat.reduceAdd, Nat.reduceLT, Nat.reduceEqDiff, Int.reduceNeg, nc_s, nc_0, Int.zero_add, Int.add_zero, oI_r, oI_w, oI_f0, oI_g0, oI_f1, oI_g1, oI_f2, oI_g2, oI_f3, oI_g3, oI_f4, oI_g4, oI_f5, oI_g5, oI_f6, oI_g6, oI_f7, oI_g7, oI_f8, oI_g8, oI_f9, oI_g9, oI_f10, oI_g10, oI_f11, oI_g11, oI_f12, oI_g12, oI_f13, oI_g13, oI_f14, oI_g14, oI_f15, oI_g15, oI_f16, oI_g16, oI_f17, oI_g17, oI_f18, oI_g18, oI_f19, oI_g19, oI_f20, oI_g20, oI_f21, oI_g21, oI_f22, oI_g22, oI_f23, oI_g23, oI_f24, oI_g24, oI_f25, oI_g25, ur_r, ur_o, ur_s, up_r, up_o, up_s, jI_add, jI_sub, jI_mul, jI_neg, jI_i, jI_n, lgc_j, cj_lt, cj_ge, cj_gt, cj_le, cj_eq, oL_r, oL_w, oL_f6, oL_g6, oL_f7, oL_g7, oL_f17, oL_g17, oL_f18, oL_g18, dl_T, dl_F, de_T, de_F, dle_T, dle_F, iI_divn, rem_n, nd_v, ct_s, Bool.false_eq_true]
end PD
