/-! the reference's town -/
section PG
variable {d : Nat} {T : Nat → Nat × Nat} {L : Nat → Nat → Int64} {R : Nat → Nat → Option Nat} {z w : Nat} {J : mR} {a n i o b : Int} {t S : Int → Int}
abbrev CL : Type := Int × Int × List Int
abbrev TR : Type := Int × Option (List CL)
def tnC (r : CR) (g : Int → TR) : TR := match r.2 with
  | none => (r.1, none)
  | some c => match (g r.1).2 with
    | none => ((g r.1).1, none)
    | some cs => ((g r.1).1, some (c :: cs))
def tnR (t : Int → Int) (n : Int) : Nat → Int → TR
  | 0, j => (j, some [])
  | m + 1, j => if atP t n j = 59 then tnC (clP t n (j + 1)) (tnR t n m) else (j, some [])
def tnP (t : Int → Int) (n : Int) : TR := tnC (clP t n 0) (tnR t n 9)
def tw (r : TR) : Int := match r.2 with
  | none => 1
  | some _ => 0
def resN (a : Int) (S : Int → Int) (r : TR) (S' : Int → Int) : Prop := (∀ cs, r.2 = some cs → S' = cs.foldl (clS a) S) ∧ eqC a S S'
theorem moP_g (q : Nat) (kd : Int) (h0 : 0 ≤ i) (hi : i ≤ n) : i ≤ (moP t n q kd i).1 ∧ (moP t n q kd i).1 ≤ n := by
  obtain ⟨w1, w2, w3⟩ := wdP_g (t := t) q h0 hi
  unfold moP
  split
  · generalize (wdP t n q i).1 = j at *
    obtain ⟨u1, u2, u3, u4, u5, u6⟩ := nuP_r (t := t) (n := n) (i := j)
    split
    · exact ⟨w1, w2⟩
    rename_i cn
    have u5' := u5 (by omega)
    split
    · rename_i c32
      have hkn := atP_n c32 (by decide)
      obtain ⟨g1, g2, g3⟩ := soP_g (faP_g t n 5) ((nuP t n j).1 + 1) (by omega) (by omega)
      exact ⟨by show i ≤ (soP t n (faP t n 5) ((nuP t n j).1 + 1)).1; omega, g2⟩
    · exact ⟨by show i ≤ (nuP t n j).1; omega, by show (nuP t n j).1 ≤ n; omega⟩
  · exact ⟨w1, w2⟩
theorem tlP_g (q : Nat) (kd : Int) (h0 : 0 ≤ i) (hi : i ≤ n) : i ≤ (tlP t n q kd i).1 ∧ (tlP t n q kd i).1 ≤ n := by
  obtain ⟨w1, w2, w3⟩ := wdP_g (t := t) q h0 hi
  unfold tlP
  split
  · generalize (wdP t n q i).1 = j at *
    obtain ⟨u1, u2, u3, u4, u5, u6⟩ := nuP_r (t := t) (n := n) (i := j)
    split
    · exact ⟨w1, w2⟩
    rename_i cn
    have u5' := u5 (by omega)
    exact ⟨by show i ≤ (nuP t n j).1; omega, by show (nuP t n j).1 ≤ n; omega⟩
  · exact ⟨w1, w2⟩
theorem clP_g (h0 : 0 ≤ i) (hi : i ≤ n) : i ≤ (clP t n i).1 ∧ (clP t n i).1 ≤ n := by
  obtain ⟨w1, w2, w3⟩ := wdP_g (t := t) 12 h0 hi
  unfold clP caP
  split
  · split
    · split
      · have := tlP_g (t := t) 13 2 (i := (wdP t n 12 i).1) (by omega) w2; omega
      · have := tlP_g (t := t) 14 4 (i := (wdP t n 12 i).1) (by omega) w2; omega
    · exact ⟨w1, w2⟩
  split
  · exact moP_g _ _ h0 hi
  split
  · exact moP_g _ _ h0 hi
  split
  · exact tlP_g _ _ h0 hi
  · exact ⟨Int.le_refl _, hi⟩
theorem tw_c {j : Int} {c : CL} {g : Int → TR} : tw (tnC (j, some c) g) = tw (g j) ∧ (tnC (j, some c) g).1 = (g j).1 := by
  unfold tnC tw; simp only []
  cases (g j).2 <;> exact ⟨rfl, rfl⟩
theorem tnC_s {j k : Int} {c : CL} {cs : List CL} {g : Int → TR} (h : g j = (k, some cs)) : tnC (j, some c) g = (k, some (c :: cs)) := by unfold tnC; simp only [h]
theorem tnC_n {j k : Int} {c : CL} {g : Int → TR} (h : g j = (k, none)) : tnC (j, some c) g = (k, none) := by unfold tnC; simp only [h]
theorem to_loop (h : rM T R) (hs : sK T J) (hp : pH J a n) (hn : 0 ≤ n ∧ n ≤ 120) : ∀ (m : Nat) (j : Int) (S : Int → Int), m ≤ 9 → 0 ≤ j → j ≤ n → tX S t n → cnOk a S j → ∃ (g : Option Value) (S' : Int → Int), rn_r (d + 27) 125 122 [some (.ref 193), some (.int (iI (10 - (m : Int))))] [] (T, oI (pM J j 0 0 S), L, R, z, w) = rn_r (d + 27) 125 164 [some (.ref 193), g] [] (T, oI (pM J (tnR t n m j).1 (tw (tnR t n m j)) 0 S'), L, R, z, w) ∧ resN a S (tnR t n m j) S' := by
  intro m
  induction m with
  | zero =>
    intro j S _ h0 hj hx hc
    refine ⟨some (.int (iI 10)), S, ?_, ⟨fun cs q => (by cases q; rfl), eqC.ii⟩⟩
    simp only [tnR, tw]
    simp (disch := first | omega | exact hJ _ _ | exact rJ_g hJ _ _ | (simp (disch := omega) only [ur_r, ur_o, up_r, up_o]; omega) | assumption) only [s125_122, s125_122v, s125_123, b125_126, s125_129, s125_130, b125_132, h.t193, Int.sub_zero, kl_i, kl_r, kl_l, kl_n, kl_z, bd_s, tl_s, tl_n, ap_c, ap_n, v_s, v_n, nd_1, nd_0, ct13, eq_self, iI_add, iI_sub, iI_mul, iI_nat, iI_eq, iI_lt, iI_le, iI_eq0, iI_lt0, ↓reduceIte, if_true, if_false, not_true_eq_false, not_false_eq_true, true_and, and_true, false_and, and_false, true_or, or_true, false_or, or_false, Int.reduceLT, Int.reduceLE, Int.reduceEq, Int.reduceAdd, Int.reduceSub, Int.reduceMul, Nat.reduceAdd, Nat.reduceLT, Nat.reduceEqDiff, Int.reduceNeg, nc_s, nc_0, Int.zero_add, Int.add_zero, oI_r, oI_w, oI_f0, oI_g0, oI_f1, oI_g1, oI_f2, oI_g2, oI_f3, oI_g3, oI_f4, oI_g4, oI_f5, oI_g5, oI_f6, oI_g6, oI_f7, oI_g7, oI_f8, oI_g8, oI_f9, oI_g9, oI_f10, oI_g10, oI_f11, oI_g11, oI_f12, oI_g12, oI_f13, oI_g13, oI_f14, oI_g14, oI_f15, oI_g15, oI_f16, oI_g16, oI_f17, oI_g17, oI_f18, oI_g18, oI_f19, oI_g19, oI_f20, oI_g20, oI_f21, oI_g21, oI_f22, oI_g22, oI_f23, oI_g23, oI_f24, oI_g24, oI_f25, oI_g25, ur_r, ur_o, ur_s, up_r, up_o, up_s, jI_add, jI_sub, jI_mul, jI_neg, jI_i, jI_n, lgc_j, cj_lt, cj_ge, cj_gt, cj_le, cj_eq, oL_r, oL_w, oL_f6, oL_g6, oL_f7, oL_g7, oL_f17, oL_g17, oL_f18, oL_g18, dl_T, dl_F, de_T, de_F, dle_T, dle_F, iI_divn, rem_n, nd_v, ct_s, Bool.false_eq_true]
  | succ m ih =>
    intro j S hm h0 hj hx hc
    have hh := n_here (d := d + 26) (L := L) (z := z) (w := w) (i := j) (b := 0) (o := 0) h hp hx (by omega)
    have hr := atP_r hx h0
    simp only [tnR]
    by_cases e : atP t n j = 59
    · have hjn := atP_n e (by decide)
      rw [if_pos e]
      obtain ⟨S1, hrun1, r1, r2⟩ := n_clauseHere (d := d) (L := L) (z := z) (w := w) (t := t) h hs hp hn (j + 1) S (by omega) (by omega) hx ⟨hc.1, by have := hc.2; omega⟩
      obtain ⟨g1, g2⟩ := clP_g (t := t) (i := j + 1) (n := n) (by omega) (by omega)
      have e10 : 10 - ((m : Int) + 1) + 1 = 10 - m := by omega
      have hstep : rn_r (d + 27) 125 122 [some (.ref 193), some (.int (iI (10 - ((m + 1 : Nat) : Int))))] [] (T, oI (pM J j 0 0 S), L, R, z, w) = rn_r (d + 27) 125 122 [some (.ref 193), some (.int (iI (10 - (m : Int))))] [] (T, oI (pM J (clP t n (j + 1)).1 (cw (clP t n (j + 1))) 0 S1), L, R, z, w) := by
        refine Eq.trans ?_ (s125_161 ..)
        simp (disch := first | omega | exact hJ _ _ | exact rJ_g hJ _ _ | (simp (disch := omega) only [ur_r, ur_o, up_r, up_o]; omega) | assumption) only [s125_122, s125_122v, s125_123, b125_126, s125_129, s125_130, b125_132, s125_135, s125_135v, s125_136, s125_139, b125_141, s125_144, s125_144v, s125_145, s125_146, s125_149, s125_150, s125_151, s125_154, s125_154v, s125_155, s125_158, h.t193, hh, e, hrun1, up_c, ur_c, e10, kl_i, kl_r, kl_l, kl_n, kl_z, bd_s, tl_s, tl_n, ap_c, ap_n, v_s, v_n, nd_1, nd_0, ct13, eq_self, iI_add, iI_sub, iI_mul, iI_nat, iI_eq, iI_lt, iI_le, iI_eq0, iI_lt0, ↓reduceIte, if_true, if_false, not_true_eq_false, not_false_eq_true, true_and, and_true, false_and, and_false, true_or, or_true, false_or, or_false, Int.reduceLT, Int.reduceLE, Int.reduceEq, Int.reduceAdd, Int.reduceSub, Int.reduceMul, Nat.reduceAdd, Nat.reduceLT, Nat.reduceEqDiff, Int.reduceNeg, nc_s, nc_0, Int.zero_add, Int.add_zero, oI_r, oI_w, oI_f0, oI_g0, oI_f1, oI_g1, oI_f2, oI_g2, oI_f3, oI_g3, oI_f4, oI_g4, oI_f5, oI_g5, oI_f6, oI_g6, oI_f7, oI_g7, oI_f8, oI_g8, oI_f9, oI_g9, oI_f10, oI_g10, oI_f11, oI_g11, oI_f12, oI_g12, oI_f13, oI_g13, oI_f14, oI_g14, oI_f15, oI_g15, oI_f16, oI_g16, oI_f17, oI_g17, oI_f18, oI_g18, oI_f19, oI_g19, oI_f20, oI_g20, oI_f21, oI_g21, oI_f22, oI_g22, oI_f23, oI_g23, oI_f24, oI_g24, oI_f25, oI_g25, ur_r, ur_o, ur_s, up_r, up_o, up_s, jI_add, jI_sub, jI_mul, jI_neg, jI_i, jI_n, lgc_j, cj_lt, cj_ge, cj_gt, cj_le, cj_eq, oL_r, oL_w, oL_f6, oL_g6, oL_f7, oL_g7, oL_f17, oL_g17, oL_f18, oL_g18, dl_T, dl_F, de_T, de_F, dle_T, dle_F, iI_divn, rem_n, nd_v, ct_s, Bool.false_eq_true]
      rw [hstep]
      generalize clP t n (j + 1) = r at *
      obtain ⟨k, oc⟩ := r
      have g1 : j + 1 ≤ k := g1
      have g2 : k ≤ n := g2
      cases oc with
      | none =>
        refine ⟨some (.int (iI (10 - (m : Int)))), S1, ?_, ⟨fun cs q => (by cases q), r1.2⟩⟩
        simp only [tnC, tw, cw_n]
        simp (disch := first | omega | exact hJ _ _ | exact rJ_g hJ _ _ | (simp (disch := omega) only [ur_r, ur_o, up_r, up_o]; omega) | assumption) only [s125_122, s125_122v, s125_123, b125_126, h.t193, kl_i, kl_r, kl_l, kl_n, kl_z, bd_s, tl_s, tl_n, ap_c, ap_n, v_s, v_n, nd_1, nd_0, ct13, eq_self, iI_add, iI_sub, iI_mul, iI_nat, iI_eq, iI_lt, iI_le, iI_eq0, iI_lt0, ↓reduceIte, if_true, if_false, not_true_eq_false, not_false_eq_true, true_and, and_true, false_and, and_false, true_or, or_true, false_or, or_false, Int.reduceLT, Int.reduceLE, Int.reduceEq, Int.reduceAdd, Int.reduceSub, Int.reduceMul, Nat.reduceAdd, Nat.reduceLT, Nat.reduceEqDiff, Int.reduceNeg, nc_s, nc_0, Int.zero_add, Int.add_zero, oI_r, oI_w, oI_f0, oI_g0, oI_f1, oI_g1, oI_f2, oI_g2, oI_f3, oI_g3, oI_f4, oI_g4, oI_f5, oI_g5, oI_f6, oI_g6, oI_f7, oI_g7, oI_f8, oI_g8, oI_f9, oI_g9, oI_f10, oI_g10, oI_f11, oI_g11, oI_f12, oI_g12, oI_f13, oI_g13, oI_f14, oI_g14, oI_f15, oI_g15, oI_f16, oI_g16, oI_f17, oI_g17, oI_f18, oI_g18, oI_f19, oI_g19, oI_f20, oI_g20, oI_f21, oI_g21, oI_f22, oI_g22, oI_f23, oI_g23, oI_f24, oI_g24, oI_f25, oI_g25, ur_r, ur_o, ur_s, up_r, up_o, up_s, jI_add, jI_sub, jI_mul, jI_neg, jI_i, jI_n, lgc_j, cj_lt, cj_ge, cj_gt, cj_le, cj_eq, oL_r, oL_w, oL_f6, oL_g6, oL_f7, oL_g7, oL_f17, oL_g17, oL_f18, oL_g18, dl_T, dl_F, de_T, de_F, dle_T, dle_F, iI_divn, rem_n, nd_v, ct_s, Bool.false_eq_true]
      | some c =>
        have c1 := r2 rfl
        have ec := r1.1 c rfl
        obtain ⟨g, S2, hrun2, q1, q2⟩ := ih k S1 (by omega) (by omega) g2 (r1.2.tx hp.2.1 hn hx) c1
        refine ⟨g, S2, ?_, ⟨fun cs q => ?_, r1.2.tr q2⟩⟩
        · rw [tw_c.1, tw_c.2, cw_s]
          exact hrun2
        · generalize hz : tnR t n m k = zz at *
          obtain ⟨p, ocs⟩ := zz
          cases ocs with
          | none => rw [tnC_n hz] at q; cases q
          | some cs' =>
            rw [tnC_s hz] at q
            cases q
            rw [q1 cs' rfl, ec]
            rfl
    · rw [if_neg e]
      refine ⟨some (.int (iI (10 - ((m + 1 : Nat) : Int)))), S, ?_, ⟨fun cs q => (by cases q; rfl), eqC.ii⟩⟩
      simp only [tw]
      simp (disch := first | omega | exact hJ _ _ | exact rJ_g hJ _ _ | (simp (disch := omega) only [ur_r, ur_o, up_r, up_o]; omega) | assumption) only [s125_122, s125_122v, s125_123, b125_126, s125_129, s125_130, b125_132, s125_135, s125_135v, s125_136, s125_139, b125_141, h.t193, hh, kl_i, kl_r, kl_l, kl_n, kl_z, bd_s, tl_s, tl_n, ap_c, ap_n, v_s, v_n, nd_1, nd_0, ct13, eq_self, iI_add, iI_sub, iI_mul, iI_nat, iI_eq, iI_lt, iI_le, iI_eq0, iI_lt0, ↓reduceIte, if_true, if_false, not_true_eq_false, not_false_eq_true, true_and, and_true, false_and, and_false, true_or, or_true, false_or, or_false, Int.reduceLT, Int.reduceLE, Int.reduceEq, Int.reduceAdd, Int.reduceSub, Int.reduceMul, Nat.reduceAdd, Nat.reduceLT, Nat.reduceEqDiff, Int.reduceNeg, nc_s, nc_0, Int.zero_add, Int.add_zero, oI_r, oI_w, oI_f0, oI_g0, oI_f1, oI_g1, oI_f2, oI_g2, oI_f3, oI_g3, oI_f4, oI_g4, oI_f5, oI_g5, oI_f6, oI_g6, oI_f7, oI_g7, oI_f8, oI_g8, oI_f9, oI_g9, oI_f10, oI_g10, oI_f11, oI_g11, oI_f12, oI_g12, oI_f13, oI_g13, oI_f14, oI_g14, oI_f15, oI_g15, oI_f16, oI_g16, oI_f17, oI_g17, oI_f18, oI_g18, oI_f19, oI_g19, oI_f20, oI_g20, oI_f21, oI_g21, oI_f22, oI_g22, oI_f23, oI_g23, oI_f24, oI_g24, oI_f25, oI_g25, ur_r, ur_o, ur_s, up_r, up_o, up_s, jI_add, jI_sub, jI_mul, jI_neg, jI_i, jI_n, lgc_j, cj_lt, cj_ge, cj_gt, cj_le, cj_eq, oL_r, oL_w, oL_f6, oL_g6, oL_f7, oL_g7, oL_f17, oL_g17, oL_f18, oL_g18, dl_T, dl_F, de_T, de_F, dle_T, dle_F, iI_divn, rem_n, nd_v, ct_s, Bool.false_eq_true]
/-- the row as a town is begun -/
def beS (a : Int) (S : Int → Int) : Int → Int := up (up (up (up (up S 19 0) (220 + a) 9) (225 + a) 1) (230 + a) 2) (235 + a) 0
def townV (t : Int → Int) (n a : Int) : Int := if tw (tnP t n) = 0 then (if (tnP t n).1 = n then a else -10 - (tnP t n).1) else -10 - (tnP t n).1
def townOk (t : Int → Int) (n : Int) : Prop := tw (tnP t n) = 0 ∧ (tnP t n).1 = n
theorem tnP_g (hn : 0 ≤ n) : 0 ≤ (tnP t n).1 ∧ (tnP t n).1 ≤ n := by
  have key : ∀ m j, 0 ≤ j → j ≤ n → j ≤ (tnR t n m j).1 ∧ (tnR t n m j).1 ≤ n := by
    intro m
    induction m with
    | zero => intro j h0 hj; exact ⟨Int.le_refl _, hj⟩
    | succ m ih =>
      intro j h0 hj
      simp only [tnR]
      split
      · rename_i e
        have := atP_n e (by decide)
        obtain ⟨g1, g2⟩ := clP_g (t := t) (i := j + 1) (n := n) (by omega) (by omega)
        generalize clP t n (j + 1) = r at *
        obtain ⟨k, oc⟩ := r
        have g1 : j + 1 ≤ k := g1
        cases oc with
        | none => exact ⟨by show j ≤ k; omega, g2⟩
        | some c =>
          rw [tw_c.2]
          have := ih k (by omega) g2
          omega
      · exact ⟨Int.le_refl _, hj⟩
  unfold tnP
  obtain ⟨g1, g2⟩ := clP_g (t := t) (i := 0) (n := n) (by omega) (by omega)
  generalize clP t n 0 = r at *
  obtain ⟨k, oc⟩ := r
  have g1 : 0 ≤ k := g1
  cases oc with
  | none => exact ⟨g1, g2⟩
  | some c =>
    rw [tw_c.2]
    have := key 9 k g1 g2
    omega
theorem n_townF (h : rM T R) (h16 : J 194 16 = 5) : rn_c (d + 27) 125 [.ref 193] (T, oI J, L, R, z, w) = some (some (.int (iI (-4))), (T, oI J, L, R, z, w)) := by
  simp (disch := first | omega | exact hJ _ _ | exact rJ_g hJ _ _ | (simp (disch := omega) only [ur_r, ur_o, up_r, up_o]; omega) | assumption) only [c125, s125_0, s125_0v, s125_1, s125_4, s125_6, s125_7, b125_8, s125_11, s125_13, h.t193, h.r1, h.a194, h16, kl_i, kl_r, kl_l, kl_n, kl_z, bd_s, tl_s, tl_n, ap_c, ap_n, v_s, v_n, nd_1, nd_0, ct13, eq_self, iI_add, iI_sub, iI_mul, iI_nat, iI_eq, iI_lt, iI_le, iI_eq0, iI_lt0, ↓reduceIte, if_true, if_false, not_true_eq_false, not_false_eq_true, true_and, and_true, false_and, and_false, true_or, or_true, false_or, or_false, Int.reduceLT, Int.reduceLE, Int.reduceEq, Int.reduceAdd, Int.reduceSub, Int.reduceMul, Nat.reduceAdd, Nat.reduceLT, Nat.reduceEqDiff, Int.reduceNeg, nc_s, nc_0, Int.zero_add, Int.add_zero, oI_r, oI_w, oI_f0, oI_g0, oI_f1, oI_g1, oI_f2, oI_g2, oI_f3, oI_g3, oI_f4, oI_g4, oI_f5, oI_g5, oI_f6, oI_g6, oI_f7, oI_g7, oI_f8, oI_g8, oI_f9, oI_g9, oI_f10, oI_g10, oI_f11, oI_g11, oI_f12, oI_g12, oI_f13, oI_g13, oI_f14, oI_g14, oI_f15, oI_g15, oI_f16, oI_g16, oI_f17, oI_g17, oI_f18, oI_g18, oI_f19, oI_g19, oI_f20, oI_g20, oI_f21, oI_g21, oI_f22, oI_g22, oI_f23, oI_g23, oI_f24, oI_g24, oI_f25, oI_g25, ur_r, ur_o, ur_s, up_r, up_o, up_s, jI_add, jI_sub, jI_mul, jI_neg, jI_i, jI_n, lgc_j, cj_lt, cj_ge, cj_gt, cj_le, cj_eq, oL_r, oL_w, oL_f6, oL_g6, oL_f7, oL_g7, oL_f17, oL_g17, oL_f18, oL_g18, dl_T, dl_F, de_T, de_F, dle_T, dle_F, iI_divn, rem_n, nd_v, ct_s, Bool.false_eq_true]
theorem n_town (h : rM T R) (hs : sK T J) (hJ : rg J) (h16 : 0 ≤ J 194 16 ∧ J 194 16 ≤ 4) (h19 : 0 ≤ J 194 19 ∧ J 194 19 ≤ 120) (hx : tX (J 194) t (J 194 19)) : ∃ (X S' : Int → Int), rn_c (d + 27) 125 [.ref 193] (T, oI J, L, R, z, w) = some (some (.int (iI (townV t (J 194 19) (J 194 16)))), (T, oI (ur (ur J 193 X) 194 S'), L, R, z, w)) ∧ (∀ j, ¬ j = 5 → ¬ j = 6 → ¬ j = 7 → ¬ j = 8 → ¬ j = 9 → X j = J 193 j) ∧ (townOk t (J 194 19) → ∀ cs, (tnP t (J 194 19)).2 = some cs → S' = up (up (cs.foldl (clS (J 194 16)) (beS (J 194 16) (J 194))) 16 (J 194 16 + 1)) 20 (J 194 16)) ∧ (¬ townOk t (J 194 19) → eqC (J 194 16) (beS (J 194 16) (J 194)) S') := by
  generalize ha : J 194 16 = a at *
  generalize hn : J 194 19 = n at *
  obtain ⟨K, hK⟩ : ∃ K, K = ur J 193 (up (up (J 193) 5 a) 7 n) := ⟨_, rfl⟩
  have hpK : pH K a n := by
    rw [hK]
    refine ⟨?_, by omega, ?_, h19⟩
    · simp (disch := omega) only [ur_r, up_o, up_r]
    · simp (disch := omega) only [ur_r, up_o, up_r]
  have hsK : sK T K := hK ▸ sK_u hs (by decide)
  have hx0 : tX (beS a (J 194)) t n := by
    intro j h0 h1
    unfold beS
    simp (disch := omega) only [up_o]
    exact hx j h0 h1
  have hc0 : cnOk a (beS a (J 194)) 0 := by
    unfold cnOk beS; rw [up_r]; omega
  obtain ⟨S1, hrun1, r1, r2⟩ := n_clauseHere (d := d) (L := L) (z := z) (w := w) (t := t) h hsK hpK h19 0 (beS a (J 194)) (by omega) (by omega) hx0 hc0
  obtain ⟨g1, g2⟩ := clP_g (t := t) (i := 0) (n := n) (by omega) (by omega)
  have hmem : ur (ur J 193 (up (up (up (up (up (J 193) 5 a) 6 0) 7 n) 8 0) 9 0)) 194 (beS a (J 194)) = pM K 0 0 0 (beS a (J 194)) := by
    rw [hK]
    simp (disch := omega) only [pM, ur_r, ur_s, up_c]
  have hstart : rn_c (d + 27) 125 [.ref 193] (T, oI J, L, R, z, w) = rn_r (d + 27) 125 122 [some (.ref 193), some (.int (iI 1))] [] (T, oI (pM K (clP t n 0).1 (cw (clP t n 0)) 0 S1), L, R, z, w) := by
    rw [← hmem] at hrun1
    unfold beS at hrun1
    simp (disch := first | omega | exact hJ _ _ | exact rJ_g hJ _ _ | (simp (disch := omega) only [ur_r, ur_o, up_r, up_o]; omega) | assumption) only [c125, s125_0, s125_0v, s125_1, s125_4, s125_6, s125_7, b125_8, s125_11, s125_13, s125_14, s125_14v, s125_15, s125_15v, s125_16, s125_19, s125_21, s125_22, s125_25, s125_25v, s125_26, s125_26v, s125_27, s125_30, s125_32, s125_33, s125_36, s125_36v, s125_37, s125_40, s125_42, s125_43, s125_44, s125_44v, s125_45, s125_48, s125_51, s125_51v, s125_52, s125_55, s125_56, s125_58, s125_59, s125_59v, s125_60, s125_63, s125_66, s125_66v, s125_67, s125_70, s125_71, s125_72, s125_73, s125_73v, s125_74, s125_77, s125_80, s125_80v, s125_81, s125_84, s125_85, s125_86, s125_87, s125_87v, s125_88, s125_91, s125_94, s125_94v, s125_95, s125_98, s125_99, s125_100, s125_101, s125_101v, s125_102, s125_103, s125_106, s125_106v, s125_107, s125_108, s125_111, s125_111v, s125_112, s125_113, s125_116, s125_117, s125_118, s125_118v, s125_119, h.t193, h.r1, h.a194, h.b194, ha, hn, up_c, ur_c, hrun1, kl_i, kl_r, kl_l, kl_n, kl_z, bd_s, tl_s, tl_n, ap_c, ap_n, v_s, v_n, nd_1, nd_0, ct13, eq_self, iI_add, iI_sub, iI_mul, iI_nat, iI_eq, iI_lt, iI_le, iI_eq0, iI_lt0, ↓reduceIte, if_true, if_false, not_true_eq_false, not_false_eq_true, true_and, and_true, false_and, and_false, true_or, or_true, false_or, or_false, Int.reduceLT, Int.reduceLE, Int.reduceEq, Int.reduceAdd, Int.reduceSub, Int.reduceMul, Nat.reduceAdd, Nat.reduceLT, Nat.reduceEqDiff, Int.reduceNeg, nc_s, nc_0, Int.zero_add, Int.add_zero, oI_r, oI_w, oI_f0, oI_g0, oI_f1, oI_g1, oI_f2, oI_g2, oI_f3, oI_g3, oI_f4, oI_g4, oI_f5, oI_g5, oI_f6, oI_g6, oI_f7, oI_g7, oI_f8, oI_g8, oI_f9, oI_g9, oI_f10, oI_g10, oI_f11, oI_g11, oI_f12, oI_g12, oI_f13, oI_g13, oI_f14, oI_g14, oI_f15, oI_g15, oI_f16, oI_g16, oI_f17, oI_g17, oI_f18, oI_g18, oI_f19, oI_g19, oI_f20, oI_g20, oI_f21, oI_g21, oI_f22, oI_g22, oI_f23, oI_g23, oI_f24, oI_g24, oI_f25, oI_g25, ur_r, ur_o, ur_s, up_r, up_o, up_s, jI_add, jI_sub, jI_mul, jI_neg, jI_i, jI_n, lgc_j, cj_lt, cj_ge, cj_gt, cj_le, cj_eq, oL_r, oL_w, oL_f6, oL_g6, oL_f7, oL_g7, oL_f17, oL_g17, oL_f18, oL_g18, dl_T, dl_F, de_T, de_F, dle_T, dle_F, iI_divn, rem_n, nd_v, ct_s, Bool.false_eq_true]
  have hX (i b : Int) (S : Int → Int) : pM K i b 0 S = ur (ur J 193 (up (up (up (up (up (J 193) 5 a) 7 n) 6 i) 8 b) 9 0)) 194 S := by
    rw [hK]
    simp (disch := omega) only [pM, ur_r, ur_s]
  have hXj (i b : Int) : ∀ j, ¬ j = 5 → ¬ j = 6 → ¬ j = 7 → ¬ j = 8 → ¬ j = 9 → up (up (up (up (up (J 193) 5 a) 7 n) 6 i) 8 b) 9 0 j = J 193 j := by
    intro j h1 h2 h3 h4 h5
    rw [up_o h5, up_o h4, up_o h2, up_o h3, up_o h1]
  have h16' := hJ 194 16
  have main : ∃ (g : Option Value) (S' : Int → Int), rn_c (d + 27) 125 [.ref 193] (T, oI J, L, R, z, w) = rn_r (d + 27) 125 164 [some (.ref 193), g] [] (T, oI (pM K (tnP t n).1 (tw (tnP t n)) 0 S'), L, R, z, w) ∧ resN a (beS a (J 194)) (tnP t n) S' := by
    rw [hstart]
    unfold tnP
    generalize clP t n 0 = r at *
    obtain ⟨k, oc⟩ := r
    have g1 : 0 ≤ k := g1
    have g2 : k ≤ n := g2
    cases oc with
    | none =>
      refine ⟨some (.int (iI 1)), S1, ?_, ⟨fun cs q => (by cases q), r1.2⟩⟩
      simp only [tnC, tw, cw_n]
      simp (disch := first | omega | exact hJ _ _ | exact rJ_g hJ _ _ | (simp (disch := omega) only [ur_r, ur_o, up_r, up_o]; omega) | assumption) only [s125_122, s125_122v, s125_123, b125_126, h.t193, kl_i, kl_r, kl_l, kl_n, kl_z, bd_s, tl_s, tl_n, ap_c, ap_n, v_s, v_n, nd_1, nd_0, ct13, eq_self, iI_add, iI_sub, iI_mul, iI_nat, iI_eq, iI_lt, iI_le, iI_eq0, iI_lt0, ↓reduceIte, if_true, if_false, not_true_eq_false, not_false_eq_true, true_and, and_true, false_and, and_false, true_or, or_true, false_or, or_false, Int.reduceLT, Int.reduceLE, Int.reduceEq, Int.reduceAdd, Int.reduceSub, Int.reduceMul, Nat.reduceAdd, Nat.reduceLT, Nat.reduceEqDiff, Int.reduceNeg, nc_s, nc_0, Int.zero_add, Int.add_zero, oI_r, oI_w, oI_f0, oI_g0, oI_f1, oI_g1, oI_f2, oI_g2, oI_f3, oI_g3, oI_f4, oI_g4, oI_f5, oI_g5, oI_f6, oI_g6, oI_f7, oI_g7, oI_f8, oI_g8, oI_f9, oI_g9, oI_f10, oI_g10, oI_f11, oI_g11, oI_f12, oI_g12, oI_f13, oI_g13, oI_f14, oI_g14, oI_f15, oI_g15, oI_f16, oI_g16, oI_f17, oI_g17, oI_f18, oI_g18, oI_f19, oI_g19, oI_f20, oI_g20, oI_f21, oI_g21, oI_f22, oI_g22, oI_f23, oI_g23, oI_f24, oI_g24, oI_f25, oI_g25, ur_r, ur_o, ur_s, up_r, up_o, up_s, jI_add, jI_sub, jI_mul, jI_neg, jI_i, jI_n, lgc_j, cj_lt, cj_ge, cj_gt, cj_le, cj_eq, oL_r, oL_w, oL_f6, oL_g6, oL_f7, oL_g7, oL_f17, oL_g17, oL_f18, oL_g18, dl_T, dl_F, de_T, de_F, dle_T, dle_F, iI_divn, rem_n, nd_v, ct_s, Bool.false_eq_true]
    | some c =>
      have c1 := r2 rfl
      have ec := r1.1 c rfl
      obtain ⟨g, S2, hrun2, q1, q2⟩ := to_loop (d := d) (L := L) (z := z) (w := w) (t := t) h hsK hpK h19 9 k S1 (by omega) g1 g2 (r1.2.tx hpK.2.1 h19 hx0) c1
      refine ⟨g, S2, ?_, ⟨fun cs q => ?_, r1.2.tr q2⟩⟩
      · rw [tw_c.1, tw_c.2, cw_s]
        exact hrun2
      · generalize hz : tnR t n 9 k = zz at *
        obtain ⟨p, ocs⟩ := zz
        cases ocs with
        | none => rw [tnC_n hz] at q; cases q
        | some cs' =>
          rw [tnC_s hz] at q
          cases q
          rw [q1 cs' rfl, ec]
          rfl
  obtain ⟨g, S2, hrun2, q1, q2⟩ := main
  obtain ⟨p1, p2⟩ := tnP_g (t := t) (n := n) h19.1
  have e16 : S2 16 = a := by
    rw [q2 16 (by omega) (by omega) (by omega) (by omega) (by omega)]
    unfold beS
    simp (disch := omega) only [up_o]
    exact ha
  obtain ⟨k5, ka, k7, kn⟩ := id hpK
  unfold townV townOk
  generalize tnP t n = r at *
  by_cases c1 : tw r = 0
  · by_cases c2 : r.1 = n
    · rw [if_pos c1, if_pos c2]
      refine ⟨_, up (up S2 16 (a + 1)) 20 a, ?_, hXj r.1 0, fun _ cs hcs => by rw [q1 cs hcs], fun q => absurd ⟨c1, c2⟩ q⟩
      rw [hrun2, c1, c2, hX n 0]
      rw [hX] at *
      simp (disch := first | omega | exact hJ _ _ | exact rJ_g hJ _ _ | (simp (disch := omega) only [ur_r, ur_o, up_r, up_o]; omega) | assumption) only [s125_164, s125_164v, s125_165, b125_168, s125_171, s125_171v, s125_172, s125_175, s125_175v, s125_176, b125_179, s125_182, s125_184, s125_184v, s125_185, s125_188, s125_189, s125_190, s125_190v, s125_191, s125_194, s125_196, s125_197, s125_198, s125_199, s125_200, s125_201, s125_201v, s125_202, s125_205, s125_207, s125_207v, s125_208, s125_211, s125_212, s125_212v, s125_213, s125_216, h.t193, h.r1, h.a194, h.b194, e16, kl_i, kl_r, kl_l, kl_n, kl_z, bd_s, tl_s, tl_n, ap_c, ap_n, v_s, v_n, nd_1, nd_0, ct13, eq_self, iI_add, iI_sub, iI_mul, iI_nat, iI_eq, iI_lt, iI_le, iI_eq0, iI_lt0, ↓reduceIte, if_true, if_false, not_true_eq_false, not_false_eq_true, true_and, and_true, false_and, and_false, true_or, or_true, false_or, or_false, Int.reduceLT, Int.reduceLE, Int.reduceEq, Int.reduceAdd, Int.reduceSub, Int.reduceMul, Nat.reduceAdd, Nat.reduceLT, Nat.reduceEqDiff, Int.reduceNeg, nc_s, nc_0, Int.zero_add, Int.add_zero, oI_r, oI_w, oI_f0, oI_g0, oI_f1, oI_g1, oI_f2, oI_g2, oI_f3, oI_g3, oI_f4, oI_g4, oI_f5, oI_g5, oI_f6, oI_g6, oI_f7, oI_g7, oI_f8, oI_g8, oI_f9, oI_g9, oI_f10, oI_g10, oI_f11, oI_g11, oI_f12, oI_g12, oI_f13, oI_g13, oI_f14, oI_g14, oI_f15, oI_g15, oI_f16, oI_g16, oI_f17, oI_g17, oI_f18, oI_g18, oI_f19, oI_g19, oI_f20, oI_g20, oI_f21, oI_g21, oI_f22, oI_g22, oI_f23, oI_g23, oI_f24, oI_g24, oI_f25, oI_g25, ur_r, ur_o, ur_s, up_r, up_o, up_s, jI_add, jI_sub, jI_mul, jI_neg, jI_i, jI_n, lgc_j, cj_lt, cj_ge, cj_gt, cj_le, cj_eq, oL_r, oL_w, oL_f6, oL_g6, oL_f7, oL_g7, oL_f17, oL_g17, oL_f18, oL_g18, dl_T, dl_F, de_T, de_F, dle_T, dle_F, iI_divn, rem_n, nd_v, ct_s, Bool.false_eq_true]
    · rw [if_pos c1, if_neg c2]
      refine ⟨_, S2, ?_, hXj r.1 0, fun q => absurd q.2 c2, fun _ => q2⟩
      rw [hrun2, c1, hX r.1 0]
      simp (disch := first | omega | exact hJ _ _ | exact rJ_g hJ _ _ | (simp (disch := omega) only [ur_r, ur_o, up_r, up_o]; omega) | assumption) only [s125_164, s125_164v, s125_165, b125_168, s125_171, s125_171v, s125_172, s125_175, s125_175v, s125_176, b125_179, s125_182, s125_184, s125_184v, s125_185, s125_188, s125_189, s125_190, s125_190v, s125_191, s125_194, s125_196, s125_197, s125_198, s125_199, s125_200, s125_201, s125_201v, s125_202, s125_205, s125_207, s125_207v, s125_208, s125_211, s125_212, s125_212v, s125_213, s125_216, h.t193, h.r1, h.a194, h.b194, kl_i, kl_r, kl_l, kl_n, kl_z, bd_s, tl_s, tl_n, ap_c, ap_n, v_s, v_n, nd_1, nd_0, ct13, eq_self, iI_add, iI_sub, iI_mul, iI_nat, iI_eq, iI_lt, iI_le, iI_eq0, iI_lt0, ↓reduceIte, if_true, if_false, not_true_eq_false, not_false_eq_true, true_and, and_true, false_and, and_false, true_or, or_true, false_or, or_false, Int.reduceLT, Int.reduceLE, Int.reduceEq, Int.reduceAdd, Int.reduceSub, Int.reduceMul, Nat.reduceAdd, Nat.reduceLT, Nat.reduceEqDiff, Int.reduceNeg, nc_s, nc_0, Int.zero_add, Int.add_zero, oI_r, oI_w, oI_f0, oI_g0, oI_f1, oI_g1, oI_f2, oI_g2, oI_f3, oI_g3, oI_f4, oI_g4, oI_f5, oI_g5, oI_f6, oI_g6, oI_f7, oI_g7, oI_f8, oI_g8, oI_f9, oI_g9, oI_f10, oI_g10, oI_f11, oI_g11, oI_f12, oI_g12, oI_f13, oI_g13, oI_f14, oI_g14, oI_f15, oI_g15, oI_f16, oI_g16, oI_f17, oI_g17, oI_f18, oI_g18, oI_f19, oI_g19, oI_f20, oI_g20, oI_f21, oI_g21, oI_f22, oI_g22, oI_f23, oI_g23, oI_f24, oI_g24, oI_f25, oI_g25, ur_r, ur_o, ur_s, up_r, up_o, up_s, jI_add, jI_sub, jI_mul, jI_neg, jI_i, jI_n, lgc_j, cj_lt, cj_ge, cj_gt, cj_le, cj_eq, oL_r, oL_w, oL_f6, oL_g6, oL_f7, oL_g7, oL_f17, oL_g17, oL_f18, oL_g18, dl_T, dl_F, de_T, de_F, dle_T, dle_F, iI_divn, rem_n, nd_v, ct_s, Bool.false_eq_true]
  · rw [if_neg c1]
    have c1' : tw r = 1 := by
      unfold tw at c1 ⊢
      cases hr : r.2 with
      | none => rfl
      | some _ => rw [hr] at c1; exact absurd rfl c1
    refine ⟨_, S2, ?_, hXj r.1 1, fun q => absurd q.1 c1, fun _ => q2⟩
    rw [hrun2, c1', hX r.1 1]
    simp (disch := first | omega | exact hJ _ _ | exact rJ_g hJ _ _ | (simp (disch := omega) only [ur_r, ur_o, up_r, up_o]; omega) | assumption) only [s125_164, s125_164v, s125_165, b125_168, s125_171, s125_171v, s125_172, s125_175, s125_175v, s125_176, b125_179, s125_182, s125_184, s125_184v, s125_185, s125_188, s125_189, s125_190, s125_190v, s125_191, s125_194, s125_196, s125_197, s125_198, s125_199, s125_200, s125_201, s125_201v, s125_202, s125_205, s125_207, s125_207v, s125_208, s125_211, s125_212, s125_212v, s125_213, s125_216, h.t193, h.r1, h.a194, h.b194, kl_i, kl_r, kl_l, kl_n, kl_z, bd_s, tl_s, tl_n, ap_c, ap_n, v_s, v_n, nd_1, nd_0, ct13, eq_self, iI_add, iI_sub, iI_mul, iI_nat, iI_eq, iI_lt, iI_le, iI_eq0, iI_lt0, ↓reduceIte, if_true, if_false, not_true_eq_false, not_false_eq_true, true_and, and_true, false_and, and_false, true_or, or_true, false_or, or_false, Int.reduceLT, Int.reduceLE, Int.reduceEq, Int.reduceAdd, Int.reduceSub, Int.reduceMul, Nat.reduceAdd, Nat.reduceLT, Nat.reduceEqDiff, Int.reduceNeg, nc_s, nc_0, Int.zero_add, Int.add_zero, oI_r, oI_w, oI_f0, oI_g0, oI_f1, oI_g1, oI_f2, oI_g2, oI_f3, oI_g3, oI_f4, oI_g4, oI_f5, oI_g5, oI_f6, oI_g6, oI_f7, oI_g7, oI_f8, oI_g8, oI_f9, oI_g9, oI_f10, oI_g10, oI_f11, oI_g11, oI_f12, oI_g12, oI_f13, oI_g13, oI_f14, oI_g14, oI_f15, oI_g15, oI_f16, oI_g16, oI_f17, oI_g17, oI_f18, oI_g18, oI_f19, oI_g19, oI_f20, oI_g20, oI_f21, oI_g21, oI_f22, oI_g22, oI_f23, oI_g23, oI_f24, oI_g24, oI_f25, oI_g25, ur_r, ur_o, ur_s, up_r, up_o, up_s, jI_add, jI_sub, jI_mul, jI_neg, jI_i, jI_n, lgc_j, cj_lt, cj_ge, cj_gt, cj_le, cj_eq, oL_r, oL_w, oL_f6, oL_g6, oL_f7, oL_g7, oL_f17, oL_g17, oL_f18, oL_g18, dl_T, dl_F, de_T, de_F, dle_T, dle_F, iI_divn, rem_n, nd_v, ct_s, Bool.false_eq_true]
end PG
