/-! the class: worlds (bt .. b_and begin as rows of the kit's BITS) -/
def bt (x : Int32) (i : Nat) : Bool := x.toBitVec.getLsbD i
theorem b_ext {x y : Int32} (h : ∀ i, i < 32 → bt x i = bt y i) : x = y := Int32.toBitVec_inj.mp (BitVec.eq_of_getLsbD_eq (fun i hi => h i hi))
theorem b_or (x y : Int32) (i : Nat) : bt (x ||| y) i = (bt x i || bt y i) := by unfold bt; rw [Int32.toBitVec_or, BitVec.getLsbD_or]
theorem b_and (x y : Int32) (i : Nat) : bt (x &&& y) i = (bt x i && bt y i) := by unfold bt; rw [Int32.toBitVec_and, BitVec.getLsbD_and]

theorem sh1_16 : ∀ x : Nat, x < 16 → ∀ y : Nat, y < 16 → ¬ x = y → ((iI 1 <<< (iI (x : Int) &&& 31)) &&& (iI 1 <<< (iI (y : Int) &&& 31))) = iI 0 := by decide +kernel
theorem sh1_nz : ∀ x : Nat, x < 16 → ¬ (iI 1 <<< (iI (x : Int) &&& 31)) = iI 0 := by decide +kernel
theorem bits_or (s : Int32) (x y : Nat) (hx : x < 16) (hy : y < 16) : ((s ||| (iI 1 <<< (iI (x : Int) &&& 31))) &&& (iI 1 <<< (iI (y : Int) &&& 31)) = iI 0) ↔ (s &&& (iI 1 <<< (iI (y : Int) &&& 31)) = iI 0 ∧ ¬ x = y) := by
  have hd : ∀ m n : Int32, (s ||| m) &&& n = (s &&& n) ||| (m &&& n) := by
    intro m n
    apply b_ext
    intro i _
    simp only [b_or, b_and]
    cases bt s i <;> cases bt m i <;> cases bt n i <;> rfl
  have h0 : ∀ m : Int32, m ||| iI 0 = m := by
    intro m
    apply b_ext
    intro i hi
    have : bt (iI 0) i = false := by
      have : ∀ i, i < 32 → bt (iI 0) i = false := by decide
      exact this i hi
    rw [b_or, this, Bool.or_false]
  rw [hd]
  by_cases e : x = y
  · subst e
    constructor
    · intro h
      exfalso
      apply sh1_nz x hx
      apply b_ext
      intro i hi
      have hb := congrArg (fun q => bt q i) h
      simp only [b_or, b_and] at hb
      cases hm : bt (iI 1 <<< (iI (x : Int) &&& 31)) i
      · have : bt (iI 0) i = false := by
          have : ∀ i, i < 32 → bt (iI 0) i = false := by decide
          exact this i hi
        rw [this]
      · rw [hm] at hb
        simp only [Bool.and_true, Bool.or_true] at hb
        exact hb
    · intro h; exact absurd rfl h.2
  · rw [sh1_16 x hx y hy e, h0]
    exact ⟨fun h => ⟨h, e⟩, fun h => h.1⟩
/-- a world's cells -/
def wc (T : Nat → Nat × Nat) (R : Nat → Nat → Option Nat) (a : Nat) : Prop := T a = (11, 0) ∧ T (a + 1) = (20, 4) ∧ T (a + 2) = (20, 6) ∧ T (a + 3) = (20, 4) ∧ R a 0 = some (a + 1) ∧ R a 1 = some (a + 2) ∧ R a 7 = some (a + 3)
section WC
variable {T : Nat → Nat × Nat} {R : Nat → Nat → Option Nat} {a : Nat}
theorem wc.t0 (h : wc T R a) : T a = (11, 0) := h.1
theorem wc.r0 (h : wc T R a) : R a 0 = some (a + 1) := h.2.2.2.2.1
theorem wc.r1 (h : wc T R a) : R a 1 = some (a + 2) := h.2.2.2.2.2.1
theorem wc.r7 (h : wc T R a) : R a 7 = some (a + 3) := h.2.2.2.2.2.2
theorem wc.a1 (h : wc T R a) (z : Int) (hz : 0 ≤ z ∧ z < 4) : am_arr T [20, 30] (a + 1) (iI z) = true := ar_ok h.2.1 rfl (by decide) hz
theorem wc.b1 (h : wc T R a) (z : Int) (hz : 0 ≤ z ∧ z < 4) : am_arr T [20] (a + 1) (iI z) = true := ar_ok h.2.1 rfl (by decide) hz
theorem wc.a2 (h : wc T R a) (z : Int) (hz : 0 ≤ z ∧ z < 6) : am_arr T [20, 30] (a + 2) (iI z) = true := ar_ok h.2.2.1 rfl (by decide) hz
theorem wc.b2 (h : wc T R a) (z : Int) (hz : 0 ≤ z ∧ z < 6) : am_arr T [20] (a + 2) (iI z) = true := ar_ok h.2.2.1 rfl (by decide) hz
theorem wc.a3 (h : wc T R a) (z : Int) (hz : 0 ≤ z ∧ z < 4) : am_arr T [20, 30] (a + 3) (iI z) = true := ar_ok h.2.2.2.1 rfl (by decide) hz
theorem wc.b3 (h : wc T R a) (z : Int) (hz : 0 ≤ z ∧ z < 4) : am_arr T [20] (a + 3) (iI z) = true := ar_ok h.2.2.2.1 rfl (by decide) hz
end WC
section WO
variable {d : Nat} {T : Nat → Nat × Nat} {L : Nat → Nat → Int64} {R : Nat → Nat → Option Nat} {z w : Nat} {J : mR} {a c : Nat}
def fgV (V : Int → Int) : Int → Int := up (up (up V 4 0) 5 0) 6 0
theorem w_forget (h : wc T R a) : rn_c d 54 [.ref a] (T, oI J, L, R, z, w) = some (none, (T, oI (ur J a (fgV (J a))), L, R, z, w)) := by
  unfold fgV
  simp (disch := first | omega | exact hJ _ _ | exact rJ_g hJ _ _ | (simp (disch := omega) only [ur_r, ur_o, up_r, up_o]; omega) | assumption) only [c54, s54_0, s54_0v, s54_1, s54_2, s54_5, s54_5v, s54_6, s54_7, s54_10, s54_10v, s54_11, s54_12, s54_15, h.t0, kl_i, kl_r, kl_l, kl_n, kl_z, bd_s, tl_s, tl_n, ap_c, ap_n, v_s, v_n, nd_1, nd_0, ct13, eq_self, iI_add, iI_sub, iI_mul, iI_nat, iI_eq, iI_lt, iI_le, iI_eq0, iI_lt0, ↓reduceIte, if_true, if_false, not_true_eq_false, not_false_eq_true, true_and, and_true, false_and, and_false, true_or, or_true, false_or, or_false, Int.reduceLT, Int.reduceLE, Int.reduceEq, Int.reduceAdd, Int.reduceSub, Int.reduceMul, Nat.reduceAdd, Nat.reduceLT, Nat.reduceEqDiff, Int.reduceNeg, nc_s, nc_0, Int.zero_add, Int.add_zero, oI_r, oI_w, oI_f0, oI_g0, oI_f1, oI_g1, oI_f2, oI_g2, oI_f3, oI_g3, oI_f4, oI_g4, oI_f5, oI_g5, oI_f6, oI_g6, oI_f7, oI_g7, oI_f8, oI_g8, oI_f9, oI_g9, oI_f10, oI_g10, oI_f11, oI_g11, oI_f12, oI_g12, oI_f13, oI_g13, oI_f14, oI_g14, oI_f15, oI_g15, oI_f16, oI_g16, oI_f17, oI_g17, oI_f18, oI_g18, oI_f19, oI_g19, oI_f20, oI_g20, oI_f21, oI_g21, oI_f22, oI_g22, oI_f23, oI_g23, oI_f24, oI_g24, oI_f25, oI_g25, ur_r, ur_o, ur_s, up_r, up_o, up_s, jI_add, jI_sub, jI_mul, jI_neg, jI_i, jI_n, lgc_j, cj_lt, cj_ge, cj_gt, cj_le, cj_eq, oL_r, oL_w, oL_f6, oL_g6, oL_f7, oL_g7, oL_f17, oL_g17, oL_f18, oL_g18, dl_T, dl_F, de_T, de_F, dle_T, dle_F, iI_divn, rem_n, nd_v, ct_s, Bool.false_eq_true]
theorem w_lay (h : wc T R a) (s0 s1 s2 s3 : Int) : rn_c d 55 [.ref a, .int (iI s0), .int (iI s1), .int (iI s2), .int (iI s3)] (T, oI J, L, R, z, w) = some (none, (T, oI (ur J (a + 1) (s4 (J (a + 1)) s0 s1 s2 s3)), L, R, z, w)) := by
  unfold s4
  simp (disch := first | omega | exact hJ _ _ | exact rJ_g hJ _ _ | (simp (disch := omega) only [ur_r, ur_o, up_r, up_o]; omega) | assumption) only [c55, s55_0, s55_0v, s55_1, s55_4, s55_5, s55_6, s55_7, s55_7v, s55_8, s55_11, s55_12, s55_13, s55_14, s55_14v, s55_15, s55_18, s55_19, s55_20, s55_21, s55_21v, s55_22, s55_25, s55_26, s55_28, s55_29, h.t0, h.r0, h.b1, kl_i, kl_r, kl_l, kl_n, kl_z, bd_s, tl_s, tl_n, ap_c, ap_n, v_s, v_n, nd_1, nd_0, ct13, eq_self, iI_add, iI_sub, iI_mul, iI_nat, iI_eq, iI_lt, iI_le, iI_eq0, iI_lt0, ↓reduceIte, if_true, if_false, not_true_eq_false, not_false_eq_true, true_and, and_true, false_and, and_false, true_or, or_true, false_or, or_false, Int.reduceLT, Int.reduceLE, Int.reduceEq, Int.reduceAdd, Int.reduceSub, Int.reduceMul, Nat.reduceAdd, Nat.reduceLT, Nat.reduceEqDiff, Int.reduceNeg, nc_s, nc_0, Int.zero_add, Int.add_zero, oI_r, oI_w, oI_f0, oI_g0, oI_f1, oI_g1, oI_f2, oI_g2, oI_f3, oI_g3, oI_f4, oI_g4, oI_f5, oI_g5, oI_f6, oI_g6, oI_f7, oI_g7, oI_f8, oI_g8, oI_f9, oI_g9, oI_f10, oI_g10, oI_f11, oI_g11, oI_f12, oI_g12, oI_f13, oI_g13, oI_f14, oI_g14, oI_f15, oI_g15, oI_f16, oI_g16, oI_f17, oI_g17, oI_f18, oI_g18, oI_f19, oI_g19, oI_f20, oI_g20, oI_f21, oI_g21, oI_f22, oI_g22, oI_f23, oI_g23, oI_f24, oI_g24, oI_f25, oI_g25, ur_r, ur_o, ur_s, up_r, up_o, up_s, jI_add, jI_sub, jI_mul, jI_neg, jI_i, jI_n, lgc_j, cj_lt, cj_ge, cj_gt, cj_le, cj_eq, oL_r, oL_w, oL_f6, oL_g6, oL_f7, oL_g7, oL_f17, oL_g17, oL_f18, oL_g18, dl_T, dl_F, de_T, de_F, dle_T, dle_F, iI_divn, rem_n, nd_v, ct_s, Bool.false_eq_true]
theorem w_inAll (h : wc T R a) : rn_c d 56 [.ref a] (T, oI J, L, R, z, w) = some (some (.int (iI (umS (J (a + 1))))), (T, oI J, L, R, z, w)) := by
  unfold umS
  simp (disch := first | omega | exact hJ _ _ | exact rJ_g hJ _ _ | (simp (disch := omega) only [ur_r, ur_o, up_r, up_o]; omega) | assumption) only [c56, s56_0, s56_0v, s56_1, s56_4, s56_5, s56_6, s56_6v, s56_7, s56_10, s56_11, s56_12, s56_13, s56_13v, s56_14, s56_17, s56_18, s56_19, s56_20, s56_20v, s56_21, s56_24, s56_25, s56_26, s56_27, h.t0, h.r0, h.a1, kl_i, kl_r, kl_l, kl_n, kl_z, bd_s, tl_s, tl_n, ap_c, ap_n, v_s, v_n, nd_1, nd_0, ct13, eq_self, iI_add, iI_sub, iI_mul, iI_nat, iI_eq, iI_lt, iI_le, iI_eq0, iI_lt0, ↓reduceIte, if_true, if_false, not_true_eq_false, not_false_eq_true, true_and, and_true, false_and, and_false, true_or, or_true, false_or, or_false, Int.reduceLT, Int.reduceLE, Int.reduceEq, Int.reduceAdd, Int.reduceSub, Int.reduceMul, Nat.reduceAdd, Nat.reduceLT, Nat.reduceEqDiff, Int.reduceNeg, nc_s, nc_0, Int.zero_add, Int.add_zero, oI_r, oI_w, oI_f0, oI_g0, oI_f1, oI_g1, oI_f2, oI_g2, oI_f3, oI_g3, oI_f4, oI_g4, oI_f5, oI_g5, oI_f6, oI_g6, oI_f7, oI_g7, oI_f8, oI_g8, oI_f9, oI_g9, oI_f10, oI_g10, oI_f11, oI_g11, oI_f12, oI_g12, oI_f13, oI_g13, oI_f14, oI_g14, oI_f15, oI_g15, oI_f16, oI_g16, oI_f17, oI_g17, oI_f18, oI_g18, oI_f19, oI_g19, oI_f20, oI_g20, oI_f21, oI_g21, oI_f22, oI_g22, oI_f23, oI_g23, oI_f24, oI_g24, oI_f25, oI_g25, ur_r, ur_o, ur_s, up_r, up_o, up_s, jI_add, jI_sub, jI_mul, jI_neg, jI_i, jI_n, lgc_j, cj_lt, cj_ge, cj_gt, cj_le, cj_eq, oL_r, oL_w, oL_f6, oL_g6, oL_f7, oL_g7, oL_f17, oL_g17, oL_f18, oL_g18, dl_T, dl_F, de_T, de_F, dle_T, dle_F, iI_divn, rem_n, nd_v, ct_s, Bool.false_eq_true]
/-- a world copied from another -/
def wcp (J : mR) (a c : Nat) : mR := ur (ur (ur J a (up (up (up (up (up (J a) 2 (J c 2)) 3 (J c 3)) 4 (J c 4)) 5 (J c 5)) 6 (J c 6))) (a + 1) (cp9 (J (a + 1)) (J (c + 1)) 4)) (a + 2) (cp9 (J (a + 2)) (J (c + 2)) 6)
theorem w_copy (h : wc T R a) (g : wc T R c) (hac : a + 3 < c ∨ c + 3 < a) : rn_c d 53 [.ref a, .ref c] (T, oI J, L, R, z, w) = some (none, (T, oI (wcp J a c), L, R, z, w)) := by
  have e1 : cp9 (J (a + 1)) (J (c + 1)) 4 = up (up (up (up (J (a + 1)) 0 (J (c + 1) 0)) 1 (J (c + 1) 1)) 2 (J (c + 1) 2)) 3 (J (c + 1) 3) := by
    have := cp9_0 (J (a + 1)) (J (c + 1))
    have k0 := cp9_s (J (a + 1)) (J (c + 1)) 0 (by omega)
    have k1 := cp9_s (J (a + 1)) (J (c + 1)) (0 + 1) (by omega)
    have k2 := cp9_s (J (a + 1)) (J (c + 1)) (0 + 1 + 1) (by omega)
    have k3 := cp9_s (J (a + 1)) (J (c + 1)) (0 + 1 + 1 + 1) (by omega)
    rw [show (4 : Int) = 0 + 1 + 1 + 1 + 1 from rfl, ← k3, ← k2, ← k1, ← k0, this]
    rfl
  have e2 : cp9 (J (a + 2)) (J (c + 2)) 6 = up (up (up (up (up (up (J (a + 2)) 0 (J (c + 2) 0)) 1 (J (c + 2) 1)) 2 (J (c + 2) 2)) 3 (J (c + 2) 3)) 4 (J (c + 2) 4)) 5 (J (c + 2) 5) := by
    have := cp9_0 (J (a + 2)) (J (c + 2))
    have k0 := cp9_s (J (a + 2)) (J (c + 2)) 0 (by omega)
    have k1 := cp9_s (J (a + 2)) (J (c + 2)) (0 + 1) (by omega)
    have k2 := cp9_s (J (a + 2)) (J (c + 2)) (0 + 1 + 1) (by omega)
    have k3 := cp9_s (J (a + 2)) (J (c + 2)) (0 + 1 + 1 + 1) (by omega)
    have k4 := cp9_s (J (a + 2)) (J (c + 2)) (0 + 1 + 1 + 1 + 1) (by omega)
    have k5 := cp9_s (J (a + 2)) (J (c + 2)) (0 + 1 + 1 + 1 + 1 + 1) (by omega)
    rw [show (6 : Int) = 0 + 1 + 1 + 1 + 1 + 1 + 1 from rfl, ← k5, ← k4, ← k3, ← k2, ← k1, ← k0, this]
    rfl
  unfold wcp
  rw [e1, e2]
  simp (disch := first | omega | exact hJ _ _ | exact rJ_g hJ _ _ | (simp (disch := omega) only [ur_r, ur_o, up_r, up_o]; omega) | assumption) only [c53, s53_0, s53_1, s53_2, s53_3, b53_4, s53_7, s53_7v, s53_8, s53_11, s53_12, s53_12v, s53_13, s53_16, s53_17, s53_18, s53_19, s53_22, s53_25, s53_26, s53_27, s53_28, b53_30, s53_33, s53_33v, s53_34, s53_37, s53_38, s53_38v, s53_39, s53_42, s53_43, s53_44, s53_45, s53_48, s53_51, s53_51v, s53_52, s53_52v, s53_53, s53_56, s53_59, s53_59v, s53_60, s53_60v, s53_61, s53_64, s53_67, s53_67v, s53_68, s53_68v, s53_69, s53_72, s53_75, s53_75v, s53_76, s53_76v, s53_77, s53_80, s53_83, s53_83v, s53_84, s53_84v, s53_85, s53_88, s53_91, h.t0, h.r0, h.r1, h.a1, h.b1, h.a2, h.b2, g.t0, g.r0, g.r1, g.a1, g.a2, ur_c, kl_i, kl_r, kl_l, kl_n, kl_z, bd_s, tl_s, tl_n, ap_c, ap_n, v_s, v_n, nd_1, nd_0, ct13, eq_self, iI_add, iI_sub, iI_mul, iI_nat, iI_eq, iI_lt, iI_le, iI_eq0, iI_lt0, ↓reduceIte, if_true, if_false, not_true_eq_false, not_false_eq_true, true_and, and_true, false_and, and_false, true_or, or_true, false_or, or_false, Int.reduceLT, Int.reduceLE, Int.reduceEq, Int.reduceAdd, Int.reduceSub, Int.reduceMul, Nat.reduceAdd, Nat.reduceLT, Nat.reduceEqDiff, Int.reduceNeg, nc_s, nc_0, Int.zero_add, Int.add_zero, oI_r, oI_w, oI_f0, oI_g0, oI_f1, oI_g1, oI_f2, oI_g2, oI_f3, oI_g3, oI_f4, oI_g4, oI_f5, oI_g5, oI_f6, oI_g6, oI_f7, oI_g7, oI_f8, oI_g8, oI_f9, oI_g9, oI_f10, oI_g10, oI_f11, oI_g11, oI_f12, oI_g12, oI_f13, oI_g13, oI_f14, oI_g14, oI_f15, oI_g15, oI_f16, oI_g16, oI_f17, oI_g17, oI_f18, oI_g18, oI_f19, oI_g19, oI_f20, oI_g20, oI_f21, oI_g21, oI_f22, oI_g22, oI_f23, oI_g23, oI_f24, oI_g24, oI_f25, oI_g25, ur_r, ur_o, ur_s, up_r, up_o, up_s, jI_add, jI_sub, jI_mul, jI_neg, jI_i, jI_n, lgc_j, cj_lt, cj_ge, cj_gt, cj_le, cj_eq, oL_r, oL_w, oL_f6, oL_g6, oL_f7, oL_g7, oL_f17, oL_g17, oL_f18, oL_g18, dl_T, dl_F, de_T, de_F, dle_T, dle_F, iI_divn, rem_n, nd_v, ct_s, Bool.false_eq_true]
end WO
