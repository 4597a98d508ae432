/-! the two objects are made -/
section VB
variable {d : Nat} {T T0 : Nat → Nat × Nat} {L : Nat → Nat → Int64} {R R0 : Nat → Nat → Option Nat} {z w : Nat} {J : mR}
theorem i_trace (hT : T z = (9, 0)) (hJ : J z = z0) : rn_c (d + 1) 43 [.ref z] (T, oI J, L, R, z + 1, w) = some (none, (am_tu T (z + 1) (20, 20), oI J, L, am_u R z 0 (some (z + 1)), z + 2, w + 20)) := by
  have m20 : Int.toNat 20 = 20 := rfl
  have e := ur_z hJ
  simp (disch := first | omega | exact hJ _ _ | exact rJ_g hJ _ _ | (simp (disch := omega) only [ur_r, ur_o, up_r, up_o]; omega) | assumption) only [c43, s43_0, s43_0v, s43_1, s43_4, s43_4v, s43_5, s43_7, s43_9, s43_9n, s43_12, s43_12v, s43_13, s43_14, s43_17, hT, hJ, up_z, e, tu_r, tu_o, m20, Nat.add_assoc, Nat.reduceLeDiff, List.contains_cons, List.contains_nil, beq_self_eq_true, Bool.or_false, up_c, kl_i, kl_r, kl_l, kl_n, kl_z, bd_s, tl_s, tl_n, ap_c, ap_n, v_s, v_n, nd_1, nd_0, ct13, eq_self, iI_add, iI_sub, iI_mul, iI_nat, iI_eq, iI_lt, iI_le, iI_eq0, iI_lt0, ↓reduceIte, if_true, if_false, not_true_eq_false, not_false_eq_true, true_and, and_true, false_and, and_false, true_or, or_true, false_or, or_false, Int.reduceLT, Int.reduceLE, Int.reduceEq, Int.reduceAdd, Int.reduceSub, Int.reduceMul, Nat.reduceAdd, Nat.reduceLT, Nat.reduceEqDiff, Int.reduceNeg, nc_s, nc_0, Int.zero_add, Int.add_zero, oI_r, oI_w, oI_f0, oI_g0, oI_f1, oI_g1, oI_f2, oI_g2, oI_f3, oI_g3, oI_f4, oI_g4, oI_f5, oI_g5, oI_f6, oI_g6, oI_f7, oI_g7, oI_f8, oI_g8, oI_f9, oI_g9, oI_f10, oI_g10, oI_f11, oI_g11, oI_f12, oI_g12, oI_f13, oI_g13, oI_f14, oI_g14, oI_f15, oI_g15, oI_f16, oI_g16, oI_f17, oI_g17, oI_f18, oI_g18, oI_f19, oI_g19, oI_f20, oI_g20, oI_f21, oI_g21, oI_f22, oI_g22, oI_f23, oI_g23, oI_f24, oI_g24, oI_f25, oI_g25, ur_r, ur_o, ur_s, up_r, up_o, up_s, jI_add, jI_sub, jI_mul, jI_neg, jI_i, jI_n, lgc_j, cj_lt, cj_ge, cj_gt, cj_le, cj_eq, oL_r, oL_w, oL_f6, oL_g6, oL_f7, oL_g7, oL_f17, oL_g17, oL_f18, oL_g18, dl_T, dl_F, de_T, de_F, dle_T, dle_F, iI_divn, rem_n, nd_v, ct_s, Bool.false_eq_true]
def cT1 (T : Nat → Nat × Nat) : Nat → Nat × Nat := am_tu (am_tu (am_tu (am_tu (sT 119 (am_tu (sT 101 (am_tu T 101 (7, 0))) 119 (7, 0))) 137 (9, 0)) 138 (20, 20)) 139 (24, 13)) 140 (21, 4)
def cR1 (R : Nat → Nat → Option Nat) : Nat → Nat → Option Nat := am_u (am_u (am_u (am_u (am_u (sR 119 (am_u (sR 101 R) 100 0 (some 101))) 100 1 (some 119)) 137 0 (some 138)) 100 3 (some 137)) 100 4 (some 139)) 100 5 (some 140)
def cJ1 (J : mR) : mR := ur (ur (ur J 100 (up z0 8 (-5))) 108 (inV z0)) 126 (inV z0)
theorem c_init1 (hT : T 100 = (12, 0)) (hJ : ∀ b, 100 ≤ b → J b = z0) : rn_c (d + 5) 62 [.ref 100] (T, oI J, L, R, 101, w) = rn_r (d + 5) 62 76 [some (.ref 100), some (.int (iI 0))] [] (cT1 T, oI (cJ1 J), am_u (am_u L 100 6 (jI 0)) 100 7 (jI 0), cR1 R, 141, w + 889) := by
  have m13 : Int.toNat 13 = 13 := rfl
  have m4 : Int.toNat 4 = 4 := rfl
  have h100 := hJ 100 (by omega)
  have e := ur_z h100
  have s1 := fun w => i_state (d := d + 1) (T := am_tu T 101 (7, 0)) (J := J) (L := L) (R := R) (z := 101) (w := w) tu_r (fun b hb => hJ b (by omega))
  have s2 := fun (T : Nat → Nat × Nat) (R : Nat → Nat → Option Nat) w => i_state (d := d + 1) (T := am_tu T 119 (7, 0)) (J := ur J 108 (inV z0)) (L := L) (R := R) (z := 119) (w := w) tu_r (fun b hb => by rw [ur_o (by omega)]; exact hJ b (by omega))
  have s3 := fun (T : Nat → Nat × Nat) (R : Nat → Nat → Option Nat) w => i_trace (d := d + 3) (T := am_tu T 137 (9, 0)) (J := ur (ur J 108 (inV z0)) 126 (inV z0)) (L := L) (R := R) (z := 137) (w := w) tu_r (by rw [ur_o (by omega), ur_o (by omega)]; exact hJ 137 (by omega))
  simp only [Nat.reduceAdd] at s1 s2 s3
  unfold cT1 cR1 cJ1
  simp (disch := first | omega | exact hJ _ _ | exact rJ_g hJ _ _ | (simp (disch := omega) only [ur_r, ur_o, up_r, up_o]; omega) | assumption) only [c62, s62_0, s62_0v, s62_1, s62_4, s62_4v, s62_5, s62_8, s62_9, s62_12, s62_12n, s62_15, s62_15v, s62_16, s62_19, s62_20, s62_23, s62_23n, s62_26, s62_26v, s62_27, s62_28, s62_31, s62_31v, s62_32, s62_35, s62_36, s62_39, s62_39n, s62_42, s62_42v, s62_43, s62_45, s62_48, s62_48n, s62_51, s62_51v, s62_52, s62_53, s62_55, s62_55n, s62_58, s62_58v, s62_59, s62_60, s62_63, s62_63v, s62_64, s62_65, s62_68, s62_68v, s62_69, s62_71, s62_74, s62_75, hT, h100, up_z, e, s1, s2, s3, sT_o, tu_r, tu_o, m13, m4, Nat.add_assoc, Nat.reduceLeDiff, List.contains_cons, List.contains_nil, beq_self_eq_true, Bool.or_false, up_c, ur_c, kl_i, kl_r, kl_l, kl_n, kl_z, bd_s, tl_s, tl_n, ap_c, ap_n, v_s, v_n, nd_1, nd_0, ct13, eq_self, iI_add, iI_sub, iI_mul, iI_nat, iI_eq, iI_lt, iI_le, iI_eq0, iI_lt0, ↓reduceIte, if_true, if_false, not_true_eq_false, not_false_eq_true, true_and, and_true, false_and, and_false, true_or, or_true, false_or, or_false, Int.reduceLT, Int.reduceLE, Int.reduceEq, Int.reduceAdd, Int.reduceSub, Int.reduceMul, Nat.reduceAdd, Nat.reduceLT, Nat.reduceEqDiff, Int.reduceNeg, nc_s, nc_0, Int.zero_add, Int.add_zero, oI_r, oI_w, oI_f0, oI_g0, oI_f1, oI_g1, oI_f2, oI_g2, oI_f3, oI_g3, oI_f4, oI_g4, oI_f5, oI_g5, oI_f6, oI_g6, oI_f7, oI_g7, oI_f8, oI_g8, oI_f9, oI_g9, oI_f10, oI_g10, oI_f11, oI_g11, oI_f12, oI_g12, oI_f13, oI_g13, oI_f14, oI_g14, oI_f15, oI_g15, oI_f16, oI_g16, oI_f17, oI_g17, oI_f18, oI_g18, oI_f19, oI_g19, oI_f20, oI_g20, oI_f21, oI_g21, oI_f22, oI_g22, oI_f23, oI_g23, oI_f24, oI_g24, oI_f25, oI_g25, ur_r, ur_o, ur_s, up_r, up_o, up_s, jI_add, jI_sub, jI_mul, jI_neg, jI_i, jI_n, lgc_j, cj_lt, cj_ge, cj_gt, cj_le, cj_eq, oL_r, oL_w, oL_f6, oL_g6, oL_f7, oL_g7, oL_f17, oL_g17, oL_f18, oL_g18, dl_T, dl_F, de_T, de_F, dle_T, dle_F, iI_divn, rem_n, nd_v, ct_s, Bool.false_eq_true]
theorem c_init (hT : T 100 = (12, 0)) (hJ : ∀ b, 100 ≤ b → J b = z0) (hR : ∀ b j, 100 ≤ b → R b j = none) : ∃ (T' : Nat → Nat × Nat) (R' : Nat → Nat → Option Nat) (L' : Nat → Nat → Int64), rn_c (d + 5) 62 [.ref 100] (T, oI J, L, R, 101, w) = some (none, (T', oI (cJ1 J), L', R', 193, w + 1188)) ∧ cM T' R' ∧ tc T' R' 108 ∧ R' 101 4 = some 108 ∧ (∀ k, R' 106 k = none) ∧ (∀ k, R' 124 k = none) ∧ (∀ b, (b < 100 ∨ 193 ≤ b) → T' b = T b) ∧ (∀ b j, 193 ≤ b → R' b j = none) := by
  have t100 : cT1 T 100 = (12, 0) := by unfold cT1; simp (disch := omega) only [tu_r, tu_o, sT_o]; exact hT
  have r100 : cR1 R 100 4 = some 139 := by unfold cR1; rw [am_u_o (by omega), am_u_r]
  have t139 : cT1 T 139 = (24, 13) := by unfold cT1; simp (disch := omega) only [tu_r, tu_o]
  obtain ⟨T', R', run, f1, f2, f3, f4⟩ := i_loop (d := d + 3) (J := cJ1 J) (L := am_u (am_u L 100 6 (jI 0)) 100 7 (jI 0)) 13 0 (by omega) (cT1 T) (cR1 R) (w + 889) t100 r100 t139 (fun b hb => by unfold cJ1; rw [ur_o (by omega), ur_o (by omega), ur_o (by omega)]; exact hJ b (by omega))
  have t := fun b (hb : b < 141) => f1 b (by omega)
  have r := fun b j (hb : b < 141) (h9 : ¬ b = 139) => f2 b j (by omega) (by omega)
  have y1 : ∀ b, 101 ≤ b → b < 119 → T' b = sT 101 (am_tu T 101 (7, 0)) b := by
    intro b b1 b2
    rw [t b (by omega)]
    unfold cT1
    rw [tu_o (by omega), tu_o (by omega), tu_o (by omega), tu_o (by omega), sT_o (by omega), tu_o (by omega)]
  have y2 : ∀ b, 119 ≤ b → b < 137 → T' b = sT 119 (am_tu (sT 101 (am_tu T 101 (7, 0))) 119 (7, 0)) b := by
    intro b b1 b2
    rw [t b (by omega)]
    unfold cT1
    rw [tu_o (by omega), tu_o (by omega), tu_o (by omega), tu_o (by omega)]
  have x1 : ∀ b j, 101 ≤ b → b < 119 → R' b j = sR 101 R b j := by
    intro b j b1 b2
    rw [r b j (by omega) (by omega)]
    unfold cR1
    rw [am_u_o (by omega), am_u_o (by omega), am_u_o (by omega), am_u_o (by omega), am_u_o (by omega), sR_o (by omega) (by omega) (by omega), am_u_o (by omega)]
  have x2 : ∀ b j, 119 ≤ b → b < 137 → R' b j = sR 119 (am_u (sR 101 R) 100 0 (some 101)) b j := by
    intro b j b1 b2
    rw [r b j (by omega) (by omega)]
    unfold cR1
    rw [am_u_o (by omega), am_u_o (by omega), am_u_o (by omega), am_u_o (by omega), am_u_o (by omega)]
  obtain ⟨a1, a2, a3⟩ := sT_s (T := am_tu T 101 (7, 0)) (R := R) (z := 101) tu_r
  obtain ⟨b1, b2, b3⟩ := sT_s (T := am_tu (sT 101 (am_tu T 101 (7, 0))) 119 (7, 0)) (R := am_u (sR 101 R) 100 0 (some 101)) (z := 119) tu_r
  have sA : stc T' R' 101 := stc_e a1 (fun b h1 h2 => y1 b h1 (by omega)) (fun b j h1 h2 => x1 b j h1 (by omega))
  have sB : stc T' R' 119 := stc_e b1 (fun b h1 h2 => y2 b h1 (by omega)) (fun b j h1 h2 => x2 b j h1 (by omega))
  have q : ∀ j, R' 100 j = cR1 R 100 j := fun j => r 100 j (by omega) (by omega)
  refine ⟨T', R', am_u (am_u L 100 6 (jI 0)) 100 7 (jI 0), ?_, ⟨(t 100 (by omega)).trans t100, sA.t0, sB.t0, ?_, ?_, ?_, ?_, sA.t5, sA.t6, sA.t14, sA.t15, sA.t16, sA.t17, sA.r0, sA.r1, sA.r2, sA.r6, sA.r8, sA.r10, sA.r11, sB.t5, sB.t6, sB.t14, sB.t15, sB.t16, sB.t17, sB.r0, sB.r1, sB.r2, sB.r6, sB.r8, sB.r10, sB.r11, ?_, ?_, ?_, ?_, ?_, ?_, sA.wd, sB.wd, fun k hk => f3 k (by omega) hk, fun k hk => f4 k (by omega) hk⟩, tc_e a2 (fun b h1 h2 => y1 b (by omega) (by omega)) (fun j => x1 _ j (by omega) (by omega)), (x1 101 4 (by omega) (by omega)).trans a3, fun k => ?_, fun k => ?_, fun b hb => ?_, fun b j hb => ?_⟩
  · refine (c_init1 (d := d) hT hJ).trans (run.trans ?_)
    rw [show w + 889 + 23 * 13 = w + 1188 by omega]
  · rw [t 137 (by omega)]; unfold cT1; simp (disch := omega) only [tu_r, tu_o]
  · rw [t 138 (by omega)]; unfold cT1; simp (disch := omega) only [tu_r, tu_o]
  · rw [t 139 (by omega)]; exact t139
  · rw [t 140 (by omega)]; unfold cT1; simp (disch := omega) only [tu_r, tu_o]
  · rw [q]; unfold cR1; rw [am_u_o (by omega), am_u_o (by omega), am_u_o (by omega), am_u_o (by omega), am_u_o (by omega), sR_o (by omega) (by omega) (by omega), am_u_r]
  · rw [q]; unfold cR1; rw [am_u_o (by omega), am_u_o (by omega), am_u_o (by omega), am_u_o (by omega), am_u_r]
  · rw [q]; unfold cR1; rw [am_u_o (by omega), am_u_o (by omega), am_u_r]
  · rw [q]; exact r100
  · rw [q]; unfold cR1; rw [am_u_r]
  · rw [r 137 0 (by omega) (by omega)]; unfold cR1; rw [am_u_o (by omega), am_u_o (by omega), am_u_o (by omega), am_u_r]
  · rw [x1 106 k (by omega) (by omega), sR_o (by omega) (by omega) (by omega)]; exact hR 106 k (by omega)
  · rw [x2 124 k (by omega) (by omega), sR_o (by omega) (by omega) (by omega), am_u_o (by omega), sR_o (by omega) (by omega) (by omega)]; exact hR 124 k (by omega)
  · rw [f1 b (by omega)]
    unfold cT1
    rw [tu_o (by omega), tu_o (by omega), tu_o (by omega), tu_o (by omega), sT_o (by omega), tu_o (by omega), sT_o (by omega), tu_o (by omega)]
  · rw [f2 b j (by omega) (by omega)]
    unfold cR1
    rw [am_u_o (by omega), am_u_o (by omega), am_u_o (by omega), am_u_o (by omega), am_u_o (by omega), sR_o (by omega) (by omega) (by omega), am_u_o (by omega), sR_o (by omega) (by omega) (by omega)]
    exact hR b j (by omega)
def nS0 : Int → Int := up (up (up (up (up (up (up z0 20 (-1)) 174 1) 175 1) 176 1) 177 1) 178 1) 179 1
def nT1 (T : Nat → Nat × Nat) : Nat → Nat × Nat := am_tu (am_tu (am_tu (am_tu (am_tu (am_tu (am_tu (am_tu (am_tu (am_tu (am_tu T 194 (20, 940)) 195 (20, 940)) 196 (20, 165)) 197 (20, 5)) 198 (23, 64)) 199 (23, 6)) 200 (23, 6)) 201 (23, 6)) 202 (21, 4)) 203 (20, 4)) 204 (20, 20)
def nR1 (R : Nat → Nat → Option Nat) : Nat → Nat → Option Nat := am_u (am_u (am_u (am_u (am_u (am_u (am_u (am_u (am_u (am_u (am_u R 193 1 (some 194)) 193 2 (some 195)) 193 4 (some 196)) 193 10 (some 197)) 193 11 (some 198)) 193 14 (some 199)) 193 15 (some 200)) 193 16 (some 201)) 193 19 (some 202)) 193 20 (some 203)) 193 21 (some 204)
theorem n_init (hT : T 193 = (13, 0)) (hJ : J 194 = z0) : rn_c (d + 5) 103 [.ref 193] (T, oI J, L, R, 194, w) = some (none, (nT1 T, oI (ur J 194 nS0), L, nR1 R, 205, w + 2160)) := by
  have m940 : Int.toNat 940 = 940 := rfl
  have m165 : Int.toNat 165 = 165 := rfl
  have m5 : Int.toNat 5 = 5 := rfl
  have m64 : Int.toNat 64 = 64 := rfl
  have m6 : Int.toNat 6 = 6 := rfl
  have m4 : Int.toNat 4 = 4 := rfl
  have m20 : Int.toNat 20 = 20 := rfl
  have b4 : ∀ (X : Nat → Nat × Nat) (q : Int), X 194 = (20, 940) → 0 ≤ q ∧ q < 940 → am_arr X [20] 194 (iI q) = true := fun X q h hq => ar_ok h rfl (by decide) hq
  have x4 : nT1 T 194 = (20, 940) := by unfold nT1; simp (disch := omega) only [tu_r, tu_o]
  have b4' : ∀ q : Int, 0 ≤ q ∧ q < 940 → am_arr (nT1 T) [20] 194 (iI q) = true := fun q hq => b4 _ q x4 hq
  unfold nT1 at b4' ⊢
  unfold nR1 nS0
  simp (disch := first | omega | exact hJ _ _ | exact rJ_g hJ _ _ | (simp (disch := omega) only [ur_r, ur_o, up_r, up_o]; omega) | assumption) only [c103, s103_0, s103_0v, s103_1, s103_4, s103_4v, s103_5, s103_8, s103_10, s103_10n, s103_13, s103_13v, s103_14, s103_17, s103_19, s103_19n, s103_22, s103_22v, s103_23, s103_26, s103_28, s103_28n, s103_31, s103_31v, s103_32, s103_33, s103_35, s103_35n, s103_38, s103_38v, s103_39, s103_41, s103_43, s103_43n, s103_46, s103_46v, s103_47, s103_49, s103_51, s103_51n, s103_54, s103_54v, s103_55, s103_57, s103_59, s103_59n, s103_62, s103_62v, s103_63, s103_65, s103_67, s103_67n, s103_70, s103_70v, s103_71, s103_72, s103_74, s103_74n, s103_77, s103_77v, s103_78, s103_79, s103_81, s103_81n, s103_84, s103_84v, s103_85, s103_87, s103_89, s103_89n, s103_92, s103_92v, s103_93, s103_96, s103_98, s103_99, s103_100, s103_101, s103_102, s103_103, b103_105, s103_108, s103_108v, s103_109, s103_112, s103_115, s103_116, s103_117, s103_118, s103_119, s103_122, s103_125, hT, hJ, b4', am_u_r, am_u_o, tu_r, tu_o, m940, m165, m5, m64, m6, m4, m20, v_s, Nat.add_assoc, Nat.reduceLeDiff, List.contains_cons, List.contains_nil, beq_self_eq_true, Bool.or_false, up_c, kl_i, kl_r, kl_l, kl_n, kl_z, bd_s, tl_s, tl_n, ap_c, ap_n, v_s, v_n, nd_1, nd_0, ct13, eq_self, iI_add, iI_sub, iI_mul, iI_nat, iI_eq, iI_lt, iI_le, iI_eq0, iI_lt0, ↓reduceIte, if_true, if_false, not_true_eq_false, not_false_eq_true, true_and, and_true, false_and, and_false, true_or, or_true, false_or, or_false, Int.reduceLT, Int.reduceLE, Int.reduceEq, Int.reduceAdd, Int.reduceSub, Int.reduceMul, Nat.reduceAdd, Nat.reduceLT, Nat.reduceEqDiff, Int.reduceNeg, nc_s, nc_0, Int.zero_add, Int.add_zero, oI_r, oI_w, oI_f0, oI_g0, oI_f1, oI_g1, oI_f2, oI_g2, oI_f3, oI_g3, oI_f4, oI_g4, oI_f5, oI_g5, oI_f6, oI_g6, oI_f7, oI_g7, oI_f8, oI_g8, oI_f9, oI_g9, oI_f10, oI_g10, oI_f11, oI_g11, oI_f12, oI_g12, oI_f13, oI_g13, oI_f14, oI_g14, oI_f15, oI_g15, oI_f16, oI_g16, oI_f17, oI_g17, oI_f18, oI_g18, oI_f19, oI_g19, oI_f20, oI_g20, oI_f21, oI_g21, oI_f22, oI_g22, oI_f23, oI_g23, oI_f24, oI_g24, oI_f25, oI_g25, ur_r, ur_o, ur_s, up_r, up_o, up_s, jI_add, jI_sub, jI_mul, jI_neg, jI_i, jI_n, lgc_j, cj_lt, cj_ge, cj_gt, cj_le, cj_eq, oL_r, oL_w, oL_f6, oL_g6, oL_f7, oL_g7, oL_f17, oL_g17, oL_f18, oL_g18, dl_T, dl_F, de_T, de_F, dle_T, dle_F, iI_divn, rem_n, nd_v, ct_s, Bool.false_eq_true]
end VB
