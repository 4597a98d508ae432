/-! the constructors -/
section VA
variable {d : Nat} {T T0 : Nat → Nat × Nat} {L : Nat → Nat → Int64} {R R0 : Nat → Nat → Option Nat} {z w : Nat} {J : mR}
abbrev z0 : Int → Int := fun _ => 0
theorem up_z {k : Int} : up z0 k 0 = z0 := by funext j; unfold up; split <;> rfl
theorem ur_z {b : Nat} (h : J b = z0) : ur J b z0 = J := by rw [← h]; exact ur_e
def wT (z : Nat) (T : Nat → Nat × Nat) : Nat → Nat × Nat := am_tu (am_tu (am_tu T (z + 1) (20, 4)) (z + 2) (20, 6)) (z + 3) (20, 4)
def wRr (z : Nat) (R : Nat → Nat → Option Nat) : Nat → Nat → Option Nat := am_u (am_u (am_u R z 0 (some (z + 1))) z 1 (some (z + 2))) z 7 (some (z + 3))
theorem i_world (hT : T z = (11, 0)) (hJ : J z = z0) : rn_c (d + 1) 52 [.ref z] (T, oI J, L, R, z + 1, w) = some (none, (wT z T, oI J, L, wRr z R, z + 4, w + 14)) := by
  have m4 : Int.toNat 4 = 4 := rfl
  have m6 : Int.toNat 6 = 6 := rfl
  have e := ur_z hJ
  unfold wT wRr
  simp (disch := first | omega | exact hJ _ _ | exact rJ_g hJ _ _ | (simp (disch := omega) only [ur_r, ur_o, up_r, up_o]; omega) | assumption) only [c52, s52_0, s52_0v, s52_1, s52_4, s52_4v, s52_5, s52_6, s52_8, s52_8n, s52_11, s52_11v, s52_12, s52_14, s52_16, s52_16n, s52_19, s52_19v, s52_20, s52_21, s52_24, s52_24v, s52_25, s52_26, s52_29, s52_29v, s52_30, s52_31, s52_34, s52_34v, s52_35, s52_36, s52_39, s52_39v, s52_40, s52_41, s52_44, s52_44v, s52_45, s52_46, s52_48, s52_48n, s52_51, s52_51v, s52_52, s52_53, s52_56, hT, hJ, up_z, e, tu_r, tu_o, m4, m6, Nat.add_assoc, Nat.reduceLeDiff, List.contains_cons, List.contains_nil, beq_self_eq_true, Bool.or_false, up_c, kl_i, kl_r, kl_l, kl_n, kl_z, bd_s, tl_s, tl_n, ap_c, ap_n, v_s, v_n, nd_1, nd_0, ct13, eq_self, iI_add, iI_sub, iI_mul, iI_nat, iI_eq, iI_lt, iI_le, iI_eq0, iI_lt0, ↓reduceIte, if_true, if_false, not_true_eq_false, not_false_eq_true, true_and, and_true, false_and, and_false, true_or, or_true, false_or, or_false, Int.reduceLT, Int.reduceLE, Int.reduceEq, Int.reduceAdd, Int.reduceSub, Int.reduceMul, Nat.reduceAdd, Nat.reduceLT, Nat.reduceEqDiff, Int.reduceNeg, nc_s, nc_0, Int.zero_add, Int.add_zero, oI_r, oI_w, oI_f0, oI_g0, oI_f1, oI_g1, oI_f2, oI_g2, oI_f3, oI_g3, oI_f4, oI_g4, oI_f5, oI_g5, oI_f6, oI_g6, oI_f7, oI_g7, oI_f8, oI_g8, oI_f9, oI_g9, oI_f10, oI_g10, oI_f11, oI_g11, oI_f12, oI_g12, oI_f13, oI_g13, oI_f14, oI_g14, oI_f15, oI_g15, oI_f16, oI_g16, oI_f17, oI_g17, oI_f18, oI_g18, oI_f19, oI_g19, oI_f20, oI_g20, oI_f21, oI_g21, oI_f22, oI_g22, oI_f23, oI_g23, oI_f24, oI_g24, oI_f25, oI_g25, ur_r, ur_o, ur_s, up_r, up_o, up_s, jI_add, jI_sub, jI_mul, jI_neg, jI_i, jI_n, lgc_j, cj_lt, cj_ge, cj_gt, cj_le, cj_eq, oL_r, oL_w, oL_f6, oL_g6, oL_f7, oL_g7, oL_f17, oL_g17, oL_f18, oL_g18, dl_T, dl_F, de_T, de_F, dle_T, dle_F, iI_divn, rem_n, nd_v, ct_s, Bool.false_eq_true]
theorem wT_o {b : Nat} (h : ¬ (z + 1 ≤ b ∧ b < z + 4)) : wT z T b = T b := by
  unfold wT
  rw [tu_o (by omega), tu_o (by omega), tu_o (by omega)]
theorem wR_o {b j : Nat} (h : ¬ b = z) : wRr z R b j = R b j := by
  unfold wRr
  rw [am_u_o (by omega), am_u_o (by omega), am_u_o (by omega)]
theorem wT_w (hT : T z = (11, 0)) : wc (wT z T) (wRr z R) z := by
  unfold wc wT wRr
  refine ⟨?_, ?_, ?_, ?_, ?_, ?_, ?_⟩
  · rw [tu_o (by omega), tu_o (by omega), tu_o (by omega)]; exact hT
  · rw [tu_o (by omega), tu_o (by omega), tu_r]
  · rw [tu_o (by omega), tu_r]
  · rw [tu_r]
  · rw [am_u_o (by omega), am_u_o (by omega), am_u_r]
  · rw [am_u_o (by omega), am_u_r]
  · rw [am_u_r]
theorem wc_e {T' : Nat → Nat × Nat} {R' : Nat → Nat → Option Nat} {a : Nat} (h : wc T R a) (e : ∀ b, a ≤ b → b < a + 4 → T' b = T b) (f : ∀ j, R' a j = R a j) : wc T' R' a := by
  unfold wc at h ⊢
  rw [e a (by omega) (by omega), e (a + 1) (by omega) (by omega), e (a + 2) (by omega) (by omega), e (a + 3) (by omega) (by omega)]
  simp only [f]
  exact h
theorem tc_e {T' : Nat → Nat × Nat} {R' : Nat → Nat → Option Nat} {a : Nat} (h : tc T R a) (e : ∀ b, a ≤ b → b < a + 7 → T' b = T b) (f : ∀ j, R' a j = R a j) : tc T' R' a := by
  unfold tc at h ⊢
  rw [e a (by omega) (by omega), e (a + 1) (by omega) (by omega), e (a + 2) (by omega) (by omega), e (a + 3) (by omega) (by omega), e (a + 4) (by omega) (by omega), e (a + 5) (by omega) (by omega), e (a + 6) (by omega) (by omega)]
  simp only [f]
  exact h
theorem stc_e {T' : Nat → Nat × Nat} {R' : Nat → Nat → Option Nat} {a : Nat} (h : stc T R a) (e : ∀ b, a ≤ b → b < a + 18 → T' b = T b) (f : ∀ b j, a ≤ b → b < a + 18 → R' b j = R b j) : stc T' R' a := by
  obtain ⟨h1, h2, h3, h4, h5, h6, h7, h8, h9, h10, h11, h12, h13, h14, h15⟩ := h
  have f0 := fun j => f a j (by omega) (by omega)
  exact ⟨by rw [e a (by omega) (by omega)]; exact h1, by rw [e (a + 5) (by omega) (by omega)]; exact h2, by rw [e (a + 6) (by omega) (by omega)]; exact h3, by rw [e (a + 14) (by omega) (by omega)]; exact h4, by rw [e (a + 15) (by omega) (by omega)]; exact h5, by rw [e (a + 16) (by omega) (by omega)]; exact h6, by rw [e (a + 17) (by omega) (by omega)]; exact h7, by rw [f0]; exact h8, by rw [f0]; exact h9, by rw [f0]; exact h10, by rw [f0]; exact h11, by rw [f0]; exact h12, by rw [f0]; exact h13, by rw [f0]; exact h14, wc_e h15 (fun b b1 b2 => e b (by omega) (by omega)) (fun j => f (a + 1) j (by omega) (by omega))⟩
/-- a state's new cells -/
def sT (z : Nat) (T : Nat → Nat × Nat) : Nat → Nat × Nat := am_tu (am_tu (am_tu (am_tu (T7 (z + 7) (am_tu (am_tu (wT (z + 1) (am_tu T (z + 1) (11, 0))) (z + 5) (25, 6)) (z + 6) (20, 6))) (z + 14) (22, 120)) (z + 15) (20, 20)) (z + 16) (20, 10)) (z + 17) (20, 10)
def sR (z : Nat) (R : Nat → Nat → Option Nat) : Nat → Nat → Option Nat := am_u (am_u (am_u (am_u (am_u (R7 (z + 7) (am_u (am_u (am_u (wRr (z + 1) R) z 0 (some (z + 1))) z 1 (some (z + 5))) z 2 (some (z + 6)))) z 4 (some (z + 7))) z 6 (some (z + 14))) z 8 (some (z + 15))) z 10 (some (z + 16))) z 11 (some (z + 17))
theorem i_state (hT : T z = (7, 0)) (hJ : ∀ b, z ≤ b → J b = z0) : rn_c (d + 3) 18 [.ref z] (T, oI J, L, R, z + 1, w) = some (none, (sT z T, oI (ur J (z + 7) (inV z0)), L, sR z R, z + 18, w + 412)) := by
  have m6 : Int.toNat 6 = 6 := rfl
  have m120 : Int.toNat 120 = 120 := rfl
  have m20 : Int.toNat 20 = 20 := rfl
  have m10 : Int.toNat 10 = 10 := rfl
  have hz := hJ z (by omega)
  have e := ur_z hz
  have h7 := hJ (z + 7) (by omega)
  have iw := i_world (d := d + 1) (T := am_tu T (z + 1) (11, 0)) (J := J) (L := L) (R := R) (z := z + 1) (w := w + 9) tu_r (hJ _ (by omega))
  have it := fun (T : Nat → Nat × Nat) (R : Nat → Nat → Option Nat) (w : Nat) => t_init (d := d + 1) (T := T) (J := J) (L := L) (R := R) (z := z + 7) (w := w)
  rw [h7] at it
  simp only [Nat.add_assoc, Nat.reduceAdd] at iw it
  have w1 : wT (z + 1) (am_tu T (z + 1) (11, 0)) z = (7, 0) := by rw [wT_o (by omega), tu_o (by omega)]; exact hT
  have w11 : wT (z + 1) (am_tu T (z + 1) (11, 0)) (z + 1) = (11, 0) := by rw [wT_o (by omega), tu_r]
  have t7 : ∀ (X : Nat → Nat × Nat), T7 (z + 7) X z = X z := fun X => T7_o (by omega)
  have t77 : ∀ (X : Nat → Nat × Nat), T7 (z + 7) X (z + 7) = (8, 0) := fun X => tc_7 (R := R).1
  unfold sT sR
  simp (disch := first | omega | exact hJ _ _ | exact rJ_g hJ _ _ | (simp (disch := omega) only [ur_r, ur_o, up_r, up_o]; omega) | assumption) only [c18, s18_0, s18_0v, s18_1, s18_4, s18_4v, s18_5, s18_8, s18_9, s18_12, s18_12n, s18_15, s18_15v, s18_16, s18_18, s18_21, s18_21n, s18_24, s18_24v, s18_25, s18_27, s18_29, s18_29n, s18_32, s18_32v, s18_33, s18_34, s18_37, s18_37v, s18_38, s18_41, s18_42, s18_45, s18_45n, s18_48, s18_48v, s18_49, s18_50, s18_53, s18_53v, s18_54, s18_56, s18_58, s18_58n, s18_61, s18_61v, s18_62, s18_63, s18_66, s18_66v, s18_67, s18_69, s18_71, s18_71n, s18_74, s18_74v, s18_75, s18_76, s18_79, s18_79v, s18_80, s18_82, s18_84, s18_84n, s18_87, s18_87v, s18_88, s18_90, s18_92, s18_92n, s18_95, s18_95v, s18_96, s18_97, s18_100, hT, hz, up_z, e, iw, it, w1, w11, t7, t77, tu_r, tu_o, m6, m120, m20, m10, Nat.add_assoc, Nat.reduceLeDiff, List.contains_cons, List.contains_nil, beq_self_eq_true, Bool.or_false, up_c, ur_c, v_s, kl_i, kl_r, kl_l, kl_n, kl_z, bd_s, tl_s, tl_n, ap_c, ap_n, v_s, v_n, nd_1, nd_0, ct13, eq_self, iI_add, iI_sub, iI_mul, iI_nat, iI_eq, iI_lt, iI_le, iI_eq0, iI_lt0, ↓reduceIte, if_true, if_false, not_true_eq_false, not_false_eq_true, true_and, and_true, false_and, and_false, true_or, or_true, false_or, or_false, Int.reduceLT, Int.reduceLE, Int.reduceEq, Int.reduceAdd, Int.reduceSub, Int.reduceMul, Nat.reduceAdd, Nat.reduceLT, Nat.reduceEqDiff, Int.reduceNeg, nc_s, nc_0, Int.zero_add, Int.add_zero, oI_r, oI_w, oI_f0, oI_g0, oI_f1, oI_g1, oI_f2, oI_g2, oI_f3, oI_g3, oI_f4, oI_g4, oI_f5, oI_g5, oI_f6, oI_g6, oI_f7, oI_g7, oI_f8, oI_g8, oI_f9, oI_g9, oI_f10, oI_g10, oI_f11, oI_g11, oI_f12, oI_g12, oI_f13, oI_g13, oI_f14, oI_g14, oI_f15, oI_g15, oI_f16, oI_g16, oI_f17, oI_g17, oI_f18, oI_g18, oI_f19, oI_g19, oI_f20, oI_g20, oI_f21, oI_g21, oI_f22, oI_g22, oI_f23, oI_g23, oI_f24, oI_g24, oI_f25, oI_g25, ur_r, ur_o, ur_s, up_r, up_o, up_s, jI_add, jI_sub, jI_mul, jI_neg, jI_i, jI_n, lgc_j, cj_lt, cj_ge, cj_gt, cj_le, cj_eq, oL_r, oL_w, oL_f6, oL_g6, oL_f7, oL_g7, oL_f17, oL_g17, oL_f18, oL_g18, dl_T, dl_F, de_T, de_F, dle_T, dle_F, iI_divn, rem_n, nd_v, ct_s, Bool.false_eq_true]
theorem sT_o {b : Nat} (h : ¬ (z + 1 ≤ b ∧ b < z + 18)) : sT z T b = T b := by
  unfold sT
  rw [tu_o (by omega), tu_o (by omega), tu_o (by omega), tu_o (by omega), T7_o (by omega), tu_o (by omega), tu_o (by omega), wT_o (by omega), tu_o (by omega)]
theorem sR_o {b j : Nat} (h : ¬ b = z) (h1 : ¬ b = z + 1) (h7 : ¬ b = z + 7) : sR z R b j = R b j := by
  unfold sR
  rw [am_u_o (by omega), am_u_o (by omega), am_u_o (by omega), am_u_o (by omega), am_u_o (by omega), R7_o (by omega), am_u_o (by omega), am_u_o (by omega), am_u_o (by omega), wR_o (by omega)]
theorem sT_s (hT : T z = (7, 0)) : stc (sT z T) (sR z R) z ∧ tc (sT z T) (sR z R) (z + 7) ∧ sR z R z 4 = some (z + 7) := by
  have ro : ∀ b j, ¬ b = z → sR z R b j = R7 (z + 7) (am_u (am_u (am_u (wRr (z + 1) R) z 0 (some (z + 1))) z 1 (some (z + 5))) z 2 (some (z + 6))) b j := by
    intro b j hb
    unfold sR
    rw [am_u_o (by omega), am_u_o (by omega), am_u_o (by omega), am_u_o (by omega), am_u_o (by omega)]
  have t : ∀ b, ¬ (z + 14 ≤ b ∧ b ≤ z + 17) → sT z T b = T7 (z + 7) (am_tu (am_tu (wT (z + 1) (am_tu T (z + 1) (11, 0))) (z + 5) (25, 6)) (z + 6) (20, 6)) b := by
    intro b hb
    unfold sT
    rw [tu_o (by omega), tu_o (by omega), tu_o (by omega), tu_o (by omega)]
  refine ⟨⟨by rw [sT_o (by omega)]; exact hT, ?_, ?_, ?_, ?_, ?_, ?_, ?_, ?_, ?_, ?_, ?_, ?_, ?_, ?_⟩, tc_e (T := T7 (z + 7) (am_tu (am_tu (wT (z + 1) (am_tu T (z + 1) (11, 0))) (z + 5) (25, 6)) (z + 6) (20, 6))) tc_7 (fun b b1 b2 => t b (by omega)) (fun j => ro _ j (by omega)), ?_⟩
  · rw [t _ (by omega), T7_o (by omega), tu_o (by omega), tu_r]
  · rw [t _ (by omega), T7_o (by omega), tu_r]
  · unfold sT; rw [tu_o (by omega), tu_o (by omega), tu_o (by omega), tu_r]
  · unfold sT; rw [tu_o (by omega), tu_o (by omega), tu_r]
  · unfold sT; rw [tu_o (by omega), tu_r]
  · unfold sT; rw [tu_r]
  · unfold sR; rw [am_u_o (by omega), am_u_o (by omega), am_u_o (by omega), am_u_o (by omega), am_u_o (by omega), R7_o (by omega), am_u_o (by omega), am_u_o (by omega), am_u_r]
  · unfold sR; rw [am_u_o (by omega), am_u_o (by omega), am_u_o (by omega), am_u_o (by omega), am_u_o (by omega), R7_o (by omega), am_u_o (by omega), am_u_r]
  · unfold sR; rw [am_u_o (by omega), am_u_o (by omega), am_u_o (by omega), am_u_o (by omega), am_u_o (by omega), R7_o (by omega), am_u_r]
  · unfold sR; rw [am_u_o (by omega), am_u_o (by omega), am_u_o (by omega), am_u_r]
  · unfold sR; rw [am_u_o (by omega), am_u_o (by omega), am_u_r]
  · unfold sR; rw [am_u_o (by omega), am_u_r]
  · unfold sR; rw [am_u_r]
  · refine wc_e (wT_w (T := am_tu T (z + 1) (11, 0)) (R := R) tu_r) (fun b b1 b2 => ?_) (fun j => ?_)
    · rw [t _ (by omega), T7_o (by omega), tu_o (by omega), tu_o (by omega)]
    · rw [ro _ j (by omega), R7_o (by omega), am_u_o (by omega), am_u_o (by omega), am_u_o (by omega)]
  · unfold sR; rw [am_u_o (by omega), am_u_o (by omega), am_u_o (by omega), am_u_o (by omega), am_u_r]
/-- the thoughts' worlds -/
theorem i_loop : ∀ (m k : Nat), k + m = 13 → ∀ (T : Nat → Nat × Nat) (R : Nat → Nat → Option Nat) (w : Nat), T 100 = (12, 0) → R 100 4 = some 139 → T 139 = (24, 13) → (∀ b, 141 + 4 * k ≤ b → J b = z0) → ∃ (T' : Nat → Nat × Nat) (R' : Nat → Nat → Option Nat), rn_r (d + 2) 62 76 [some (.ref 100), some (.int (iI k))] [] (T, oI J, L, R, 141 + 4 * k, w) = some (none, (T', oI J, L, R', 193, w + 23 * m)) ∧ (∀ b, ¬ (141 + 4 * k ≤ b ∧ b < 193) → T' b = T b) ∧ (∀ b j, ¬ (141 + 4 * k ≤ b ∧ b < 193) → ¬ (b = 139 ∧ k ≤ j) → R' b j = R b j) ∧ (∀ i, k ≤ i → i < 13 → wc T' R' (141 + 4 * i)) ∧ (∀ i, k ≤ i → i < 13 → R' 139 i = some (141 + 4 * i)) := by
  have c13 : ((13 : Nat) : Int) = 13 := rfl
  intro m
  induction m with
  | zero =>
    intro k hk T R w t0 r4 t9 hJ
    have ek : k = 13 := by omega
    subst ek
    refine ⟨T, R, ?_, fun _ _ => rfl, fun _ _ _ _ => rfl, fun i h1 h2 => by omega, fun i h1 h2 => by omega⟩
    simp (disch := first | omega | exact hJ _ _ | exact rJ_g hJ _ _ | (simp (disch := omega) only [ur_r, ur_o, up_r, up_o]; omega) | assumption) only [s62_76, s62_77, s62_77v, s62_78, s62_81, b62_82, s62_104, t0, r4, t9, v_s, iI_ofNat, c13, Nat.reduceMul, Nat.mul_zero, Nat.add_zero, List.contains_cons, List.contains_nil, Nat.reduceBEq, Bool.or_true, Bool.true_or, Bool.or_false, Bool.false_or, beq_self_eq_true, kl_i, kl_r, kl_l, kl_n, kl_z, bd_s, tl_s, tl_n, ap_c, ap_n, v_s, v_n, nd_1, nd_0, ct13, eq_self, iI_add, iI_sub, iI_mul, iI_nat, iI_eq, iI_lt, iI_le, iI_eq0, iI_lt0, ↓reduceIte, if_true, if_false, not_true_eq_false, not_false_eq_true, true_and, and_true, false_and, and_false, true_or, or_true, false_or, or_false, Int.reduceLT, Int.reduceLE, Int.reduceEq, Int.reduceAdd, Int.reduceSub, Int.reduceMul, Nat.reduceAdd, Nat.reduceLT, Nat.reduceEqDiff, Int.reduceNeg, nc_s, nc_0, Int.zero_add, Int.add_zero, oI_r, oI_w, oI_f0, oI_g0, oI_f1, oI_g1, oI_f2, oI_g2, oI_f3, oI_g3, oI_f4, oI_g4, oI_f5, oI_g5, oI_f6, oI_g6, oI_f7, oI_g7, oI_f8, oI_g8, oI_f9, oI_g9, oI_f10, oI_g10, oI_f11, oI_g11, oI_f12, oI_g12, oI_f13, oI_g13, oI_f14, oI_g14, oI_f15, oI_g15, oI_f16, oI_g16, oI_f17, oI_g17, oI_f18, oI_g18, oI_f19, oI_g19, oI_f20, oI_g20, oI_f21, oI_g21, oI_f22, oI_g22, oI_f23, oI_g23, oI_f24, oI_g24, oI_f25, oI_g25, ur_r, ur_o, ur_s, up_r, up_o, up_s, jI_add, jI_sub, jI_mul, jI_neg, jI_i, jI_n, lgc_j, cj_lt, cj_ge, cj_gt, cj_le, cj_eq, oL_r, oL_w, oL_f6, oL_g6, oL_f7, oL_g7, oL_f17, oL_g17, oL_f18, oL_g18, dl_T, dl_F, de_T, de_F, dle_T, dle_F, iI_divn, rem_n, nd_v, ct_s, Bool.false_eq_true]
  | succ m ih =>
    intro k hk T R w t0 r4 t9 hJ
    obtain ⟨y, hy⟩ : ∃ y, y = 141 + 4 * k := ⟨_, rfl⟩
    have e4 : 141 + 4 * (k + 1) = y + 4 := by omega
    have iw := i_world (d := d) (T := am_tu T y (11, 0)) (J := J) (L := L) (R := R) (z := y) (w := w + 9) tu_r (hJ y (by omega))
    have tw : ∀ b, ¬ (y ≤ b ∧ b < y + 4) → wT y (am_tu T y (11, 0)) b = T b := fun b hb => by rw [wT_o (by omega), tu_o (by omega)]
    have wy : wT y (am_tu T y (11, 0)) y = (11, 0) := by rw [wT_o (by omega), tu_r]
    have a24 : am_arr (wT y (am_tu T y (11, 0))) [24] 139 (iI k) = true := ar_ok ((tw 139 (by omega)).trans t9) rfl (by decide) (by omega)
    have tn : (k : Int).toNat = k := by omega
    have rk4 : am_u (wRr y R) 139 k (some y) 100 4 = some 139 := by rw [am_u_o (by omega), wR_o (by omega)]; exact r4
    obtain ⟨T', R', run, f1, f2, f3, f4⟩ := ih (k + 1) (by omega) (wT y (am_tu T y (11, 0))) (am_u (wRr y R) 139 k (some y)) (w + 23) ((tw 100 (by omega)).trans t0) rk4 ((tw 139 (by omega)).trans t9) (fun b hb => hJ b (by omega))
    rw [e4] at run f1 f2
    refine ⟨T', R', ?_, fun b hb => (f1 b (by omega)).trans (tw b (by omega)), fun b j hb hj => (f2 b j (by omega) (by omega)).trans ?_, fun i i1 i2 => ?_, fun i i1 i2 => ?_⟩
    · have ew : w + 23 * (m + 1) = w + 23 + 23 * m := by omega
      rw [ew, ← hy]
      refine Eq.trans ?_ ((s62_101 ..).trans run)
      have w23 : w + 9 + 14 = w + 23 := by omega
      simp (disch := first | omega | exact hJ _ _ | exact rJ_g hJ _ _ | (simp (disch := omega) only [ur_r, ur_o, up_r, up_o]; omega) | assumption) only [s62_76, s62_77, s62_77v, s62_78, s62_81, b62_82, s62_85, s62_85v, s62_86, s62_89, s62_90, s62_93, s62_94, s62_97, s62_98, t0, r4, t9, v_s, iI_ofNat, c13, iw, a24, wy, tu_r, tn, w23, Nat.add_assoc, Nat.reduceLeDiff, List.contains_cons, List.contains_nil, Nat.reduceBEq, Bool.or_true, Bool.true_or, Bool.or_false, Bool.false_or, beq_self_eq_true, Bool.true_and, kl_i, kl_r, kl_l, kl_n, kl_z, bd_s, tl_s, tl_n, ap_c, ap_n, v_s, v_n, nd_1, nd_0, ct13, eq_self, iI_add, iI_sub, iI_mul, iI_nat, iI_eq, iI_lt, iI_le, iI_eq0, iI_lt0, ↓reduceIte, if_true, if_false, not_true_eq_false, not_false_eq_true, true_and, and_true, false_and, and_false, true_or, or_true, false_or, or_false, Int.reduceLT, Int.reduceLE, Int.reduceEq, Int.reduceAdd, Int.reduceSub, Int.reduceMul, Nat.reduceAdd, Nat.reduceLT, Nat.reduceEqDiff, Int.reduceNeg, nc_s, nc_0, Int.zero_add, Int.add_zero, oI_r, oI_w, oI_f0, oI_g0, oI_f1, oI_g1, oI_f2, oI_g2, oI_f3, oI_g3, oI_f4, oI_g4, oI_f5, oI_g5, oI_f6, oI_g6, oI_f7, oI_g7, oI_f8, oI_g8, oI_f9, oI_g9, oI_f10, oI_g10, oI_f11, oI_g11, oI_f12, oI_g12, oI_f13, oI_g13, oI_f14, oI_g14, oI_f15, oI_g15, oI_f16, oI_g16, oI_f17, oI_g17, oI_f18, oI_g18, oI_f19, oI_g19, oI_f20, oI_g20, oI_f21, oI_g21, oI_f22, oI_g22, oI_f23, oI_g23, oI_f24, oI_g24, oI_f25, oI_g25, ur_r, ur_o, ur_s, up_r, up_o, up_s, jI_add, jI_sub, jI_mul, jI_neg, jI_i, jI_n, lgc_j, cj_lt, cj_ge, cj_gt, cj_le, cj_eq, oL_r, oL_w, oL_f6, oL_g6, oL_f7, oL_g7, oL_f17, oL_g17, oL_f18, oL_g18, dl_T, dl_F, de_T, de_F, dle_T, dle_F, iI_divn, rem_n, nd_v, ct_s, Bool.false_eq_true]
    · rw [am_u_o (by omega), wR_o (by omega)]
    · by_cases e : i = k
      · subst e
        rw [← hy]
        refine wc_e (wT_w (T := am_tu T y (11, 0)) (R := R) tu_r) (fun b b1 b2 => f1 b (by omega)) (fun j => ?_)
        rw [f2 y j (by omega) (by omega), am_u_o (by omega)]
      · exact f3 i (by omega) i2
    · by_cases e : i = k
      · subst e
        rw [f2 139 i (by omega) (by omega), am_u_r, hy]
      · exact f4 i (by omega) i2
end VA
