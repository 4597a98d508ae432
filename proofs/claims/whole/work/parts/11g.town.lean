/-! the class: a town is made -/
section TG
variable {d : Nat} {T : Nat → Nat × Nat} {L : Nat → Nat → Int64} {R : Nat → Nat → Option Nat} {z w : Nat} {J : mR} {t : Nat} {n i k : Int} {x V S : Int → Int} {cs : List CL}
def T7 (z : Nat) (T : Nat → Nat × Nat) : Nat → Nat × Nat := am_tu (am_tu (am_tu (am_tu (am_tu (am_tu (am_tu T z (8, 0)) (z + 1) (20, 48)) (z + 2) (20, 10)) (z + 3) (20, 10)) (z + 4) (20, 10)) (z + 5) (20, 120)) (z + 6) (20, 5)
def R7 (z : Nat) (R : Nat → Nat → Option Nat) : Nat → Nat → Option Nat := am_u (am_u (am_u (am_u (am_u (am_u (am_u R z 3 (some (z + 1))) z 4 (some (z + 2))) z 5 (some (z + 3))) z 6 (some (z + 4))) z 8 (some (z + 5))) z 10 (some (z + 6))) z 11 none
def inV (V : Int → Int) : Int → Int := up (up (up (up (up (up (up V 0 9) 1 1) 2 2) 7 0) 9 0) 12 0) 13 0
theorem t_init : rn_c (d + 1) 21 [.ref z] (am_tu T z (8, 0), oI J, L, R, z + 1, w) = some (none, (T7 z T, oI (ur J z (inV (J z))), L, R7 z R, z + 7, w + 203)) := by
  have m48 : Int.toNat 48 = 48 := rfl
  have m10 : Int.toNat 10 = 10 := rfl
  have m120 : Int.toNat 120 = 120 := rfl
  have m5 : Int.toNat 5 = 5 := rfl
  unfold T7 R7 inV
  simp (disch := first | omega | exact hJ _ _ | exact rJ_g hJ _ _ | (simp (disch := omega) only [ur_r, ur_o, up_r, up_o]; omega) | assumption) only [c21, s21_0, s21_0v, s21_1, s21_4, s21_4v, s21_5, s21_7, s21_10, s21_10v, s21_11, s21_12, s21_15, s21_15v, s21_16, s21_17, s21_20, s21_20v, s21_21, s21_23, s21_25, s21_25n, s21_28, s21_28v, s21_29, s21_31, s21_33, s21_33n, s21_36, s21_36v, s21_37, s21_39, s21_41, s21_41n, s21_44, s21_44v, s21_45, s21_47, s21_49, s21_49n, s21_52, s21_52v, s21_53, s21_54, s21_57, s21_57v, s21_58, s21_60, s21_62, s21_62n, s21_65, s21_65v, s21_66, s21_67, s21_70, s21_70v, s21_71, s21_72, s21_74, s21_74n, s21_77, s21_77v, s21_78, s21_79, s21_79n, s21_82, s21_82v, s21_83, s21_84, s21_87, s21_87v, s21_88, s21_89, s21_92, tu_r, tu_o, m48, m10, m120, m5, Nat.add_assoc, Nat.reduceLeDiff, List.contains_cons, List.contains_nil, beq_self_eq_true, Bool.or_false, up_c, kl_i, kl_r, kl_l, kl_n, kl_z, bd_s, tl_s, tl_n, ap_c, ap_n, v_s, v_n, nd_1, nd_0, ct13, eq_self, iI_add, iI_sub, iI_mul, iI_nat, iI_eq, iI_lt, iI_le, iI_eq0, iI_lt0, ↓reduceIte, if_true, if_false, not_true_eq_false, not_false_eq_true, true_and, and_true, false_and, and_false, true_or, or_true, false_or, or_false, Int.reduceLT, Int.reduceLE, Int.reduceEq, Int.reduceAdd, Int.reduceSub, Int.reduceMul, Nat.reduceAdd, Nat.reduceLT, Nat.reduceEqDiff, Int.reduceNeg, nc_s, nc_0, Int.zero_add, Int.add_zero, oI_r, oI_w, oI_f0, oI_g0, oI_f1, oI_g1, oI_f2, oI_g2, oI_f3, oI_g3, oI_f4, oI_g4, oI_f5, oI_g5, oI_f6, oI_g6, oI_f7, oI_g7, oI_f8, oI_g8, oI_f9, oI_g9, oI_f10, oI_g10, oI_f11, oI_g11, oI_f12, oI_g12, oI_f13, oI_g13, oI_f14, oI_g14, oI_f15, oI_g15, oI_f16, oI_g16, oI_f17, oI_g17, oI_f18, oI_g18, oI_f19, oI_g19, oI_f20, oI_g20, oI_f21, oI_g21, oI_f22, oI_g22, oI_f23, oI_g23, oI_f24, oI_g24, oI_f25, oI_g25, ur_r, ur_o, ur_s, up_r, up_o, up_s, jI_add, jI_sub, jI_mul, jI_neg, jI_i, jI_n, lgc_j, cj_lt, cj_ge, cj_gt, cj_le, cj_eq, oL_r, oL_w, oL_f6, oL_g6, oL_f7, oL_g7, oL_f17, oL_g17, oL_f18, oL_g18, dl_T, dl_F, de_T, de_F, dle_T, dle_F, iI_divn, rem_n, nd_v, ct_s, Bool.false_eq_true]
theorem T7_o {b : Nat} (h : ¬ (z ≤ b ∧ b < z + 7)) : T7 z T b = T b := by
  unfold T7
  rw [tu_o (by omega), tu_o (by omega), tu_o (by omega), tu_o (by omega), tu_o (by omega), tu_o (by omega), tu_o (by omega)]
theorem R7_o {b j : Nat} (h : ¬ b = z) : R7 z R b j = R b j := by
  unfold R7 am_u
  simp [h]
theorem T7_E (h : ∀ b, z ≤ b → (T b).1 = 0) : tE T (T7 z T) := by
  intro b hb
  refine T7_o ?_
  intro q
  exact hb (h b q.1)
theorem R7_E (h : ∀ b, z ≤ b → (T b).1 = 0) : rE T R (R7 z R) := by
  intro b j hb _ _ _ _
  refine R7_o ?_
  intro q
  exact hb (h b (by omega))
theorem tc_7 : tc (T7 z T) (R7 z R) z := by
  unfold tc T7 R7
  refine ⟨?_, ?_, ?_, ?_, ?_, ?_, ?_, ?_, ?_, ?_, ?_, ?_, ?_⟩
  · simp (disch := omega) only [tu_r, tu_o]
  · simp (disch := omega) only [tu_r, tu_o]
  · simp (disch := omega) only [tu_r, tu_o]
  · simp (disch := omega) only [tu_r, tu_o]
  · simp (disch := omega) only [tu_r, tu_o]
  · simp (disch := omega) only [tu_r, tu_o]
  · simp (disch := omega) only [tu_r, tu_o]
  all_goals (unfold am_u; simp)
theorem tkR_x {J' : mR} (h : tkR J t cs) (e : ∀ b, t ≤ b → b ≤ t + 6 → J' b = J b) : tkR J' t cs := by
  obtain ⟨g1, g2, g3, g4, g5, g6, g7, g8⟩ := h
  have et := e t (by omega) (by omega)
  refine ⟨g1, fun h s a1 a2 a3 a4 => by rw [e _ (by omega) (by omega)]; exact g2 h s a1 a2 a3 a4, loR_x et (e _ (by omega) (by omega)) (e _ (by omega) (by omega)) (e _ (by omega) (by omega)) (e _ (by omega) (by omega)) cs 0 0 g3, by rw [et]; exact g4, fun j j0 j5 => by rw [e _ (by omega) (by omega)]; exact g5 j j0 j5, by rw [et]; exact g6, by rw [et]; exact g7, by rw [et]; exact g8⟩
/-- what town does -/
def toS (n a : Int) (r : TR) (A : Int → Int) : Int → Int := if tw r = 0 then (if r.1 = n then up (up A 5 (a + 1)) 7 0 else up A 7 0) else up A 7 0
theorem c_townF (hM : cM T R) (hP : cPl J S) (h16 : S 16 = 5) : rn_c (d + 27) 65 [.ref 100] (T, oI J, L, R, z, w) = some (some (.int (iI (-4))), (T, oI J, L, R, z, w)) := by
  obtain ⟨⟨p1, p2, p3, p4⟩, _⟩ := hP
  simp (disch := first | omega | exact hJ _ _ | exact rJ_g hJ _ _ | (simp (disch := omega) only [ur_r, ur_o, up_r, up_o]; omega) | assumption) only [c65, s65_0, s65_0v, s65_1, s65_4, s65_7, b65_8, s65_11, s65_13, hM.t100, hM.t101, hM.r100_0, v_s, p1, h16, kl_i, kl_r, kl_l, kl_n, kl_z, bd_s, tl_s, tl_n, ap_c, ap_n, v_s, v_n, nd_1, nd_0, ct13, eq_self, iI_add, iI_sub, iI_mul, iI_nat, iI_eq, iI_lt, iI_le, iI_eq0, iI_lt0, ↓reduceIte, if_true, if_false, not_true_eq_false, not_false_eq_true, true_and, and_true, false_and, and_false, true_or, or_true, false_or, or_false, Int.reduceLT, Int.reduceLE, Int.reduceEq, Int.reduceAdd, Int.reduceSub, Int.reduceMul, Nat.reduceAdd, Nat.reduceLT, Nat.reduceEqDiff, Int.reduceNeg, nc_s, nc_0, Int.zero_add, Int.add_zero, oI_r, oI_w, oI_f0, oI_g0, oI_f1, oI_g1, oI_f2, oI_g2, oI_f3, oI_g3, oI_f4, oI_g4, oI_f5, oI_g5, oI_f6, oI_g6, oI_f7, oI_g7, oI_f8, oI_g8, oI_f9, oI_g9, oI_f10, oI_g10, oI_f11, oI_g11, oI_f12, oI_g12, oI_f13, oI_g13, oI_f14, oI_g14, oI_f15, oI_g15, oI_f16, oI_g16, oI_f17, oI_g17, oI_f18, oI_g18, oI_f19, oI_g19, oI_f20, oI_g20, oI_f21, oI_g21, oI_f22, oI_g22, oI_f23, oI_g23, oI_f24, oI_g24, oI_f25, oI_g25, ur_r, ur_o, ur_s, up_r, up_o, up_s, jI_add, jI_sub, jI_mul, jI_neg, jI_i, jI_n, lgc_j, cj_lt, cj_ge, cj_gt, cj_le, cj_eq, oL_r, oL_w, oL_f6, oL_g6, oL_f7, oL_g7, oL_f17, oL_g17, oL_f18, oL_g18, dl_T, dl_F, de_T, de_F, dle_T, dle_F, iI_divn, rem_n, nd_v, ct_s, Bool.false_eq_true]
theorem c_town (hM : cM T R) (hz : ∀ b, z ≤ b → (T b).1 = 0) (hJ0 : ∀ b, z ≤ b → ∀ j, J b j = 0) (hz5 : 205 ≤ z) (hs : sK T J) (hw : oW S) (hP : cPl J S) (h16 : S 16 < 5) : ∃ (R' : Nat → Nat → Option Nat) (J' : mR), rn_c (d + 27) 65 [.ref 100] (T, oI J, L, R, z, w) = some (some (.int (iI (townV (fun j => S (30 + j)) (S 19) (S 16)))), (T7 z T, oI J', L, R', z + 7, w + 217)) ∧ (∀ b, ¬ b = 101 → ¬ (z ≤ b ∧ b ≤ z + 6) → J' b = J b) ∧ J' 101 = toS (S 19) (S 16) (tnP (fun j => S (30 + j)) (S 19)) (J 101) ∧ rE T R R' ∧ tc (T7 z T) R' z ∧ (∀ b j, ¬ b = z → ¬ (b = 101 ∧ j = 4) → R' b j = R b j) ∧ R' 101 4 = (if tw (tnP (fun j => S (30 + j)) (S 19)) = 0 then (if (tnP (fun j => S (30 + j)) (S 19)).1 = S 19 then some z else R 101 4) else R 101 4) ∧ (∀ cs', (tnP (fun j => S (30 + j)) (S 19)).2 = some cs' → (tnP (fun j => S (30 + j)) (S 19)).1 = S 19 → tkR J' z cs' ∧ J' z 9 ≤ 120) := by
  obtain ⟨w1, w2, w3, w4, w5, w6, w7, w8⟩ := id hw
  obtain ⟨⟨p1, p2, p3, p4⟩, p5, p6, p7, p8⟩ := id hP
  have hM7 : cM (T7 z T) (R7 z R) := cM_x hM (T7_E hz) (R7_E hz)
  obtain ⟨K, hK⟩ : ∃ K, K = ur J z (inV (J z)) := ⟨_, rfl⟩
  have ko : ∀ b, ¬ b = z → K b = J b := fun b hb => by rw [hK, ur_o hb]
  have kz : K z = inV (J z) := by rw [hK, ur_r]
  have hsK : sK (T7 z T) K := ⟨fun i hi => by rw [T7_o (by omega), T7_o (by omega)]; exact hs.1 i hi, fun i k hi hk => by rw [ko _ (by omega)]; exact hs.2 i k hi hk⟩
  have hk0 : tkR K z [] := by
    refine ⟨fun c hc => absurd hc (List.not_mem_nil), fun h s _ _ _ _ => ?_, ⟨?_, ?_⟩, ?_, fun j _ _ => ?_, ?_, ?_, ?_⟩
    · rw [ko _ (by omega), hJ0 _ (by omega)]; rfl
    · rw [kz]; unfold inV; simp (disch := omega) only [up_r, up_o]
    · rw [kz]; unfold inV; simp (disch := omega) only [up_r, up_o]
    · have : K z 7 = 0 := by rw [kz]; unfold inV; simp (disch := omega) only [up_r, up_o]
      rw [this]; exact ⟨by omega, by simp⟩
    · rw [ko _ (by omega), hJ0 _ (by omega)]; omega
    · rw [kz]; unfold inV; simp (disch := omega) only [up_r, up_o]; rfl
    · rw [kz]; unfold inV; simp (disch := omega) only [up_r, up_o]; rfl
    · rw [kz]; unfold inV; simp (disch := omega) only [up_r, up_o]; rfl
  obtain ⟨J1, run1, f1, k1⟩ := t_readFrom (d := d + 1) (x := fun j => S (30 + j)) (L := L) (z := z + 7) (w := w + 217) (J := K) tc_7 hz5 hM7.t115 w4 (fun j j0 j1 => by rw [ko 115 (by omega)]; exact ⟨p7 j j0 j1, w7 j j0 j1⟩) hsK hk0 (by rw [kz]; unfold inV; simp (disch := omega) only [up_r, up_o]) (by rw [kz]; unfold inV; simp (disch := omega) only [up_r, up_o])
  have x1 : J1 101 = J 101 := (f1 101 (by omega)).trans (ko 101 (by omega))
  have ini := t_init (d := d + 25) (T := T) (J := J) (L := L) (R := R) (z := z) (w := w + 14)
  rw [← hK, show w + 14 + 203 = w + 217 by omega] at ini
  obtain ⟨R1, hR1⟩ : ∃ R1, R1 = am_u (R7 z R) z 11 (some 115) := ⟨_, rfl⟩
  rw [← hR1] at run1
  have ro : ∀ b j, ¬ b = z → R1 b j = R b j := by
    intro b j hb
    rw [hR1]; unfold am_u; rw [if_neg (by omega)]; exact R7_o hb
  have hR1E : rE T R R1 := by
    intro b j hb _ _ _ _
    exact ro b j (fun q => hb (hz b (by omega)))
  have hM1 : cM (T7 z T) R1 := cM_x hM (T7_E hz) hR1E
  have tc1 : tc (T7 z T) R1 z := by rw [hR1]; exact tc_11 tc_7
  have tz : T7 z T z = (8, 0) := tc1.1
  obtain ⟨g1, g2⟩ := tnP_g (t := fun j => S (30 + j)) (n := S 19) w4.1
  have R2r : ∀ b j, ¬ (b = 101 ∧ j = 4) → am_u R1 101 4 (some z) b j = R1 b j := fun b j hb => by unfold am_u; rw [if_neg hb]
  have r12 : am_u R1 101 4 (some z) 100 0 = some 101 := (R2r 100 0 (by omega)).trans hM1.r100_0
  unfold townV toS
  unfold rfV at run1
  generalize tnP (fun j => S (30 + j)) (S 19) = r at *
  by_cases c1 : tw r = 0
  · by_cases c2 : r.1 = S 19
    · rw [if_pos c1, if_pos c2] at run1
      rw [if_pos c1, if_pos c2, if_pos c1, if_pos c2, if_pos c1, if_pos c2]
      refine ⟨am_u R1 101 4 (some z), ur J1 101 (up (up (J 101) 5 (S 16 + 1)) 7 0), ?_, fun b b1 b2 => ?_, ?_, ?_, ?_, fun b j b1 b2 => ?_, ?_, fun cs' q e => ?_⟩
      · simp (disch := first | omega | exact hJ _ _ | exact rJ_g hJ _ _ | (simp (disch := omega) only [ur_r, ur_o, up_r, up_o]; omega) | assumption) only [c65, c65, s65_0, s65_0v, s65_1, s65_4, s65_7, b65_8, s65_11, s65_13, s65_14, s65_17, s65_18, s65_21, s65_21n, s65_21v, s65_22, s65_22v, s65_23, s65_23v, s65_24, s65_27, s65_30, s65_30v, s65_31, s65_34, s65_37, s65_40, s65_41, s65_41v, s65_42, s65_45, s65_46, s65_49, s65_50, b65_51, s65_54, s65_56, s65_57, s65_58, s65_59, s65_59v, s65_60, s65_63, s65_63v, s65_64, s65_64n, s65_67, s65_67v, s65_68, s65_71, s65_72, s65_75, s65_76, s65_77, s65_80, s65_80v, s65_81, s65_84, s65_87, s65_88, s65_89, hM.t100, hM.t101, hM.r100_0, v_s, p1, p2, tu_r, ini, hM7.t100, hM7.t101, hM7.r100_0, hM7.r101_6, hM1.t100, hM1.t101, hM1.r100_0, ko, x1, run1, tz, r12, up_c, List.contains_cons, List.contains_nil, beq_self_eq_true, Bool.or_false, Nat.reduceLeDiff, Int.add_sub_cancel, kl_i, kl_r, kl_l, kl_n, kl_z, bd_s, tl_s, tl_n, ap_c, ap_n, v_s, v_n, nd_1, nd_0, ct13, eq_self, iI_add, iI_sub, iI_mul, iI_nat, iI_eq, iI_lt, iI_le, iI_eq0, iI_lt0, ↓reduceIte, if_true, if_false, not_true_eq_false, not_false_eq_true, true_and, and_true, false_and, and_false, true_or, or_true, false_or, or_false, Int.reduceLT, Int.reduceLE, Int.reduceEq, Int.reduceAdd, Int.reduceSub, Int.reduceMul, Nat.reduceAdd, Nat.reduceLT, Nat.reduceEqDiff, Int.reduceNeg, nc_s, nc_0, Int.zero_add, Int.add_zero, oI_r, oI_w, oI_f0, oI_g0, oI_f1, oI_g1, oI_f2, oI_g2, oI_f3, oI_g3, oI_f4, oI_g4, oI_f5, oI_g5, oI_f6, oI_g6, oI_f7, oI_g7, oI_f8, oI_g8, oI_f9, oI_g9, oI_f10, oI_g10, oI_f11, oI_g11, oI_f12, oI_g12, oI_f13, oI_g13, oI_f14, oI_g14, oI_f15, oI_g15, oI_f16, oI_g16, oI_f17, oI_g17, oI_f18, oI_g18, oI_f19, oI_g19, oI_f20, oI_g20, oI_f21, oI_g21, oI_f22, oI_g22, oI_f23, oI_g23, oI_f24, oI_g24, oI_f25, oI_g25, ur_r, ur_o, ur_s, up_r, up_o, up_s, jI_add, jI_sub, jI_mul, jI_neg, jI_i, jI_n, lgc_j, cj_lt, cj_ge, cj_gt, cj_le, cj_eq, oL_r, oL_w, oL_f6, oL_g6, oL_f7, oL_g7, oL_f17, oL_g17, oL_f18, oL_g18, dl_T, dl_F, de_T, de_F, dle_T, dle_F, iI_divn, rem_n, nd_v, ct_s, Bool.false_eq_true]
      · rw [ur_o b1]; exact (f1 b (by omega)).trans (ko b (by omega))
      · rw [ur_r]
      · intro b j hb h1 h2 h3 h4
        rw [R2r b j h3]; exact hR1E b j hb h1 h2 h3 h4
      · have : ∀ j, am_u R1 101 4 (some z) z j = R1 z j := fun j => R2r z j (by omega)
        unfold tc at tc1 ⊢
        simp only [this]
        exact tc1
      · rw [R2r b j b2]; exact ro b j b1
      · unfold am_u; rw [if_pos ⟨rfl, rfl⟩]
      · obtain ⟨a1, a2⟩ := k1 cs' q e
        refine ⟨tkR_x a1 (fun b b1 b2 => ur_o (by omega)), ?_⟩
        rw [ur_o (by omega)]; omega
    · rw [if_pos c1, if_neg c2] at run1
      rw [if_pos c1, if_neg c2, if_pos c1, if_neg c2, if_pos c1, if_neg c2]
      refine ⟨R1, ur J1 101 (up (J 101) 7 0), ?_, fun b b1 b2 => ?_, ?_, hR1E, tc1, fun b j b1 b2 => ro b j b1, ro 101 4 (by omega), fun cs' q e => absurd e c2⟩
      · simp (disch := first | omega | exact hJ _ _ | exact rJ_g hJ _ _ | (simp (disch := omega) only [ur_r, ur_o, up_r, up_o]; omega) | assumption) only [c65, s65_0, s65_0v, s65_1, s65_4, s65_7, b65_8, s65_11, s65_13, s65_14, s65_17, s65_18, s65_21, s65_21n, s65_21v, s65_22, s65_22v, s65_23, s65_23v, s65_24, s65_27, s65_30, s65_30v, s65_31, s65_34, s65_37, s65_40, s65_41, s65_41v, s65_42, s65_45, s65_46, s65_49, s65_50, b65_51, s65_54, s65_56, s65_57, s65_58, hM.t100, hM.t101, hM.r100_0, v_s, p1, p2, tu_r, ini, hM7.t100, hM7.t101, hM7.r100_0, hM7.r101_6, hM1.t100, hM1.t101, hM1.r100_0, ko, x1, run1, tz, up_c, List.contains_cons, List.contains_nil, beq_self_eq_true, Bool.or_false, kl_i, kl_r, kl_l, kl_n, kl_z, bd_s, tl_s, tl_n, ap_c, ap_n, v_s, v_n, nd_1, nd_0, ct13, eq_self, iI_add, iI_sub, iI_mul, iI_nat, iI_eq, iI_lt, iI_le, iI_eq0, iI_lt0, ↓reduceIte, if_true, if_false, not_true_eq_false, not_false_eq_true, true_and, and_true, false_and, and_false, true_or, or_true, false_or, or_false, Int.reduceLT, Int.reduceLE, Int.reduceEq, Int.reduceAdd, Int.reduceSub, Int.reduceMul, Nat.reduceAdd, Nat.reduceLT, Nat.reduceEqDiff, Int.reduceNeg, nc_s, nc_0, Int.zero_add, Int.add_zero, oI_r, oI_w, oI_f0, oI_g0, oI_f1, oI_g1, oI_f2, oI_g2, oI_f3, oI_g3, oI_f4, oI_g4, oI_f5, oI_g5, oI_f6, oI_g6, oI_f7, oI_g7, oI_f8, oI_g8, oI_f9, oI_g9, oI_f10, oI_g10, oI_f11, oI_g11, oI_f12, oI_g12, oI_f13, oI_g13, oI_f14, oI_g14, oI_f15, oI_g15, oI_f16, oI_g16, oI_f17, oI_g17, oI_f18, oI_g18, oI_f19, oI_g19, oI_f20, oI_g20, oI_f21, oI_g21, oI_f22, oI_g22, oI_f23, oI_g23, oI_f24, oI_g24, oI_f25, oI_g25, ur_r, ur_o, ur_s, up_r, up_o, up_s, jI_add, jI_sub, jI_mul, jI_neg, jI_i, jI_n, lgc_j, cj_lt, cj_ge, cj_gt, cj_le, cj_eq, oL_r, oL_w, oL_f6, oL_g6, oL_f7, oL_g7, oL_f17, oL_g17, oL_f18, oL_g18, dl_T, dl_F, de_T, de_F, dle_T, dle_F, iI_divn, rem_n, nd_v, ct_s, Bool.false_eq_true]
      · rw [ur_o b1]; exact (f1 b (by omega)).trans (ko b (by omega))
      · rw [ur_r]
  · rw [if_neg c1] at run1
    rw [if_neg c1, if_neg c1, if_neg c1]
    refine ⟨R1, ur J1 101 (up (J 101) 7 0), ?_, fun b b1 b2 => ?_, ?_, hR1E, tc1, fun b j b1 b2 => ro b j b1, ro 101 4 (by omega), fun cs' q e => ?_⟩
    · simp (disch := first | omega | exact hJ _ _ | exact rJ_g hJ _ _ | (simp (disch := omega) only [ur_r, ur_o, up_r, up_o]; omega) | assumption) only [c65, s65_0, s65_0v, s65_1, s65_4, s65_7, b65_8, s65_11, s65_13, s65_14, s65_17, s65_18, s65_21, s65_21n, s65_21v, s65_22, s65_22v, s65_23, s65_23v, s65_24, s65_27, s65_30, s65_30v, s65_31, s65_34, s65_37, s65_40, s65_41, s65_41v, s65_42, s65_45, s65_46, s65_49, s65_50, b65_51, s65_54, s65_56, s65_57, s65_58, hM.t100, hM.t101, hM.r100_0, v_s, p1, p2, tu_r, ini, hM7.t100, hM7.t101, hM7.r100_0, hM7.r101_6, hM1.t100, hM1.t101, hM1.r100_0, ko, x1, run1, tz, up_c, List.contains_cons, List.contains_nil, beq_self_eq_true, Bool.or_false, kl_i, kl_r, kl_l, kl_n, kl_z, bd_s, tl_s, tl_n, ap_c, ap_n, v_s, v_n, nd_1, nd_0, ct13, eq_self, iI_add, iI_sub, iI_mul, iI_nat, iI_eq, iI_lt, iI_le, iI_eq0, iI_lt0, ↓reduceIte, if_true, if_false, not_true_eq_false, not_false_eq_true, true_and, and_true, false_and, and_false, true_or, or_true, false_or, or_false, Int.reduceLT, Int.reduceLE, Int.reduceEq, Int.reduceAdd, Int.reduceSub, Int.reduceMul, Nat.reduceAdd, Nat.reduceLT, Nat.reduceEqDiff, Int.reduceNeg, nc_s, nc_0, Int.zero_add, Int.add_zero, oI_r, oI_w, oI_f0, oI_g0, oI_f1, oI_g1, oI_f2, oI_g2, oI_f3, oI_g3, oI_f4, oI_g4, oI_f5, oI_g5, oI_f6, oI_g6, oI_f7, oI_g7, oI_f8, oI_g8, oI_f9, oI_g9, oI_f10, oI_g10, oI_f11, oI_g11, oI_f12, oI_g12, oI_f13, oI_g13, oI_f14, oI_g14, oI_f15, oI_g15, oI_f16, oI_g16, oI_f17, oI_g17, oI_f18, oI_g18, oI_f19, oI_g19, oI_f20, oI_g20, oI_f21, oI_g21, oI_f22, oI_g22, oI_f23, oI_g23, oI_f24, oI_g24, oI_f25, oI_g25, ur_r, ur_o, ur_s, up_r, up_o, up_s, jI_add, jI_sub, jI_mul, jI_neg, jI_i, jI_n, lgc_j, cj_lt, cj_ge, cj_gt, cj_le, cj_eq, oL_r, oL_w, oL_f6, oL_g6, oL_f7, oL_g7, oL_f17, oL_g17, oL_f18, oL_g18, dl_T, dl_F, de_T, de_F, dle_T, dle_F, iI_divn, rem_n, nd_v, ct_s, Bool.false_eq_true]
    · rw [ur_o b1]; exact (f1 b (by omega)).trans (ko b (by omega))
    · rw [ur_r]
    · exfalso
      apply c1
      unfold tw
      rw [q]
end TG
