/-! the class: stand, step, row, book, count -/
section PL
variable {d : Nat} {T : Nat → Nat × Nat} {L : Nat → Nat → Int64} {R : Nat → Nat → Option Nat} {z w : Nat} {J Q : mR} {t : Nat} {S : Int → Int} {cs : List CL}
/-- what the methods that tell of a state change -/
def fM (t : Nat) (J J' : mR) : Prop := ∀ b, ¬ (101 ≤ b ∧ b ≤ 107) → ¬ (115 ≤ b ∧ b ≤ 118) → ¬ (141 ≤ b ∧ b ≤ 192) → ¬ b = t + 6 → J' b = J b
theorem fM.i : fM t J J := fun _ _ _ _ _ => rfl
theorem wF.m {J J' : mR} (h : wF t J J') : fM t J J' := fun b b1 _ b3 b4 => h b (by omega) b3 b4
theorem cS_m {J' : mR} {S' : Int → Int} (hM : cM T R) (h : cS T R J t cs S) (hT : oT S) (f : fM t J J') (hF : ∀ j, 0 ≤ j → j < 5 → i32 (J' (t + 6) j)) (hz : cz J') (hx : ∀ j, (220 ≤ j ∧ j < 235) ∨ j = 20 → S' j = S j) (hy : ∀ j, (150 ≤ j ∧ j < 174) ∨ j = 15 → S' j = S j) (h15 : S 15 ≤ 6) (h3 : J' 101 3 = S' 15) (h74 : ∀ p : Nat, (p : Int) < S 15 → J' 107 p = S' (174 + p)) (hn : nw J' S') : cS T R J' t cs S' := by
  obtain ⟨⟨g1, g2, g3, g4, g5, g6, g7⟩, hn0, hz0⟩ := h
  have h7 := g7
  unfold tpl at h7
  have ht : ∀ b, t ≤ b → b < t + 6 → J' b = J b := fun b b1 b2 => f b (by omega) (by omega) (by omega) (by omega)
  have tl : ∀ a b, 220 ≤ a → a ≤ 230 → tlS S' a b = tlS S a b := by
    intro a b ha hb
    have := hT.1
    unfold tlS
    rw [hx 20 (by omega)]
    split
    · rfl
    · rw [hx _ (by omega)]
  have gt := ht t (by omega) (by omega)
  refine ⟨⟨?_, g2, ⟨fun q hq => ?_, h3⟩, by rw [gt, tl _ _ (by omega) (by omega)]; exact g4, by rw [gt, tl _ _ (by omega) (by omega)]; exact g5, by rw [gt, tl _ _ (by omega) (by omega)]; exact g6, g7⟩, hn, hz⟩
  · obtain ⟨f1, f2, f3, f4, f5, f6, f7⟩ := g1
    refine ⟨f1, f2, fun h s a1 a2 a3 a4 => ?_, loR_x gt (ht (t + 2) (by omega) (by omega)) (ht (t + 3) (by omega) (by omega)) (ht (t + 4) (by omega) (by omega)) (ht (t + 5) (by omega) (by omega)) cs 0 0 f4, ?_, ?_, hF⟩
    · rw [ht (t + 1) (by omega) (by omega)]; exact f3 h s a1 a2 a3 a4
    · rw [gt]; exact f5
    · rw [gt]; exact f6
  · rw [hy 15 (by omega)] at hq
    obtain ⟨⟨y, y1, y2⟩, y3, y4⟩ := g3.1 q hq
    obtain ⟨l1, l2, l3, l4⟩ := y2.pl hM g1.1
    refine ⟨⟨y, y1, ?_⟩, h74 q hq, by rw [hy _ (by omega), hy _ (by omega)]; exact y4⟩
    unfold pc1 at y2 ⊢
    rw [f y (by omega) (by omega) l3 (by omega), hy _ (by omega), hy (162 + q) (by omega), hy (168 + q) (by omega), hy (156 + q) (by omega)]
    exact y2
theorem c_stand (hM : cM T R) (ho : oR (tokL cs) S) (h : cS T R J t cs S) (hP : cPl J S) (a n : Int) (ha : i32 a) (hn : i32 n) : ∃ J' : mR, rn_c (d + 20) 63 [.ref 100, .int (iI a), .int (iI n)] (T, oI J, L, R, z, w) = some (some (.int (iI (standV S a n))), (T, oI J', L, R, z, w)) ∧ fM t J J' ∧ cS T R J' t cs (standS S a n) ∧ cPl J' (standS S a n) := by
  by_cases c : 0 ≤ a ∧ a ≤ 3 ∧ 0 ≤ n ∧ n ≤ 9
  · obtain ⟨n1, n2, n3, n4, n5⟩ := h.2.1
    have h7 := h.1.2.2.2.2.2.2
    unfold tpl at h7
    have es : standS S a n = up S a n := by unfold standS; rw [if_neg (by omega), if_neg (by omega), if_neg (by omega), if_neg (by omega)]
    have v := n1 a (by omega)
    have a1 := hM.w102.a1 a (by omega)
    have b1 := hM.w102.b1 a (by omega)
    simp only [Nat.reduceAdd] at a1 b1
    have f : ∀ b, ¬ b = 103 → (ur J 103 (up (J 103) a n)) b = J b := fun b hb => ur_o hb
    rw [es]
    refine ⟨ur J 103 (up (J 103) a n), ?_, fun b b1 _ _ _ => f b (by omega), cS_m hM h ho.2.2.2.1 (fun b b1 _ _ _ => f b (by omega)) (fun j j0 j5 => by rw [f _ (by omega)]; exact h.1.1.2.2.2.2.2.2 j j0 j5) (fun k hk j hj => by rw [f _ (by omega)]; exact h.2.2 k hk j hj) (fun j hj => up_o (by omega)) (fun j hj => up_o (by omega)) ho.1.2.2.2.2.2 (by rw [f _ (by omega), up_o (by omega)]; exact h.1.2.2.1.2) (fun p hp => by rw [f _ (by omega), up_o (by omega)]; exact (h.1.2.2.1.1 p hp).2.1) ⟨fun j hj => ?_, fun p hp => ?_, ?_, ?_, fun j hj => ?_⟩, ?_⟩
    · unfold standV
      simp (disch := first | omega | exact hJ _ _ | exact rJ_g hJ _ _ | (simp (disch := omega) only [ur_r, ur_o, up_r, up_o]; omega) | assumption) only [c63, s63_0, s63_1, b63_4, s63_7, s63_8, s63_9, b63_10, s63_13, s63_14, b63_16, s63_19, s63_21, s63_22, s63_22v, s63_23, s63_26, s63_29, s63_32, s63_33, s63_34, s63_35, s63_35v, s63_36, s63_39, s63_42, s63_45, s63_46, s63_47, s63_48, s63_49, hM.t100, hM.t101, hM.r100_0, hM.r101_0, hM.w102.t0, hM.w102.r0, Nat.reduceAdd, v_s, c_isDoor, a1, b1, v, kl_i, kl_r, kl_l, kl_n, kl_z, bd_s, tl_s, tl_n, ap_c, ap_n, v_s, v_n, nd_1, nd_0, ct13, eq_self, iI_add, iI_sub, iI_mul, iI_nat, iI_eq, iI_lt, iI_le, iI_eq0, iI_lt0, ↓reduceIte, if_true, if_false, not_true_eq_false, not_false_eq_true, true_and, and_true, false_and, and_false, true_or, or_true, false_or, or_false, Int.reduceLT, Int.reduceLE, Int.reduceEq, Int.reduceAdd, Int.reduceSub, Int.reduceMul, Nat.reduceAdd, Nat.reduceLT, Nat.reduceEqDiff, Int.reduceNeg, nc_s, nc_0, Int.zero_add, Int.add_zero, oI_r, oI_w, oI_f0, oI_g0, oI_f1, oI_g1, oI_f2, oI_g2, oI_f3, oI_g3, oI_f4, oI_g4, oI_f5, oI_g5, oI_f6, oI_g6, oI_f7, oI_g7, oI_f8, oI_g8, oI_f9, oI_g9, oI_f10, oI_g10, oI_f11, oI_g11, oI_f12, oI_g12, oI_f13, oI_g13, oI_f14, oI_g14, oI_f15, oI_g15, oI_f16, oI_g16, oI_f17, oI_g17, oI_f18, oI_g18, oI_f19, oI_g19, oI_f20, oI_g20, oI_f21, oI_g21, oI_f22, oI_g22, oI_f23, oI_g23, oI_f24, oI_g24, oI_f25, oI_g25, ur_r, ur_o, ur_s, up_r, up_o, up_s, jI_add, jI_sub, jI_mul, jI_neg, jI_i, jI_n, lgc_j, cj_lt, cj_ge, cj_gt, cj_le, cj_eq, oL_r, oL_w, oL_f6, oL_g6, oL_f7, oL_g7, oL_f17, oL_g17, oL_f18, oL_g18, dl_T, dl_F, de_T, de_F, dle_T, dle_F, iI_divn, rem_n, nd_v, ct_s, Bool.false_eq_true]
    · rw [ur_r]
      unfold up
      split
      · rfl
      · exact n1 j hj
    · rw [f _ (by omega), n2 p hp]; unfold dOf; simp (disch := omega) only [up_o]
    · rw [f _ (by omega), up_o (by omega)]; exact n3
    · rw [f _ (by omega), up_o (by omega)]; exact n4
    · rw [f _ (by omega)]; exact n5 j hj
    · obtain ⟨p1, p2, p3, p4, p5⟩ := hP
      unfold cPl
      rw [f 101 (by omega), f 115 (by omega), f 116 (by omega), f 117 (by omega), f 118 (by omega), up_o (by omega), up_o (by omega), up_o (by omega), up_o (by omega)]
      refine ⟨p1, fun k k0 k1 => ?_, fun k k0 k1 => ?_, fun k k0 k1 => ?_, p5⟩
      · rw [up_o (by omega)]; exact p2 k k0 k1
      · rw [up_o (by omega), up_o (by omega)]; exact p3 k k0 k1
      · rw [up_o (by omega)]; exact p4 k k0 k1
  · have es : standS S a n = S := by
      unfold standS
      repeat' split
      all_goals first | rfl | omega
    rw [es]
    refine ⟨J, ?_, fM.i, h, hP⟩
    unfold standV
    (simp (disch := first | omega | exact hJ _ _ | exact rJ_g hJ _ _ | (simp (disch := omega) only [ur_r, ur_o, up_r, up_o]; omega) | assumption) only [c63, s63_0, s63_1, b63_4, s63_7, s63_8, s63_9, b63_10, s63_13, s63_14, b63_16, s63_19, s63_21, c_isDoor, kl_i, kl_r, kl_l, kl_n, kl_z, bd_s, tl_s, tl_n, ap_c, ap_n, v_s, v_n, nd_1, nd_0, ct13, eq_self, iI_add, iI_sub, iI_mul, iI_nat, iI_eq, iI_lt, iI_le, iI_eq0, iI_lt0, ↓reduceIte, if_true, if_false, not_true_eq_false, not_false_eq_true, true_and, and_true, false_and, and_false, true_or, or_true, false_or, or_false, Int.reduceLT, Int.reduceLE, Int.reduceEq, Int.reduceAdd, Int.reduceSub, Int.reduceMul, Nat.reduceAdd, Nat.reduceLT, Nat.reduceEqDiff, Int.reduceNeg, nc_s, nc_0, Int.zero_add, Int.add_zero, oI_r, oI_w, oI_f0, oI_g0, oI_f1, oI_g1, oI_f2, oI_g2, oI_f3, oI_g3, oI_f4, oI_g4, oI_f5, oI_g5, oI_f6, oI_g6, oI_f7, oI_g7, oI_f8, oI_g8, oI_f9, oI_g9, oI_f10, oI_g10, oI_f11, oI_g11, oI_f12, oI_g12, oI_f13, oI_g13, oI_f14, oI_g14, oI_f15, oI_g15, oI_f16, oI_g16, oI_f17, oI_g17, oI_f18, oI_g18, oI_f19, oI_g19, oI_f20, oI_g20, oI_f21, oI_g21, oI_f22, oI_g22, oI_f23, oI_g23, oI_f24, oI_g24, oI_f25, oI_g25, ur_r, ur_o, ur_s, up_r, up_o, up_s, jI_add, jI_sub, jI_mul, jI_neg, jI_i, jI_n, lgc_j, cj_lt, cj_ge, cj_gt, cj_le, cj_eq, oL_r, oL_w, oL_f6, oL_g6, oL_f7, oL_g7, oL_f17, oL_g17, oL_f18, oL_g18, dl_T, dl_F, de_T, de_F, dle_T, dle_F, iI_divn, rem_n, nd_v, ct_s, Bool.false_eq_true]; repeat' (split <;> (try simp (disch := first | omega | exact hJ _ _ | exact rJ_g hJ _ _ | (simp (disch := omega) only [ur_r, ur_o, up_r, up_o]; omega) | assumption) only [c63, s63_0, s63_1, b63_4, s63_7, s63_8, s63_9, b63_10, s63_13, s63_14, b63_16, s63_19, s63_21, c_isDoor, kl_i, kl_r, kl_l, kl_n, kl_z, bd_s, tl_s, tl_n, ap_c, ap_n, v_s, v_n, nd_1, nd_0, ct13, eq_self, iI_add, iI_sub, iI_mul, iI_nat, iI_eq, iI_lt, iI_le, iI_eq0, iI_lt0, ↓reduceIte, if_true, if_false, not_true_eq_false, not_false_eq_true, true_and, and_true, false_and, and_false, true_or, or_true, false_or, or_false, Int.reduceLT, Int.reduceLE, Int.reduceEq, Int.reduceAdd, Int.reduceSub, Int.reduceMul, Nat.reduceAdd, Nat.reduceLT, Nat.reduceEqDiff, Int.reduceNeg, nc_s, nc_0, Int.zero_add, Int.add_zero, oI_r, oI_w, oI_f0, oI_g0, oI_f1, oI_g1, oI_f2, oI_g2, oI_f3, oI_g3, oI_f4, oI_g4, oI_f5, oI_g5, oI_f6, oI_g6, oI_f7, oI_g7, oI_f8, oI_g8, oI_f9, oI_g9, oI_f10, oI_g10, oI_f11, oI_g11, oI_f12, oI_g12, oI_f13, oI_g13, oI_f14, oI_g14, oI_f15, oI_g15, oI_f16, oI_g16, oI_f17, oI_g17, oI_f18, oI_g18, oI_f19, oI_g19, oI_f20, oI_g20, oI_f21, oI_g21, oI_f22, oI_g22, oI_f23, oI_g23, oI_f24, oI_g24, oI_f25, oI_g25, ur_r, ur_o, ur_s, up_r, up_o, up_s, jI_add, jI_sub, jI_mul, jI_neg, jI_i, jI_n, lgc_j, cj_lt, cj_ge, cj_gt, cj_le, cj_eq, oL_r, oL_w, oL_f6, oL_g6, oL_f7, oL_g7, oL_f17, oL_g17, oL_f18, oL_g18, dl_T, dl_F, de_T, de_F, dle_T, dle_F, iI_divn, rem_n, nd_v, ct_s, Bool.false_eq_true])))
theorem cPl_o {J' : mR} {S' : Int → Int} (h : cPl J S) (hw : oW S) (e1 : J' 101 = J 101) (e2 : ∀ b, 115 ≤ b ∧ b ≤ 118 → J' b = J b) (hx : ∀ j, (16 ≤ j ∧ j < 20) ∨ (30 ≤ j ∧ j < 150) ∨ (180 ≤ j ∧ j < 220) → S' j = S j) : cPl J' S' := by
  obtain ⟨w1, w2, w3, w4, _⟩ := hw
  obtain ⟨p1, p2, p3, p4, p5⟩ := h
  unfold cPl
  rw [e1, e2 115 (by omega), e2 116 (by omega), e2 117 (by omega), e2 118 (by omega), hx 16 (by omega), hx 17 (by omega), hx 18 (by omega), hx 19 (by omega)]
  refine ⟨p1, fun k k0 k1 => ?_, fun k k0 k1 => ?_, fun k k0 k1 => ?_, p5⟩
  · rw [hx _ (by omega)]; exact p2 k k0 k1
  · rw [hx _ (by omega), hx _ (by omega)]; exact p3 k k0 k1
  · rw [hx _ (by omega)]; exact p4 k k0 k1
theorem c_step (hM : cM T R) (ho : oR (tokL cs) S) (hw : oW S) (h : cS T R J t cs S) (hP : cPl J S) (p n : Int) (hp : i32 p) (hn : i32 n) : ∃ J' : mR, rn_c (d + 20) 68 [.ref 100, .int (iI p), .int (iI n)] (T, oI J, L, R, z, w) = some (some (.int (iI (stepV S p n))), (T, oI J', L, R, z, w)) ∧ fM t J J' ∧ cS T R J' t cs (stepS S p n) ∧ cPl J' (stepS S p n) := by
  have h15 := ho.1.2.2.2.2
  have pa := c_personAt (d := d + 19) (J := J) (L := L) (z := z) (w := w) hM h.1.2.2.1 p hp h15
  by_cases c : 0 ≤ p ∧ p < S 15
  · obtain ⟨x, y1, hx, y3, y4, y5⟩ := cP1 hM h.1.2.2.1 p c h15.2
    rw [if_neg (by omega), if_neg (by omega), y1, v_s] at pa
    by_cases cn : 1 ≤ n ∧ n ≤ 9
    · obtain ⟨n1, n2, n3, n4, n5⟩ := h.2.1
      have h7 := h.1.2.2.2.2.2.2
      unfold tpl at h7
      have es : stepS S p n = up S (174 + p) n := by unfold stepS; rw [if_neg (by omega), if_neg (by omega), if_neg (by omega), if_neg (by omega)]
      have a1 := hM.a107 p (by omega)
      have b1 := hM.b107 p (by omega)
      have f : ∀ b, ¬ b = 107 → (ur J 107 (up (J 107) p n)) b = J b := fun b hb => ur_o hb
      rw [es]
      refine ⟨ur J 107 (up (J 107) p n), ?_, fun b b1 _ _ _ => f b (by omega), cS_m hM h ho.2.2.2.1 (fun b b1 _ _ _ => f b (by omega)) (fun j j0 j5 => by rw [f _ (by omega)]; exact h.1.1.2.2.2.2.2.2 j j0 j5) (fun k hk j hj => by rw [f _ (by omega)]; exact h.2.2 k hk j hj) (fun j hj => up_o (by omega)) (fun j hj => up_o (by omega)) h15.2 (by rw [f _ (by omega), up_o (by omega)]; exact h.1.2.2.1.2) (fun q hq => ?_) ⟨fun j hj => ?_, fun q hq => ?_, ?_, ?_, fun j hj => ?_⟩, cPl_o hP hw (f _ (by omega)) (fun b hb => f b (by omega)) (fun j hj => up_o (by omega))⟩
      · unfold stepV
        simp (disch := first | omega | exact hJ _ _ | exact rJ_g hJ _ _ | (simp (disch := omega) only [ur_r, ur_o, up_r, up_o]; omega) | assumption) only [c68, s68_0, s68_0v, s68_1, s68_2, s68_5, s68_5n, s68_8, s68_9, s68_10, s68_11, b68_12, s68_15, s68_16, b68_18, s68_21, s68_23, s68_24, s68_24v, s68_25, s68_28, s68_31, s68_32, s68_33, s68_34, s68_34v, s68_35, s68_38, s68_41, s68_42, s68_43, s68_44, s68_45, hM.t100, hM.t101, hM.r100_0, hM.r101_2, v_s, pa, y5, a1, b1, y3, kl_i, kl_r, kl_l, kl_n, kl_z, bd_s, tl_s, tl_n, ap_c, ap_n, v_s, v_n, nd_1, nd_0, ct13, eq_self, iI_add, iI_sub, iI_mul, iI_nat, iI_eq, iI_lt, iI_le, iI_eq0, iI_lt0, ↓reduceIte, if_true, if_false, not_true_eq_false, not_false_eq_true, true_and, and_true, false_and, and_false, true_or, or_true, false_or, or_false, Int.reduceLT, Int.reduceLE, Int.reduceEq, Int.reduceAdd, Int.reduceSub, Int.reduceMul, Nat.reduceAdd, Nat.reduceLT, Nat.reduceEqDiff, Int.reduceNeg, nc_s, nc_0, Int.zero_add, Int.add_zero, oI_r, oI_w, oI_f0, oI_g0, oI_f1, oI_g1, oI_f2, oI_g2, oI_f3, oI_g3, oI_f4, oI_g4, oI_f5, oI_g5, oI_f6, oI_g6, oI_f7, oI_g7, oI_f8, oI_g8, oI_f9, oI_g9, oI_f10, oI_g10, oI_f11, oI_g11, oI_f12, oI_g12, oI_f13, oI_g13, oI_f14, oI_g14, oI_f15, oI_g15, oI_f16, oI_g16, oI_f17, oI_g17, oI_f18, oI_g18, oI_f19, oI_g19, oI_f20, oI_g20, oI_f21, oI_g21, oI_f22, oI_g22, oI_f23, oI_g23, oI_f24, oI_g24, oI_f25, oI_g25, ur_r, ur_o, ur_s, up_r, up_o, up_s, jI_add, jI_sub, jI_mul, jI_neg, jI_i, jI_n, lgc_j, cj_lt, cj_ge, cj_gt, cj_le, cj_eq, oL_r, oL_w, oL_f6, oL_g6, oL_f7, oL_g7, oL_f17, oL_g17, oL_f18, oL_g18, dl_T, dl_F, de_T, de_F, dle_T, dle_F, iI_divn, rem_n, nd_v, ct_s, Bool.false_eq_true]
      · rw [ur_r]
        by_cases e : (q : Int) = p
        · rw [e, up_r, up_r]
        · rw [up_o e, up_o (by omega)]; exact (h.1.2.2.1.1 q hq).2.1
      · rw [f _ (by omega), up_o (by omega)]; exact n1 j hj
      · rw [f _ (by omega), n2 q hq]; unfold dOf; simp (disch := omega) only [up_o]
      · rw [f _ (by omega), up_o (by omega)]; exact n3
      · rw [f _ (by omega), up_o (by omega)]; exact n4
      · rw [f _ (by omega)]; exact n5 j hj
    · have es : stepS S p n = S := by
        unfold stepS
        repeat' split
        all_goals first | rfl | omega
      rw [es]
      refine ⟨J, ?_, fM.i, h, hP⟩
      unfold stepV
      (simp (disch := first | omega | exact hJ _ _ | exact rJ_g hJ _ _ | (simp (disch := omega) only [ur_r, ur_o, up_r, up_o]; omega) | assumption) only [c68, s68_0, s68_0v, s68_1, s68_2, s68_5, s68_5n, s68_8, s68_9, s68_10, s68_11, b68_12, s68_15, s68_16, b68_18, s68_21, s68_23, hM.t100, pa, y5, kl_i, kl_r, kl_l, kl_n, kl_z, bd_s, tl_s, tl_n, ap_c, ap_n, v_s, v_n, nd_1, nd_0, ct13, eq_self, iI_add, iI_sub, iI_mul, iI_nat, iI_eq, iI_lt, iI_le, iI_eq0, iI_lt0, ↓reduceIte, if_true, if_false, not_true_eq_false, not_false_eq_true, true_and, and_true, false_and, and_false, true_or, or_true, false_or, or_false, Int.reduceLT, Int.reduceLE, Int.reduceEq, Int.reduceAdd, Int.reduceSub, Int.reduceMul, Nat.reduceAdd, Nat.reduceLT, Nat.reduceEqDiff, Int.reduceNeg, nc_s, nc_0, Int.zero_add, Int.add_zero, oI_r, oI_w, oI_f0, oI_g0, oI_f1, oI_g1, oI_f2, oI_g2, oI_f3, oI_g3, oI_f4, oI_g4, oI_f5, oI_g5, oI_f6, oI_g6, oI_f7, oI_g7, oI_f8, oI_g8, oI_f9, oI_g9, oI_f10, oI_g10, oI_f11, oI_g11, oI_f12, oI_g12, oI_f13, oI_g13, oI_f14, oI_g14, oI_f15, oI_g15, oI_f16, oI_g16, oI_f17, oI_g17, oI_f18, oI_g18, oI_f19, oI_g19, oI_f20, oI_g20, oI_f21, oI_g21, oI_f22, oI_g22, oI_f23, oI_g23, oI_f24, oI_g24, oI_f25, oI_g25, ur_r, ur_o, ur_s, up_r, up_o, up_s, jI_add, jI_sub, jI_mul, jI_neg, jI_i, jI_n, lgc_j, cj_lt, cj_ge, cj_gt, cj_le, cj_eq, oL_r, oL_w, oL_f6, oL_g6, oL_f7, oL_g7, oL_f17, oL_g17, oL_f18, oL_g18, dl_T, dl_F, de_T, de_F, dle_T, dle_F, iI_divn, rem_n, nd_v, ct_s, Bool.false_eq_true]; repeat' (split <;> (try simp (disch := first | omega | exact hJ _ _ | exact rJ_g hJ _ _ | (simp (disch := omega) only [ur_r, ur_o, up_r, up_o]; omega) | assumption) only [c68, s68_0, s68_0v, s68_1, s68_2, s68_5, s68_5n, s68_8, s68_9, s68_10, s68_11, b68_12, s68_15, s68_16, b68_18, s68_21, s68_23, hM.t100, pa, y5, kl_i, kl_r, kl_l, kl_n, kl_z, bd_s, tl_s, tl_n, ap_c, ap_n, v_s, v_n, nd_1, nd_0, ct13, eq_self, iI_add, iI_sub, iI_mul, iI_nat, iI_eq, iI_lt, iI_le, iI_eq0, iI_lt0, ↓reduceIte, if_true, if_false, not_true_eq_false, not_false_eq_true, true_and, and_true, false_and, and_false, true_or, or_true, false_or, or_false, Int.reduceLT, Int.reduceLE, Int.reduceEq, Int.reduceAdd, Int.reduceSub, Int.reduceMul, Nat.reduceAdd, Nat.reduceLT, Nat.reduceEqDiff, Int.reduceNeg, nc_s, nc_0, Int.zero_add, Int.add_zero, oI_r, oI_w, oI_f0, oI_g0, oI_f1, oI_g1, oI_f2, oI_g2, oI_f3, oI_g3, oI_f4, oI_g4, oI_f5, oI_g5, oI_f6, oI_g6, oI_f7, oI_g7, oI_f8, oI_g8, oI_f9, oI_g9, oI_f10, oI_g10, oI_f11, oI_g11, oI_f12, oI_g12, oI_f13, oI_g13, oI_f14, oI_g14, oI_f15, oI_g15, oI_f16, oI_g16, oI_f17, oI_g17, oI_f18, oI_g18, oI_f19, oI_g19, oI_f20, oI_g20, oI_f21, oI_g21, oI_f22, oI_g22, oI_f23, oI_g23, oI_f24, oI_g24, oI_f25, oI_g25, ur_r, ur_o, ur_s, up_r, up_o, up_s, jI_add, jI_sub, jI_mul, jI_neg, jI_i, jI_n, lgc_j, cj_lt, cj_ge, cj_gt, cj_le, cj_eq, oL_r, oL_w, oL_f6, oL_g6, oL_f7, oL_g7, oL_f17, oL_g17, oL_f18, oL_g18, dl_T, dl_F, de_T, de_F, dle_T, dle_F, iI_divn, rem_n, nd_v, ct_s, Bool.false_eq_true])))
  · have es : stepS S p n = S := by
      unfold stepS
      repeat' split
      all_goals first | rfl | omega
    rw [es]
    have pa' : rn_c (d + 19) 90 [.ref 100, .int (iI p)] (T, oI J, L, R, z, w) = some (some .null, (T, oI J, L, R, z, w)) := by
      rw [pa]
      by_cases c0 : p < 0
      · rw [if_pos c0]
      · rw [if_neg c0, if_pos (by omega)]
    refine ⟨J, ?_, fM.i, h, hP⟩
    unfold stepV
    by_cases c0 : p < 0
    · rw [if_pos c0]
      simp (disch := first | omega | exact hJ _ _ | exact rJ_g hJ _ _ | (simp (disch := omega) only [ur_r, ur_o, up_r, up_o]; omega) | assumption) only [s68_0, s68_0v, s68_1, s68_2, s68_5, s68_5n, s68_8, s68_9, c68, hM.t100, pa', kl_i, kl_r, kl_l, kl_n, kl_z, bd_s, tl_s, tl_n, ap_c, ap_n, v_s, v_n, nd_1, nd_0, ct13, eq_self, iI_add, iI_sub, iI_mul, iI_nat, iI_eq, iI_lt, iI_le, iI_eq0, iI_lt0, ↓reduceIte, if_true, if_false, not_true_eq_false, not_false_eq_true, true_and, and_true, false_and, and_false, true_or, or_true, false_or, or_false, Int.reduceLT, Int.reduceLE, Int.reduceEq, Int.reduceAdd, Int.reduceSub, Int.reduceMul, Nat.reduceAdd, Nat.reduceLT, Nat.reduceEqDiff, Int.reduceNeg, nc_s, nc_0, Int.zero_add, Int.add_zero, oI_r, oI_w, oI_f0, oI_g0, oI_f1, oI_g1, oI_f2, oI_g2, oI_f3, oI_g3, oI_f4, oI_g4, oI_f5, oI_g5, oI_f6, oI_g6, oI_f7, oI_g7, oI_f8, oI_g8, oI_f9, oI_g9, oI_f10, oI_g10, oI_f11, oI_g11, oI_f12, oI_g12, oI_f13, oI_g13, oI_f14, oI_g14, oI_f15, oI_g15, oI_f16, oI_g16, oI_f17, oI_g17, oI_f18, oI_g18, oI_f19, oI_g19, oI_f20, oI_g20, oI_f21, oI_g21, oI_f22, oI_g22, oI_f23, oI_g23, oI_f24, oI_g24, oI_f25, oI_g25, ur_r, ur_o, ur_s, up_r, up_o, up_s, jI_add, jI_sub, jI_mul, jI_neg, jI_i, jI_n, lgc_j, cj_lt, cj_ge, cj_gt, cj_le, cj_eq, oL_r, oL_w, oL_f6, oL_g6, oL_f7, oL_g7, oL_f17, oL_g17, oL_f18, oL_g18, dl_T, dl_F, de_T, de_F, dle_T, dle_F, iI_divn, rem_n, nd_v, ct_s, Bool.false_eq_true]
    · rw [if_neg c0, if_pos (by omega)]
      simp (disch := first | omega | exact hJ _ _ | exact rJ_g hJ _ _ | (simp (disch := omega) only [ur_r, ur_o, up_r, up_o]; omega) | assumption) only [s68_0, s68_0v, s68_1, s68_2, s68_5, s68_5n, s68_8, s68_9, c68, hM.t100, pa', kl_i, kl_r, kl_l, kl_n, kl_z, bd_s, tl_s, tl_n, ap_c, ap_n, v_s, v_n, nd_1, nd_0, ct13, eq_self, iI_add, iI_sub, iI_mul, iI_nat, iI_eq, iI_lt, iI_le, iI_eq0, iI_lt0, ↓reduceIte, if_true, if_false, not_true_eq_false, not_false_eq_true, true_and, and_true, false_and, and_false, true_or, or_true, false_or, or_false, Int.reduceLT, Int.reduceLE, Int.reduceEq, Int.reduceAdd, Int.reduceSub, Int.reduceMul, Nat.reduceAdd, Nat.reduceLT, Nat.reduceEqDiff, Int.reduceNeg, nc_s, nc_0, Int.zero_add, Int.add_zero, oI_r, oI_w, oI_f0, oI_g0, oI_f1, oI_g1, oI_f2, oI_g2, oI_f3, oI_g3, oI_f4, oI_g4, oI_f5, oI_g5, oI_f6, oI_g6, oI_f7, oI_g7, oI_f8, oI_g8, oI_f9, oI_g9, oI_f10, oI_g10, oI_f11, oI_g11, oI_f12, oI_g12, oI_f13, oI_g13, oI_f14, oI_g14, oI_f15, oI_g15, oI_f16, oI_g16, oI_f17, oI_g17, oI_f18, oI_g18, oI_f19, oI_g19, oI_f20, oI_g20, oI_f21, oI_g21, oI_f22, oI_g22, oI_f23, oI_g23, oI_f24, oI_g24, oI_f25, oI_g25, ur_r, ur_o, ur_s, up_r, up_o, up_s, jI_add, jI_sub, jI_mul, jI_neg, jI_i, jI_n, lgc_j, cj_lt, cj_ge, cj_gt, cj_le, cj_eq, oL_r, oL_w, oL_f6, oL_g6, oL_f7, oL_g7, oL_f17, oL_g17, oL_f18, oL_g18, dl_T, dl_F, de_T, de_F, dle_T, dle_F, iI_divn, rem_n, nd_v, ct_s, Bool.false_eq_true]
/-- a row of the state itself and one of what it holds -/
theorem cS_o {J' : mR} {S' : Int → Int} (hM : cM T R) (ho : oR (tokL cs) S) (h : cS T R J t cs S) (e3 : J' 101 3 = J 101 3) (f : ∀ b, ¬ b = 101 → ¬ (115 ≤ b ∧ b ≤ 118) → J' b = J b) (hx : ∀ j, (0 ≤ j ∧ j < 16) ∨ (150 ≤ j ∧ j < 180) ∨ (220 ≤ j ∧ j < 235) ∨ j = 20 → S' j = S j) : cS T R J' t cs S' := by
  have h15 := ho.1.2.2.2.2
  obtain ⟨n1, n2, n3, n4, n5⟩ := h.2.1
  have h7 := h.1.2.2.2.2.2.2
  unfold tpl at h7
  refine cS_m hM h ho.2.2.2.1 (fun b b1 b2 _ _ => f b (by omega) b2) (fun j j0 j5 => by rw [f _ (by omega) (by omega)]; exact h.1.1.2.2.2.2.2.2 j j0 j5) (fun k hk j hj => by rw [f _ (by omega) (by omega)]; exact h.2.2 k hk j hj) (fun j hj => hx j (by omega)) (fun j hj => hx j (by omega)) h15.2 (by rw [e3, hx 15 (by omega)]; exact h.1.2.2.1.2) (fun q hq => ?_) ⟨fun j hj => ?_, fun q hq => ?_, ?_, ?_, fun j hj => ?_⟩
  · rw [f _ (by omega) (by omega), hx _ (by omega)]; exact (h.1.2.2.1.1 q hq).2.1
  · rw [f _ (by omega) (by omega), hx _ (by omega)]; exact n1 j hj
  · rw [f _ (by omega) (by omega), n2 q hq]; unfold dOf; rw [hx _ (by omega), hx _ (by omega), hx _ (by omega)]
  · rw [f _ (by omega) (by omega), hx _ (by omega)]; exact n3
  · rw [f _ (by omega) (by omega), hx _ (by omega)]; exact n4
  · rw [f _ (by omega) (by omega)]; exact n5 j hj
theorem c_row (hM : cM T R) (ho : oR (tokL cs) S) (hw : oW S) (h : cS T R J t cs S) (hP : cPl J S) (s : Int) (hs : i32 s) : ∃ J' : mR, rn_c (d + 20) 71 [.ref 100, .int (iI s)] (T, oI J, L, R, z, w) = some (some (.int (iI (rowV S s))), (T, oI J', L, R, z, w)) ∧ fM t J J' ∧ cS T R J' t cs (rowS S s) ∧ cPl J' (rowS S s) := by
  obtain ⟨w1, w2, w3, w4, w5⟩ := id hw
  obtain ⟨⟨p1, p2, p3, p4⟩, p5, p6, p7, p8⟩ := id hP
  by_cases c0 : s = -1
  · have es : rowS S s = up S 17 0 := by unfold rowS; rw [if_pos c0]
    have f : ∀ b, ¬ b = 101 → (ur J 101 (up (J 101) 9 0)) b = J b := fun b hb => ur_o hb
    rw [es]
    refine ⟨ur J 101 (up (J 101) 9 0), ?_, fun b b1 _ _ _ => f b (by omega), cS_o hM ho h (by rw [ur_r, up_o (by omega)]) (fun b b1 _ => f b b1) (fun j hj => up_o (by omega)), ?_⟩
    · unfold rowV
      subst c0
      simp (disch := first | omega | exact hJ _ _ | exact rJ_g hJ _ _ | (simp (disch := omega) only [ur_r, ur_o, up_r, up_o]; omega) | assumption) only [c71, s71_0, s71_1, b71_2, s71_5, s71_5v, s71_6, s71_9, s71_10, s71_13, s71_14, s71_15, b71_16, s71_19, s71_20, b71_21, s71_24, s71_26, s71_27, s71_27v, s71_28, s71_31, s71_34, b71_36, s71_39, s71_41, s71_42, s71_42v, s71_43, s71_46, s71_49, s71_49v, s71_50, s71_53, s71_56, s71_57, s71_58, s71_58v, s71_59, s71_62, s71_63, s71_66, s71_67, s71_68, s71_71, s71_71v, s71_72, s71_75, s71_78, hM.t100, hM.t101, hM.r100_0, v_s, kl_i, kl_r, kl_l, kl_n, kl_z, bd_s, tl_s, tl_n, ap_c, ap_n, v_s, v_n, nd_1, nd_0, ct13, eq_self, iI_add, iI_sub, iI_mul, iI_nat, iI_eq, iI_lt, iI_le, iI_eq0, iI_lt0, ↓reduceIte, if_true, if_false, not_true_eq_false, not_false_eq_true, true_and, and_true, false_and, and_false, true_or, or_true, false_or, or_false, Int.reduceLT, Int.reduceLE, Int.reduceEq, Int.reduceAdd, Int.reduceSub, Int.reduceMul, Nat.reduceAdd, Nat.reduceLT, Nat.reduceEqDiff, Int.reduceNeg, nc_s, nc_0, Int.zero_add, Int.add_zero, oI_r, oI_w, oI_f0, oI_g0, oI_f1, oI_g1, oI_f2, oI_g2, oI_f3, oI_g3, oI_f4, oI_g4, oI_f5, oI_g5, oI_f6, oI_g6, oI_f7, oI_g7, oI_f8, oI_g8, oI_f9, oI_g9, oI_f10, oI_g10, oI_f11, oI_g11, oI_f12, oI_g12, oI_f13, oI_g13, oI_f14, oI_g14, oI_f15, oI_g15, oI_f16, oI_g16, oI_f17, oI_g17, oI_f18, oI_g18, oI_f19, oI_g19, oI_f20, oI_g20, oI_f21, oI_g21, oI_f22, oI_g22, oI_f23, oI_g23, oI_f24, oI_g24, oI_f25, oI_g25, ur_r, ur_o, ur_s, up_r, up_o, up_s, jI_add, jI_sub, jI_mul, jI_neg, jI_i, jI_n, lgc_j, cj_lt, cj_ge, cj_gt, cj_le, cj_eq, oL_r, oL_w, oL_f6, oL_g6, oL_f7, oL_g7, oL_f17, oL_g17, oL_f18, oL_g18, dl_T, dl_F, de_T, de_F, dle_T, dle_F, iI_divn, rem_n, nd_v, ct_s, Bool.false_eq_true]
    · unfold cPl
      rw [ur_r, f _ (by omega), f _ (by omega), f _ (by omega), f _ (by omega)]
      simp (disch := omega) only [up_o, up_r]
      refine ⟨⟨p1, p2, trivial, p4⟩, fun k k0 k1 => by omega, fun k k0 k1 => ?_, fun k k0 k1 => ?_, p8⟩
      · rw [up_o (by omega), up_o (by omega)]; exact p6 k k0 k1
      · rw [up_o (by omega)]; exact p7 k k0 k1
  by_cases c : 0 ≤ s ∧ s ≤ 1 ∧ ¬ S 17 = 20
  · have es : rowS S s = up (up S (180 + S 17) s) 17 (S 17 + 1) := by unfold rowS; rw [if_neg c0, if_neg (by omega), if_neg (by omega), if_neg (by omega)]
    obtain ⟨X, hX⟩ : ∃ X, X = ur (ur J 116 (up (J 116) (S 17) s)) 101 (up (J 101) 9 (S 17 + 1)) := ⟨_, rfl⟩
    have f : ∀ b, ¬ b = 101 → ¬ b = 116 → X b = J b := fun b hb hc => by rw [hX, ur_o hb, ur_o hc]
    have x1 : X 101 = up (J 101) 9 (S 17 + 1) := by rw [hX, ur_r]
    have x6 : X 116 = up (J 116) (S 17) s := by rw [hX, ur_o (by omega), ur_r]
    have b6 := hM.b116 (S 17) (by omega)
    rw [es]
    refine ⟨X, ?_, fun b b1 b2 _ _ => f b (by omega) (by omega), cS_o hM ho h (by rw [x1, up_o (by omega)]) (fun b b1 b2 => f b b1 (by omega)) (fun j hj => by rw [up_o (by omega), up_o (by omega)]), ?_⟩
    · unfold rowV
      rw [hX]
      by_cases s0 : s = 0 <;>
        simp (disch := first | omega | exact hJ _ _ | exact rJ_g hJ _ _ | (simp (disch := omega) only [ur_r, ur_o, up_r, up_o]; omega) | assumption) only [c71, s71_0, s71_1, b71_2, s71_5, s71_5v, s71_6, s71_9, s71_10, s71_13, s71_14, s71_15, b71_16, s71_19, s71_20, b71_21, s71_24, s71_26, s71_27, s71_27v, s71_28, s71_31, s71_34, b71_36, s71_39, s71_41, s71_42, s71_42v, s71_43, s71_46, s71_49, s71_49v, s71_50, s71_53, s71_56, s71_57, s71_58, s71_58v, s71_59, s71_62, s71_63, s71_66, s71_67, s71_68, s71_71, s71_71v, s71_72, s71_75, s71_78, hM.t100, hM.t101, hM.r100_0, hM.r101_8, v_s, p3, b6, kl_i, kl_r, kl_l, kl_n, kl_z, bd_s, tl_s, tl_n, ap_c, ap_n, v_s, v_n, nd_1, nd_0, ct13, eq_self, iI_add, iI_sub, iI_mul, iI_nat, iI_eq, iI_lt, iI_le, iI_eq0, iI_lt0, ↓reduceIte, if_true, if_false, not_true_eq_false, not_false_eq_true, true_and, and_true, false_and, and_false, true_or, or_true, false_or, or_false, Int.reduceLT, Int.reduceLE, Int.reduceEq, Int.reduceAdd, Int.reduceSub, Int.reduceMul, Nat.reduceAdd, Nat.reduceLT, Nat.reduceEqDiff, Int.reduceNeg, nc_s, nc_0, Int.zero_add, Int.add_zero, oI_r, oI_w, oI_f0, oI_g0, oI_f1, oI_g1, oI_f2, oI_g2, oI_f3, oI_g3, oI_f4, oI_g4, oI_f5, oI_g5, oI_f6, oI_g6, oI_f7, oI_g7, oI_f8, oI_g8, oI_f9, oI_g9, oI_f10, oI_g10, oI_f11, oI_g11, oI_f12, oI_g12, oI_f13, oI_g13, oI_f14, oI_g14, oI_f15, oI_g15, oI_f16, oI_g16, oI_f17, oI_g17, oI_f18, oI_g18, oI_f19, oI_g19, oI_f20, oI_g20, oI_f21, oI_g21, oI_f22, oI_g22, oI_f23, oI_g23, oI_f24, oI_g24, oI_f25, oI_g25, ur_r, ur_o, ur_s, up_r, up_o, up_s, jI_add, jI_sub, jI_mul, jI_neg, jI_i, jI_n, lgc_j, cj_lt, cj_ge, cj_gt, cj_le, cj_eq, oL_r, oL_w, oL_f6, oL_g6, oL_f7, oL_g7, oL_f17, oL_g17, oL_f18, oL_g18, dl_T, dl_F, de_T, de_F, dle_T, dle_F, iI_divn, rem_n, nd_v, ct_s, Bool.false_eq_true]
    · unfold cPl
      rw [x1, x6, f _ (by omega) (by omega), f _ (by omega) (by omega), f _ (by omega) (by omega)]
      simp (disch := omega) only [up_o, up_r]
      refine ⟨⟨p1, p2, trivial, p4⟩, fun k k0 k1 => ?_, fun k k0 k1 => ?_, fun k k0 k1 => ?_, p8⟩
      · by_cases e : k = S 17
        · rw [e, up_r, up_o (by omega), up_r]
        · rw [up_o e, up_o (by omega), up_o (by omega)]; exact p5 k k0 (by omega)
      · rw [up_o (by omega), up_o (by omega), up_o (by omega), up_o (by omega)]; exact p6 k k0 k1
      · rw [up_o (by omega), up_o (by omega)]; exact p7 k k0 k1
  · have es : rowS S s = S := by
      unfold rowS
      repeat' split
      all_goals first | rfl | omega
    rw [es]
    refine ⟨J, ?_, fM.i, h, hP⟩
    unfold rowV
    (simp (disch := first | omega | exact hJ _ _ | exact rJ_g hJ _ _ | (simp (disch := omega) only [ur_r, ur_o, up_r, up_o]; omega) | assumption) only [c71, s71_0, s71_1, b71_2, s71_5, s71_5v, s71_6, s71_9, s71_10, s71_13, s71_14, s71_15, b71_16, s71_19, s71_20, b71_21, s71_24, s71_26, s71_27, s71_27v, s71_28, s71_31, s71_34, b71_36, s71_39, s71_41, hM.t100, hM.t101, hM.r100_0, v_s, p3, kl_i, kl_r, kl_l, kl_n, kl_z, bd_s, tl_s, tl_n, ap_c, ap_n, v_s, v_n, nd_1, nd_0, ct13, eq_self, iI_add, iI_sub, iI_mul, iI_nat, iI_eq, iI_lt, iI_le, iI_eq0, iI_lt0, ↓reduceIte, if_true, if_false, not_true_eq_false, not_false_eq_true, true_and, and_true, false_and, and_false, true_or, or_true, false_or, or_false, Int.reduceLT, Int.reduceLE, Int.reduceEq, Int.reduceAdd, Int.reduceSub, Int.reduceMul, Nat.reduceAdd, Nat.reduceLT, Nat.reduceEqDiff, Int.reduceNeg, nc_s, nc_0, Int.zero_add, Int.add_zero, oI_r, oI_w, oI_f0, oI_g0, oI_f1, oI_g1, oI_f2, oI_g2, oI_f3, oI_g3, oI_f4, oI_g4, oI_f5, oI_g5, oI_f6, oI_g6, oI_f7, oI_g7, oI_f8, oI_g8, oI_f9, oI_g9, oI_f10, oI_g10, oI_f11, oI_g11, oI_f12, oI_g12, oI_f13, oI_g13, oI_f14, oI_g14, oI_f15, oI_g15, oI_f16, oI_g16, oI_f17, oI_g17, oI_f18, oI_g18, oI_f19, oI_g19, oI_f20, oI_g20, oI_f21, oI_g21, oI_f22, oI_g22, oI_f23, oI_g23, oI_f24, oI_g24, oI_f25, oI_g25, ur_r, ur_o, ur_s, up_r, up_o, up_s, jI_add, jI_sub, jI_mul, jI_neg, jI_i, jI_n, lgc_j, cj_lt, cj_ge, cj_gt, cj_le, cj_eq, oL_r, oL_w, oL_f6, oL_g6, oL_f7, oL_g7, oL_f17, oL_g17, oL_f18, oL_g18, dl_T, dl_F, de_T, de_F, dle_T, dle_F, iI_divn, rem_n, nd_v, ct_s, Bool.false_eq_true]; repeat' (split <;> (try simp (disch := first | omega | exact hJ _ _ | exact rJ_g hJ _ _ | (simp (disch := omega) only [ur_r, ur_o, up_r, up_o]; omega) | assumption) only [c71, s71_0, s71_1, b71_2, s71_5, s71_5v, s71_6, s71_9, s71_10, s71_13, s71_14, s71_15, b71_16, s71_19, s71_20, b71_21, s71_24, s71_26, s71_27, s71_27v, s71_28, s71_31, s71_34, b71_36, s71_39, s71_41, hM.t100, hM.t101, hM.r100_0, v_s, p3, kl_i, kl_r, kl_l, kl_n, kl_z, bd_s, tl_s, tl_n, ap_c, ap_n, v_s, v_n, nd_1, nd_0, ct13, eq_self, iI_add, iI_sub, iI_mul, iI_nat, iI_eq, iI_lt, iI_le, iI_eq0, iI_lt0, ↓reduceIte, if_true, if_false, not_true_eq_false, not_false_eq_true, true_and, and_true, false_and, and_false, true_or, or_true, false_or, or_false, Int.reduceLT, Int.reduceLE, Int.reduceEq, Int.reduceAdd, Int.reduceSub, Int.reduceMul, Nat.reduceAdd, Nat.reduceLT, Nat.reduceEqDiff, Int.reduceNeg, nc_s, nc_0, Int.zero_add, Int.add_zero, oI_r, oI_w, oI_f0, oI_g0, oI_f1, oI_g1, oI_f2, oI_g2, oI_f3, oI_g3, oI_f4, oI_g4, oI_f5, oI_g5, oI_f6, oI_g6, oI_f7, oI_g7, oI_f8, oI_g8, oI_f9, oI_g9, oI_f10, oI_g10, oI_f11, oI_g11, oI_f12, oI_g12, oI_f13, oI_g13, oI_f14, oI_g14, oI_f15, oI_g15, oI_f16, oI_g16, oI_f17, oI_g17, oI_f18, oI_g18, oI_f19, oI_g19, oI_f20, oI_g20, oI_f21, oI_g21, oI_f22, oI_g22, oI_f23, oI_g23, oI_f24, oI_g24, oI_f25, oI_g25, ur_r, ur_o, ur_s, up_r, up_o, up_s, jI_add, jI_sub, jI_mul, jI_neg, jI_i, jI_n, lgc_j, cj_lt, cj_ge, cj_gt, cj_le, cj_eq, oL_r, oL_w, oL_f6, oL_g6, oL_f7, oL_g7, oL_f17, oL_g17, oL_f18, oL_g18, dl_T, dl_F, de_T, de_F, dle_T, dle_F, iI_divn, rem_n, nd_v, ct_s, Bool.false_eq_true])))
theorem c_book (hM : cM T R) (ho : oR (tokL cs) S) (hw : oW S) (h : cS T R J t cs S) (hP : cPl J S) (a n : Int) (ha : i32 a) (hn : i32 n) : ∃ J' : mR, rn_c (d + 20) 81 [.ref 100, .int (iI a), .int (iI n)] (T, oI J, L, R, z, w) = some (some (.int (iI (bookV S a n))), (T, oI J', L, R, z, w)) ∧ fM t J J' ∧ cS T R J' t cs (bookS S a n) ∧ cPl J' (bookS S a n) := by
  obtain ⟨w1, w2, w3, w4, w5⟩ := id hw
  obtain ⟨⟨p1, p2, p3, p4⟩, p5, p6, p7, p8⟩ := id hP
  by_cases c : 0 ≤ a ∧ a ≤ 3 ∧ 0 ≤ n ∧ n ≤ 99 ∧ ¬ S 18 = 10
  · have es : bookS S a n = up (up (up S (200 + S 18) a) (210 + S 18) n) 18 (S 18 + 1) := by unfold bookS; rw [if_neg (by omega), if_neg (by omega), if_neg (by omega), if_neg (by omega), if_neg (by omega)]
    obtain ⟨X, hX⟩ : ∃ X, X = ur (ur (ur J 117 (up (J 117) (S 18) a)) 118 (up (J 118) (S 18) n)) 101 (up (J 101) 12 (S 18 + 1)) := ⟨_, rfl⟩
    have f : ∀ b, ¬ b = 101 → ¬ b = 117 → ¬ b = 118 → X b = J b := fun b hb hc hd => by rw [hX, ur_o hb, ur_o hd, ur_o hc]
    have x1 : X 101 = up (J 101) 12 (S 18 + 1) := by rw [hX, ur_r]
    have x7 : X 117 = up (J 117) (S 18) a := by rw [hX, ur_o (by omega), ur_o (by omega), ur_r]
    have x8 : X 118 = up (J 118) (S 18) n := by rw [hX, ur_o (by omega), ur_r]
    have b7 := hM.b117 (S 18) (by omega)
    have b8 := hM.b118 (S 18) (by omega)
    rw [es]
    refine ⟨X, ?_, fun b b1 b2 _ _ => f b (by omega) (by omega) (by omega), cS_o hM ho h (by rw [x1, up_o (by omega)]) (fun b b1 b2 => f b b1 (by omega) (by omega)) (fun j hj => by rw [up_o (by omega), up_o (by omega), up_o (by omega)]), ?_⟩
    · unfold bookV
      rw [hX]
      simp (disch := first | omega | exact hJ _ _ | exact rJ_g hJ _ _ | (simp (disch := omega) only [ur_r, ur_o, up_r, up_o]; omega) | assumption) only [c81, s81_0, s81_1, b81_4, s81_7, s81_8, s81_9, b81_10, s81_13, s81_14, b81_16, s81_19, s81_21, s81_22, s81_22v, s81_23, s81_26, s81_29, b81_31, s81_34, s81_36, s81_37, s81_37v, s81_38, s81_41, s81_44, s81_44v, s81_45, s81_48, s81_51, s81_52, s81_53, s81_53v, s81_54, s81_57, s81_60, s81_60v, s81_61, s81_64, s81_67, s81_68, s81_69, s81_69v, s81_70, s81_73, s81_74, s81_77, s81_78, s81_79, s81_82, s81_82v, s81_83, s81_86, s81_89, hM.t100, hM.t101, hM.r100_0, hM.r101_10, hM.r101_11, v_s, c_isDoor, p4, b7, b8, kl_i, kl_r, kl_l, kl_n, kl_z, bd_s, tl_s, tl_n, ap_c, ap_n, v_s, v_n, nd_1, nd_0, ct13, eq_self, iI_add, iI_sub, iI_mul, iI_nat, iI_eq, iI_lt, iI_le, iI_eq0, iI_lt0, ↓reduceIte, if_true, if_false, not_true_eq_false, not_false_eq_true, true_and, and_true, false_and, and_false, true_or, or_true, false_or, or_false, Int.reduceLT, Int.reduceLE, Int.reduceEq, Int.reduceAdd, Int.reduceSub, Int.reduceMul, Nat.reduceAdd, Nat.reduceLT, Nat.reduceEqDiff, Int.reduceNeg, nc_s, nc_0, Int.zero_add, Int.add_zero, oI_r, oI_w, oI_f0, oI_g0, oI_f1, oI_g1, oI_f2, oI_g2, oI_f3, oI_g3, oI_f4, oI_g4, oI_f5, oI_g5, oI_f6, oI_g6, oI_f7, oI_g7, oI_f8, oI_g8, oI_f9, oI_g9, oI_f10, oI_g10, oI_f11, oI_g11, oI_f12, oI_g12, oI_f13, oI_g13, oI_f14, oI_g14, oI_f15, oI_g15, oI_f16, oI_g16, oI_f17, oI_g17, oI_f18, oI_g18, oI_f19, oI_g19, oI_f20, oI_g20, oI_f21, oI_g21, oI_f22, oI_g22, oI_f23, oI_g23, oI_f24, oI_g24, oI_f25, oI_g25, ur_r, ur_o, ur_s, up_r, up_o, up_s, jI_add, jI_sub, jI_mul, jI_neg, jI_i, jI_n, lgc_j, cj_lt, cj_ge, cj_gt, cj_le, cj_eq, oL_r, oL_w, oL_f6, oL_g6, oL_f7, oL_g7, oL_f17, oL_g17, oL_f18, oL_g18, dl_T, dl_F, de_T, de_F, dle_T, dle_F, iI_divn, rem_n, nd_v, ct_s, Bool.false_eq_true]
    · unfold cPl
      rw [x1, x7, x8, f _ (by omega) (by omega) (by omega), f _ (by omega) (by omega) (by omega)]
      simp (disch := omega) only [up_o, up_r]
      refine ⟨⟨p1, p2, p3, trivial⟩, fun k k0 k1 => ?_, fun k k0 k1 => ?_, fun k k0 k1 => ?_, p8⟩
      · rw [up_o (by omega), up_o (by omega), up_o (by omega)]; exact p5 k k0 k1
      · by_cases e : k = S 18
        · subst e
          refine ⟨by rw [up_r, up_o (by omega), up_o (by omega), up_r], by rw [up_r, up_o (by omega), up_r]⟩
        · obtain ⟨q1, q2⟩ := p6 k k0 (by omega)
          refine ⟨by rw [up_o e, up_o (by omega), up_o (by omega), up_o (by omega)]; exact q1, by rw [up_o e, up_o (by omega), up_o (by omega), up_o (by omega)]; exact q2⟩
      · rw [up_o (by omega), up_o (by omega), up_o (by omega)]; exact p7 k k0 k1
  · have es : bookS S a n = S := by
      unfold bookS
      repeat' split
      all_goals first | rfl | omega
    rw [es]
    refine ⟨J, ?_, fM.i, h, hP⟩
    unfold bookV
    (simp (disch := first | omega | exact hJ _ _ | exact rJ_g hJ _ _ | (simp (disch := omega) only [ur_r, ur_o, up_r, up_o]; omega) | assumption) only [c81, s81_0, s81_1, b81_4, s81_7, s81_8, s81_9, b81_10, s81_13, s81_14, b81_16, s81_19, s81_21, s81_22, s81_22v, s81_23, s81_26, s81_29, b81_31, s81_34, s81_36, hM.t100, hM.t101, hM.r100_0, v_s, p4, c_isDoor, kl_i, kl_r, kl_l, kl_n, kl_z, bd_s, tl_s, tl_n, ap_c, ap_n, v_s, v_n, nd_1, nd_0, ct13, eq_self, iI_add, iI_sub, iI_mul, iI_nat, iI_eq, iI_lt, iI_le, iI_eq0, iI_lt0, ↓reduceIte, if_true, if_false, not_true_eq_false, not_false_eq_true, true_and, and_true, false_and, and_false, true_or, or_true, false_or, or_false, Int.reduceLT, Int.reduceLE, Int.reduceEq, Int.reduceAdd, Int.reduceSub, Int.reduceMul, Nat.reduceAdd, Nat.reduceLT, Nat.reduceEqDiff, Int.reduceNeg, nc_s, nc_0, Int.zero_add, Int.add_zero, oI_r, oI_w, oI_f0, oI_g0, oI_f1, oI_g1, oI_f2, oI_g2, oI_f3, oI_g3, oI_f4, oI_g4, oI_f5, oI_g5, oI_f6, oI_g6, oI_f7, oI_g7, oI_f8, oI_g8, oI_f9, oI_g9, oI_f10, oI_g10, oI_f11, oI_g11, oI_f12, oI_g12, oI_f13, oI_g13, oI_f14, oI_g14, oI_f15, oI_g15, oI_f16, oI_g16, oI_f17, oI_g17, oI_f18, oI_g18, oI_f19, oI_g19, oI_f20, oI_g20, oI_f21, oI_g21, oI_f22, oI_g22, oI_f23, oI_g23, oI_f24, oI_g24, oI_f25, oI_g25, ur_r, ur_o, ur_s, up_r, up_o, up_s, jI_add, jI_sub, jI_mul, jI_neg, jI_i, jI_n, lgc_j, cj_lt, cj_ge, cj_gt, cj_le, cj_eq, oL_r, oL_w, oL_f6, oL_g6, oL_f7, oL_g7, oL_f17, oL_g17, oL_f18, oL_g18, dl_T, dl_F, de_T, de_F, dle_T, dle_F, iI_divn, rem_n, nd_v, ct_s, Bool.false_eq_true]; repeat' (split <;> (try simp (disch := first | omega | exact hJ _ _ | exact rJ_g hJ _ _ | (simp (disch := omega) only [ur_r, ur_o, up_r, up_o]; omega) | assumption) only [c81, s81_0, s81_1, b81_4, s81_7, s81_8, s81_9, b81_10, s81_13, s81_14, b81_16, s81_19, s81_21, s81_22, s81_22v, s81_23, s81_26, s81_29, b81_31, s81_34, s81_36, hM.t100, hM.t101, hM.r100_0, v_s, p4, c_isDoor, kl_i, kl_r, kl_l, kl_n, kl_z, bd_s, tl_s, tl_n, ap_c, ap_n, v_s, v_n, nd_1, nd_0, ct13, eq_self, iI_add, iI_sub, iI_mul, iI_nat, iI_eq, iI_lt, iI_le, iI_eq0, iI_lt0, ↓reduceIte, if_true, if_false, not_true_eq_false, not_false_eq_true, true_and, and_true, false_and, and_false, true_or, or_true, false_or, or_false, Int.reduceLT, Int.reduceLE, Int.reduceEq, Int.reduceAdd, Int.reduceSub, Int.reduceMul, Nat.reduceAdd, Nat.reduceLT, Nat.reduceEqDiff, Int.reduceNeg, nc_s, nc_0, Int.zero_add, Int.add_zero, oI_r, oI_w, oI_f0, oI_g0, oI_f1, oI_g1, oI_f2, oI_g2, oI_f3, oI_g3, oI_f4, oI_g4, oI_f5, oI_g5, oI_f6, oI_g6, oI_f7, oI_g7, oI_f8, oI_g8, oI_f9, oI_g9, oI_f10, oI_g10, oI_f11, oI_g11, oI_f12, oI_g12, oI_f13, oI_g13, oI_f14, oI_g14, oI_f15, oI_g15, oI_f16, oI_g16, oI_f17, oI_g17, oI_f18, oI_g18, oI_f19, oI_g19, oI_f20, oI_g20, oI_f21, oI_g21, oI_f22, oI_g22, oI_f23, oI_g23, oI_f24, oI_g24, oI_f25, oI_g25, ur_r, ur_o, ur_s, up_r, up_o, up_s, jI_add, jI_sub, jI_mul, jI_neg, jI_i, jI_n, lgc_j, cj_lt, cj_ge, cj_gt, cj_le, cj_eq, oL_r, oL_w, oL_f6, oL_g6, oL_f7, oL_g7, oL_f17, oL_g17, oL_f18, oL_g18, dl_T, dl_F, de_T, de_F, dle_T, dle_F, iI_divn, rem_n, nd_v, ct_s, Bool.false_eq_true])))
end PL
