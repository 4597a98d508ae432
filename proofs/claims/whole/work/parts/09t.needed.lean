/-! the class: needed, its search -/
section SN
variable {d : Nat} {T : Nat → Nat × Nat} {L : Nat → Nat → Int64} {R : Nat → Nat → Option Nat} {z w : Nat} {J Q : mR} {t : Nat} {S : Int → Int} {cs : List CL}
def wY (t : Nat) (J J' : mR) : Prop := ∀ b, ¬ b = 100 → ¬ (102 ≤ b ∧ b ≤ 105) → ¬ (141 ≤ b ∧ b ≤ 192) → ¬ b = t + 6 → J' b = J b
theorem wF.y {J J' : mR} (h : wF t J J') : wY t J J' := fun b _ => h b
theorem cX_y {J' : mR} {S' : Int → Int} (h : cX T R J t cs S) (hM : cM T R) (f : wY t J J') (hF : ∀ j, 0 ≤ j → j < 5 → i32 (J' (t + 6) j)) (hx : sx S S') (hT : oT S) : cX T R J' t cs S' := by
  obtain ⟨h1, h2, h3, h4, h5, h6, h7⟩ := h
  have ht : ∀ b, t ≤ b → b < t + 6 → J' b = J b := fun b b1 b2 => by
    unfold tpl at h7
    exact f b (by omega) (by omega) (by omega) (by omega)
  refine ⟨?_, h2, ?_, ?_, ?_, ?_, h7⟩
  · obtain ⟨f1, f2, f3, f4, f5, f6, f7⟩ := h1
    refine ⟨f1, f2, fun h s a1 a2 a3 a4 => ?_, loR_x (ht t (by omega) (by omega)) (ht (t + 2) (by omega) (by omega)) (ht (t + 3) (by omega) (by omega)) (ht (t + 4) (by omega) (by omega)) (ht (t + 5) (by omega) (by omega)) cs 0 0 f4, ?_, ?_, hF⟩
    · rw [ht (t + 1) (by omega) (by omega)]; exact f3 h s a1 a2 a3 a4
    · rw [ht t (by omega) (by omega)]; exact f5
    · rw [ht t (by omega) (by omega)]; exact f6
  · refine ⟨fun p hp => ?_, ?_⟩
    · rw [hx 15 (by omega)] at hp
      obtain ⟨⟨x, hx1, hx2⟩, h2, h3⟩ := h3.1 p hp
      have hk : (T x).1 = kT (S (150 + p)) := by rw [hx2.1]
      have hk2 : kT (S (150 + p)) ≤ 10 := by unfold kT; repeat' split
                                             all_goals omega
      have ex : J' x = J x := by
        refine f x (fun q => ?_) (fun q => ?_) (fun q => ?_) (fun q => ?_)
        · rw [q, hM.t100] at hk; simp only [] at hk; omega
        · rcases wrow hM (Or.inl q) with e | e <;> omega
        · rcases wrow hM (Or.inr q) with e | e <;> omega
        · rw [q, h1.1.2.2.2.2.2.2.1] at hk; simp only [] at hk; omega
      refine ⟨⟨x, hx1, ?_⟩, ?_, ?_⟩
      · obtain ⟨q1, q2, q3, q4, q5, q6⟩ := hx2
        unfold pc1
        rw [ex, hx (150 + p) (by omega), hx (162 + p) (by omega), hx (168 + p) (by omega), hx (156 + p) (by omega)]
        exact ⟨q1, q2, q3, q4, q5, q6⟩
      · rw [f 107 (by omega) (by omega) (by omega) (by unfold tpl at h7; omega), hx (174 + p) (by omega)]; exact h2
      · rw [hx (162 + p) (by omega), hx (168 + p) (by omega)]; exact h3
    · rw [f 101 (by omega) (by omega) (by omega) (by unfold tpl at h7; omega), hx 15 (by omega)]; exact h3.2
  · rw [ht t (by omega) (by omega), hx.tl (by omega) hT.1.1]; exact h4
  · rw [ht t (by omega) (by omega), hx.tl (by omega) hT.1.1]; exact h5
  · rw [ht t (by omega) (by omega), hx.tl (by omega) hT.1.1]; exact h6
/-- what the search changes -/
def wH (t lv : Nat) (J J' : mR) : Prop := (∀ b, ¬ b = 100 → ¬ (141 + 4 * (lv + 1) ≤ b ∧ b ≤ 192) → ¬ b = t + 6 → J' b = J b) ∧ (∀ j, ¬ j = 8 → J' 100 j = J 100 j)
theorem wH.i {lv : Nat} {J : mR} : wH t lv J J := ⟨fun _ _ _ _ => rfl, fun _ _ => rfl⟩
theorem wH.y {lv : Nat} {J J' : mR} (h : wH t lv J J') : wY t J J' := fun b b0 _ b2 b3 => h.1 b b0 (fun q => b2 ⟨by omega, q.2⟩) b3
theorem wH.tr {lv : Nat} {J J' J'' : mR} (h : wH t lv J J') (g : wH t lv J' J'') : wH t lv J J'' := ⟨fun b h0 h1 h2 => (g.1 b h0 h1 h2).trans (h.1 b h0 h1 h2), fun j hj => (g.2 j hj).trans (h.2 j hj)⟩
theorem wH.m {lv : Nat} {J J' : mR} (h : wH t (lv + 1) J J') : wH t lv J J' := ⟨fun b h0 h1 h2 => h.1 b h0 (fun q => h1 ⟨by omega, q.2⟩) h2, h.2⟩
theorem c_seek (hM : cM T R) (ho : oR (tokL cs) S) (h17 : 0 ≤ S 17 ∧ S 17 ≤ 20) (hr : ∀ k : Nat, k < nedN S → 0 ≤ S (180 + k) ∧ S (180 + k) ≤ 1) : ∀ (m k s : Nat) (b : Int) (J : mR), k + m = nedN S → s < 2 ^ k → (b = -5 ∨ 0 ≤ b ∧ b < 4096) → J 100 8 = b → cX T R J t cs (ndW (tokL cs) S s k) → wR J (141 + 4 * k) (ndW (tokL cs) S s k) → cz J → ndW (tokL cs) S s k 13 = 0 → J 101 9 = S 17 → (∀ i : Int, 0 ≤ i → i < nedN S → J 116 i = S (180 + i)) → ∃ J' : mR, rn_c (d + 8 + m) 98 [.ref 100, .int (iI k), .int (iI s)] (T, oI J, L, R, z, w) = some (none, (T, oI J', L, R, z, w)) ∧ wH t k J J' ∧ J' 100 8 = skF (tokL cs) S (nedN S) m s b ∧ (∀ j, 0 ≤ j → j < 5 → i32 (J' (t + 6) j)) ∧ cz J' := by
  have hn12 : nedN S ≤ 12 := by unfold nedN; split <;> omega
  have hnS : (nedN S : Int) = if 12 < S 17 then 12 else S 17 := by unfold nedN; split <;> omega
  have h12 : 2 ^ nedN S ≤ 2 ^ 12 := Nat.pow_le_pow_right (by omega) hn12
  intro m
  induction m with
  | zero =>
    intro k s b J hk hs hb h8 hX hR hz h0 h9 h6
    obtain rfl : k = nedN S := by omega
    have hF := hX.1.2.2.2.2.2.2
    have hz' : ∀ v, cz (ur J 100 (up (J 100) 8 v)) := fun v k hk j hj => by rw [ur_o (by omega)]; exact hz k hk j hj
    have h7 := hX.2.2.2.2.2.2
    unfold tpl at h7
    have hF' : ∀ v, ∀ j, 0 ≤ j → j < 5 → i32 ((ur J 100 (up (J 100) 8 v)) (t + 6) j) := fun v j j0 j5 => by rw [ur_o (by omega)]; exact hF j j0 j5
    have hH : ∀ v, wH t (nedN S) J (ur J 100 (up (J 100) 8 v)) := fun v => ⟨fun b b0 _ _ => ur_o b0, fun j hj => by rw [ur_r, up_o hj]⟩
    have b1 := j_bitCount (d := d + 7) (T := T) (I := oI J) (L := L) (R := R) (z := z) (w := w) s (by omega)
    have p1 := popN_12 s
    have hl := h8
    simp only [skF]
    by_cases c17 : 12 < S 17
    · rw [if_pos c17] at hnS
      by_cases c5 : b = -5
      · rw [if_pos c5]
        refine ⟨ur J 100 (up (J 100) 8 s), ?_, hH _, by rw [ur_r, up_r], hF' _, hz' _⟩
        rw [c5] at hl
        simp (disch := first | omega | exact hJ _ _ | exact rJ_g hJ _ _ | (simp (disch := omega) only [ur_r, ur_o, up_r, up_o]; omega) | assumption) only [c98, s98_0, s98_0v, s98_1, s98_4, b98_6, s98_9, s98_10, s98_13, s98_13v, s98_14, s98_17, b98_20, s98_23, s98_24, s98_25, s98_25v, s98_26, s98_29, b98_32, s98_35, s98_36, b98_38, s98_41, s98_41v, s98_42, s98_45, b98_47, s98_50, s98_51, s98_51v, s98_52, s98_55, b98_58, s98_61, s98_61v, s98_62, s98_63, s98_66, hM.t100, hM.t101, hM.r100_0, h9, v_s, hl, hnS, kl_i, kl_r, kl_l, kl_n, kl_z, bd_s, tl_s, tl_n, ap_c, ap_n, v_s, v_n, nd_1, nd_0, ct13, eq_self, iI_add, iI_sub, iI_mul, iI_nat, iI_eq, iI_lt, iI_le, iI_eq0, iI_lt0, ↓reduceIte, if_true, if_false, not_true_eq_false, not_false_eq_true, true_and, and_true, false_and, and_false, true_or, or_true, false_or, or_false, Int.reduceLT, Int.reduceLE, Int.reduceEq, Int.reduceAdd, Int.reduceSub, Int.reduceMul, Nat.reduceAdd, Nat.reduceLT, Nat.reduceEqDiff, Int.reduceNeg, nc_s, nc_0, Int.zero_add, Int.add_zero, oI_r, oI_w, oI_f0, oI_g0, oI_f1, oI_g1, oI_f2, oI_g2, oI_f3, oI_g3, oI_f4, oI_g4, oI_f5, oI_g5, oI_f6, oI_g6, oI_f7, oI_g7, oI_f8, oI_g8, oI_f9, oI_g9, oI_f10, oI_g10, oI_f11, oI_g11, oI_f12, oI_g12, oI_f13, oI_g13, oI_f14, oI_g14, oI_f15, oI_g15, oI_f16, oI_g16, oI_f17, oI_g17, oI_f18, oI_g18, oI_f19, oI_g19, oI_f20, oI_g20, oI_f21, oI_g21, oI_f22, oI_g22, oI_f23, oI_g23, oI_f24, oI_g24, oI_f25, oI_g25, ur_r, ur_o, ur_s, up_r, up_o, up_s, jI_add, jI_sub, jI_mul, jI_neg, jI_i, jI_n, lgc_j, cj_lt, cj_ge, cj_gt, cj_le, cj_eq, oL_r, oL_w, oL_f6, oL_g6, oL_f7, oL_g7, oL_f17, oL_g17, oL_f18, oL_g18, dl_T, dl_F, de_T, de_F, dle_T, dle_F, iI_divn, rem_n, nd_v, ct_s, Bool.false_eq_true]
      · obtain ⟨bn, rfl⟩ : ∃ bn : Nat, b = bn := ⟨b.toNat, by omega⟩
        have b2 := j_bitCount (d := d + 7) (T := T) (I := oI J) (L := L) (R := R) (z := z) (w := w) bn (by omega)
        have p2 := popN_12 bn
        have cf := c_comes (d := d + 6) (T := T) (I := oI J) (L := L) (R := R) (z := z) (w := w) s bn (by omega) (by omega)
        rw [if_neg c5, Int.toNat_natCast]
        by_cases c1 : popN bn < popN s
        · rw [if_pos c1]
          refine ⟨J, ?_, wH.i, h8, hF, hz⟩
          simp (disch := first | omega | exact hJ _ _ | exact rJ_g hJ _ _ | (simp (disch := omega) only [ur_r, ur_o, up_r, up_o]; omega) | assumption) only [c98, s98_0, s98_0v, s98_1, s98_4, b98_6, s98_9, s98_10, s98_13, s98_13v, s98_14, s98_17, b98_20, s98_23, s98_24, s98_25, s98_25v, s98_26, s98_29, b98_32, s98_35, s98_36, b98_38, s98_41, s98_41v, s98_42, s98_45, b98_47, s98_50, s98_51, s98_51v, s98_52, s98_55, b98_58, s98_61, s98_61v, s98_62, s98_63, s98_66, hM.t100, hM.t101, hM.r100_0, h9, v_s, hl, b1, b2, kl_i, kl_r, kl_l, kl_n, kl_z, bd_s, tl_s, tl_n, ap_c, ap_n, v_s, v_n, nd_1, nd_0, ct13, eq_self, iI_add, iI_sub, iI_mul, iI_nat, iI_eq, iI_lt, iI_le, iI_eq0, iI_lt0, ↓reduceIte, if_true, if_false, not_true_eq_false, not_false_eq_true, true_and, and_true, false_and, and_false, true_or, or_true, false_or, or_false, Int.reduceLT, Int.reduceLE, Int.reduceEq, Int.reduceAdd, Int.reduceSub, Int.reduceMul, Nat.reduceAdd, Nat.reduceLT, Nat.reduceEqDiff, Int.reduceNeg, nc_s, nc_0, Int.zero_add, Int.add_zero, oI_r, oI_w, oI_f0, oI_g0, oI_f1, oI_g1, oI_f2, oI_g2, oI_f3, oI_g3, oI_f4, oI_g4, oI_f5, oI_g5, oI_f6, oI_g6, oI_f7, oI_g7, oI_f8, oI_g8, oI_f9, oI_g9, oI_f10, oI_g10, oI_f11, oI_g11, oI_f12, oI_g12, oI_f13, oI_g13, oI_f14, oI_g14, oI_f15, oI_g15, oI_f16, oI_g16, oI_f17, oI_g17, oI_f18, oI_g18, oI_f19, oI_g19, oI_f20, oI_g20, oI_f21, oI_g21, oI_f22, oI_g22, oI_f23, oI_g23, oI_f24, oI_g24, oI_f25, oI_g25, ur_r, ur_o, ur_s, up_r, up_o, up_s, jI_add, jI_sub, jI_mul, jI_neg, jI_i, jI_n, lgc_j, cj_lt, cj_ge, cj_gt, cj_le, cj_eq, oL_r, oL_w, oL_f6, oL_g6, oL_f7, oL_g7, oL_f17, oL_g17, oL_f18, oL_g18, dl_T, dl_F, de_T, de_F, dle_T, dle_F, iI_divn, rem_n, nd_v, ct_s, Bool.false_eq_true]
        · rw [if_neg c1] at cf ⊢
          have key : ∀ v : Int, (v = s ∧ (popN s < popN bn ∨ (s : Int) < bn) ∨ v = bn ∧ ¬ popN s < popN bn ∧ ¬ (s : Int) < bn) → ∃ J' : mR, rn_c (d + 8 + 0) 98 [.ref 100, .int (iI (nedN S)), .int (iI s)] (T, oI J, L, R, z, w) = some (none, (T, oI J', L, R, z, w)) ∧ wH t (nedN S) J J' ∧ J' 100 8 = v ∧ (∀ j, 0 ≤ j → j < 5 → i32 (J' (t + 6) j)) ∧ cz J' := by
            intro v hv
            rcases hv with ⟨rfl, hv⟩ | ⟨rfl, hv1, hv2⟩
            · have cf' : rn_c (d + 6 + 1) 99 [.int (iI s), .int (iI bn)] (T, oI J, L, R, z, w) = some (some (.int (iI 1)), (T, oI J, L, R, z, w)) := by
                rw [cf]
                by_cases c2 : popN s < popN bn
                · rw [if_pos c2]
                · rw [if_neg c2, if_pos (by omega)]
              refine ⟨ur J 100 (up (J 100) 8 s), ?_, hH _, by rw [ur_r, up_r], hF' _, hz' _⟩
              simp (disch := first | omega | exact hJ _ _ | exact rJ_g hJ _ _ | (simp (disch := omega) only [ur_r, ur_o, up_r, up_o]; omega) | assumption) only [c98, s98_0, s98_0v, s98_1, s98_4, b98_6, s98_9, s98_10, s98_13, s98_13v, s98_14, s98_17, b98_20, s98_23, s98_24, s98_25, s98_25v, s98_26, s98_29, b98_32, s98_35, s98_36, b98_38, s98_41, s98_41v, s98_42, s98_45, b98_47, s98_50, s98_51, s98_51v, s98_52, s98_55, b98_58, s98_61, s98_61v, s98_62, s98_63, s98_66, hM.t100, hM.t101, hM.r100_0, h9, v_s, hl, b1, b2, hnS, cf', kl_i, kl_r, kl_l, kl_n, kl_z, bd_s, tl_s, tl_n, ap_c, ap_n, v_s, v_n, nd_1, nd_0, ct13, eq_self, iI_add, iI_sub, iI_mul, iI_nat, iI_eq, iI_lt, iI_le, iI_eq0, iI_lt0, ↓reduceIte, if_true, if_false, not_true_eq_false, not_false_eq_true, true_and, and_true, false_and, and_false, true_or, or_true, false_or, or_false, Int.reduceLT, Int.reduceLE, Int.reduceEq, Int.reduceAdd, Int.reduceSub, Int.reduceMul, Nat.reduceAdd, Nat.reduceLT, Nat.reduceEqDiff, Int.reduceNeg, nc_s, nc_0, Int.zero_add, Int.add_zero, oI_r, oI_w, oI_f0, oI_g0, oI_f1, oI_g1, oI_f2, oI_g2, oI_f3, oI_g3, oI_f4, oI_g4, oI_f5, oI_g5, oI_f6, oI_g6, oI_f7, oI_g7, oI_f8, oI_g8, oI_f9, oI_g9, oI_f10, oI_g10, oI_f11, oI_g11, oI_f12, oI_g12, oI_f13, oI_g13, oI_f14, oI_g14, oI_f15, oI_g15, oI_f16, oI_g16, oI_f17, oI_g17, oI_f18, oI_g18, oI_f19, oI_g19, oI_f20, oI_g20, oI_f21, oI_g21, oI_f22, oI_g22, oI_f23, oI_g23, oI_f24, oI_g24, oI_f25, oI_g25, ur_r, ur_o, ur_s, up_r, up_o, up_s, jI_add, jI_sub, jI_mul, jI_neg, jI_i, jI_n, lgc_j, cj_lt, cj_ge, cj_gt, cj_le, cj_eq, oL_r, oL_w, oL_f6, oL_g6, oL_f7, oL_g7, oL_f17, oL_g17, oL_f18, oL_g18, dl_T, dl_F, de_T, de_F, dle_T, dle_F, iI_divn, rem_n, nd_v, ct_s, Bool.false_eq_true]
            · rw [if_neg hv1, if_neg hv2] at cf
              refine ⟨J, ?_, wH.i, h8, hF, hz⟩
              simp (disch := first | omega | exact hJ _ _ | exact rJ_g hJ _ _ | (simp (disch := omega) only [ur_r, ur_o, up_r, up_o]; omega) | assumption) only [c98, s98_0, s98_0v, s98_1, s98_4, b98_6, s98_9, s98_10, s98_13, s98_13v, s98_14, s98_17, b98_20, s98_23, s98_24, s98_25, s98_25v, s98_26, s98_29, b98_32, s98_35, s98_36, b98_38, s98_41, s98_41v, s98_42, s98_45, b98_47, s98_50, s98_51, s98_51v, s98_52, s98_55, b98_58, s98_61, s98_61v, s98_62, s98_63, s98_66, hM.t100, hM.t101, hM.r100_0, h9, v_s, hl, b1, b2, hnS, cf, kl_i, kl_r, kl_l, kl_n, kl_z, bd_s, tl_s, tl_n, ap_c, ap_n, v_s, v_n, nd_1, nd_0, ct13, eq_self, iI_add, iI_sub, iI_mul, iI_nat, iI_eq, iI_lt, iI_le, iI_eq0, iI_lt0, ↓reduceIte, if_true, if_false, not_true_eq_false, not_false_eq_true, true_and, and_true, false_and, and_false, true_or, or_true, false_or, or_false, Int.reduceLT, Int.reduceLE, Int.reduceEq, Int.reduceAdd, Int.reduceSub, Int.reduceMul, Nat.reduceAdd, Nat.reduceLT, Nat.reduceEqDiff, Int.reduceNeg, nc_s, nc_0, Int.zero_add, Int.add_zero, oI_r, oI_w, oI_f0, oI_g0, oI_f1, oI_g1, oI_f2, oI_g2, oI_f3, oI_g3, oI_f4, oI_g4, oI_f5, oI_g5, oI_f6, oI_g6, oI_f7, oI_g7, oI_f8, oI_g8, oI_f9, oI_g9, oI_f10, oI_g10, oI_f11, oI_g11, oI_f12, oI_g12, oI_f13, oI_g13, oI_f14, oI_g14, oI_f15, oI_g15, oI_f16, oI_g16, oI_f17, oI_g17, oI_f18, oI_g18, oI_f19, oI_g19, oI_f20, oI_g20, oI_f21, oI_g21, oI_f22, oI_g22, oI_f23, oI_g23, oI_f24, oI_g24, oI_f25, oI_g25, ur_r, ur_o, ur_s, up_r, up_o, up_s, jI_add, jI_sub, jI_mul, jI_neg, jI_i, jI_n, lgc_j, cj_lt, cj_ge, cj_gt, cj_le, cj_eq, oL_r, oL_w, oL_f6, oL_g6, oL_f7, oL_g7, oL_f17, oL_g17, oL_f18, oL_g18, dl_T, dl_F, de_T, de_F, dle_T, dle_F, iI_divn, rem_n, nd_v, ct_s, Bool.false_eq_true]
          by_cases c2 : popN s < popN bn
          · rw [if_pos c2]; exact key s (by omega)
          · rw [if_neg c2]
            by_cases c3 : (s : Int) < bn
            · rw [if_pos c3]; exact key s (by omega)
            · rw [if_neg c3]; exact key bn (by omega)
    · rw [if_neg c17] at hnS
      by_cases c5 : b = -5
      · rw [if_pos c5]
        refine ⟨ur J 100 (up (J 100) 8 s), ?_, hH _, by rw [ur_r, up_r], hF' _, hz' _⟩
        rw [c5] at hl
        simp (disch := first | omega | exact hJ _ _ | exact rJ_g hJ _ _ | (simp (disch := omega) only [ur_r, ur_o, up_r, up_o]; omega) | assumption) only [c98, s98_0, s98_0v, s98_1, s98_4, b98_6, s98_9, s98_10, s98_13, s98_13v, s98_14, s98_17, b98_20, s98_23, s98_24, s98_25, s98_25v, s98_26, s98_29, b98_32, s98_35, s98_36, b98_38, s98_41, s98_41v, s98_42, s98_45, b98_47, s98_50, s98_51, s98_51v, s98_52, s98_55, b98_58, s98_61, s98_61v, s98_62, s98_63, s98_66, hM.t100, hM.t101, hM.r100_0, h9, v_s, hl, hnS, kl_i, kl_r, kl_l, kl_n, kl_z, bd_s, tl_s, tl_n, ap_c, ap_n, v_s, v_n, nd_1, nd_0, ct13, eq_self, iI_add, iI_sub, iI_mul, iI_nat, iI_eq, iI_lt, iI_le, iI_eq0, iI_lt0, ↓reduceIte, if_true, if_false, not_true_eq_false, not_false_eq_true, true_and, and_true, false_and, and_false, true_or, or_true, false_or, or_false, Int.reduceLT, Int.reduceLE, Int.reduceEq, Int.reduceAdd, Int.reduceSub, Int.reduceMul, Nat.reduceAdd, Nat.reduceLT, Nat.reduceEqDiff, Int.reduceNeg, nc_s, nc_0, Int.zero_add, Int.add_zero, oI_r, oI_w, oI_f0, oI_g0, oI_f1, oI_g1, oI_f2, oI_g2, oI_f3, oI_g3, oI_f4, oI_g4, oI_f5, oI_g5, oI_f6, oI_g6, oI_f7, oI_g7, oI_f8, oI_g8, oI_f9, oI_g9, oI_f10, oI_g10, oI_f11, oI_g11, oI_f12, oI_g12, oI_f13, oI_g13, oI_f14, oI_g14, oI_f15, oI_g15, oI_f16, oI_g16, oI_f17, oI_g17, oI_f18, oI_g18, oI_f19, oI_g19, oI_f20, oI_g20, oI_f21, oI_g21, oI_f22, oI_g22, oI_f23, oI_g23, oI_f24, oI_g24, oI_f25, oI_g25, ur_r, ur_o, ur_s, up_r, up_o, up_s, jI_add, jI_sub, jI_mul, jI_neg, jI_i, jI_n, lgc_j, cj_lt, cj_ge, cj_gt, cj_le, cj_eq, oL_r, oL_w, oL_f6, oL_g6, oL_f7, oL_g7, oL_f17, oL_g17, oL_f18, oL_g18, dl_T, dl_F, de_T, de_F, dle_T, dle_F, iI_divn, rem_n, nd_v, ct_s, Bool.false_eq_true]
      · obtain ⟨bn, rfl⟩ : ∃ bn : Nat, b = bn := ⟨b.toNat, by omega⟩
        have b2 := j_bitCount (d := d + 7) (T := T) (I := oI J) (L := L) (R := R) (z := z) (w := w) bn (by omega)
        have p2 := popN_12 bn
        have cf := c_comes (d := d + 6) (T := T) (I := oI J) (L := L) (R := R) (z := z) (w := w) s bn (by omega) (by omega)
        rw [if_neg c5, Int.toNat_natCast]
        by_cases c1 : popN bn < popN s
        · rw [if_pos c1]
          refine ⟨J, ?_, wH.i, h8, hF, hz⟩
          simp (disch := first | omega | exact hJ _ _ | exact rJ_g hJ _ _ | (simp (disch := omega) only [ur_r, ur_o, up_r, up_o]; omega) | assumption) only [c98, s98_0, s98_0v, s98_1, s98_4, b98_6, s98_9, s98_10, s98_13, s98_13v, s98_14, s98_17, b98_20, s98_23, s98_24, s98_25, s98_25v, s98_26, s98_29, b98_32, s98_35, s98_36, b98_38, s98_41, s98_41v, s98_42, s98_45, b98_47, s98_50, s98_51, s98_51v, s98_52, s98_55, b98_58, s98_61, s98_61v, s98_62, s98_63, s98_66, hM.t100, hM.t101, hM.r100_0, h9, v_s, hl, b1, b2, kl_i, kl_r, kl_l, kl_n, kl_z, bd_s, tl_s, tl_n, ap_c, ap_n, v_s, v_n, nd_1, nd_0, ct13, eq_self, iI_add, iI_sub, iI_mul, iI_nat, iI_eq, iI_lt, iI_le, iI_eq0, iI_lt0, ↓reduceIte, if_true, if_false, not_true_eq_false, not_false_eq_true, true_and, and_true, false_and, and_false, true_or, or_true, false_or, or_false, Int.reduceLT, Int.reduceLE, Int.reduceEq, Int.reduceAdd, Int.reduceSub, Int.reduceMul, Nat.reduceAdd, Nat.reduceLT, Nat.reduceEqDiff, Int.reduceNeg, nc_s, nc_0, Int.zero_add, Int.add_zero, oI_r, oI_w, oI_f0, oI_g0, oI_f1, oI_g1, oI_f2, oI_g2, oI_f3, oI_g3, oI_f4, oI_g4, oI_f5, oI_g5, oI_f6, oI_g6, oI_f7, oI_g7, oI_f8, oI_g8, oI_f9, oI_g9, oI_f10, oI_g10, oI_f11, oI_g11, oI_f12, oI_g12, oI_f13, oI_g13, oI_f14, oI_g14, oI_f15, oI_g15, oI_f16, oI_g16, oI_f17, oI_g17, oI_f18, oI_g18, oI_f19, oI_g19, oI_f20, oI_g20, oI_f21, oI_g21, oI_f22, oI_g22, oI_f23, oI_g23, oI_f24, oI_g24, oI_f25, oI_g25, ur_r, ur_o, ur_s, up_r, up_o, up_s, jI_add, jI_sub, jI_mul, jI_neg, jI_i, jI_n, lgc_j, cj_lt, cj_ge, cj_gt, cj_le, cj_eq, oL_r, oL_w, oL_f6, oL_g6, oL_f7, oL_g7, oL_f17, oL_g17, oL_f18, oL_g18, dl_T, dl_F, de_T, de_F, dle_T, dle_F, iI_divn, rem_n, nd_v, ct_s, Bool.false_eq_true]
        · rw [if_neg c1] at cf ⊢
          have key : ∀ v : Int, (v = s ∧ (popN s < popN bn ∨ (s : Int) < bn) ∨ v = bn ∧ ¬ popN s < popN bn ∧ ¬ (s : Int) < bn) → ∃ J' : mR, rn_c (d + 8 + 0) 98 [.ref 100, .int (iI (nedN S)), .int (iI s)] (T, oI J, L, R, z, w) = some (none, (T, oI J', L, R, z, w)) ∧ wH t (nedN S) J J' ∧ J' 100 8 = v ∧ (∀ j, 0 ≤ j → j < 5 → i32 (J' (t + 6) j)) ∧ cz J' := by
            intro v hv
            rcases hv with ⟨rfl, hv⟩ | ⟨rfl, hv1, hv2⟩
            · have cf' : rn_c (d + 6 + 1) 99 [.int (iI s), .int (iI bn)] (T, oI J, L, R, z, w) = some (some (.int (iI 1)), (T, oI J, L, R, z, w)) := by
                rw [cf]
                by_cases c2 : popN s < popN bn
                · rw [if_pos c2]
                · rw [if_neg c2, if_pos (by omega)]
              refine ⟨ur J 100 (up (J 100) 8 s), ?_, hH _, by rw [ur_r, up_r], hF' _, hz' _⟩
              simp (disch := first | omega | exact hJ _ _ | exact rJ_g hJ _ _ | (simp (disch := omega) only [ur_r, ur_o, up_r, up_o]; omega) | assumption) only [c98, s98_0, s98_0v, s98_1, s98_4, b98_6, s98_9, s98_10, s98_13, s98_13v, s98_14, s98_17, b98_20, s98_23, s98_24, s98_25, s98_25v, s98_26, s98_29, b98_32, s98_35, s98_36, b98_38, s98_41, s98_41v, s98_42, s98_45, b98_47, s98_50, s98_51, s98_51v, s98_52, s98_55, b98_58, s98_61, s98_61v, s98_62, s98_63, s98_66, hM.t100, hM.t101, hM.r100_0, h9, v_s, hl, b1, b2, hnS, cf', kl_i, kl_r, kl_l, kl_n, kl_z, bd_s, tl_s, tl_n, ap_c, ap_n, v_s, v_n, nd_1, nd_0, ct13, eq_self, iI_add, iI_sub, iI_mul, iI_nat, iI_eq, iI_lt, iI_le, iI_eq0, iI_lt0, ↓reduceIte, if_true, if_false, not_true_eq_false, not_false_eq_true, true_and, and_true, false_and, and_false, true_or, or_true, false_or, or_false, Int.reduceLT, Int.reduceLE, Int.reduceEq, Int.reduceAdd, Int.reduceSub, Int.reduceMul, Nat.reduceAdd, Nat.reduceLT, Nat.reduceEqDiff, Int.reduceNeg, nc_s, nc_0, Int.zero_add, Int.add_zero, oI_r, oI_w, oI_f0, oI_g0, oI_f1, oI_g1, oI_f2, oI_g2, oI_f3, oI_g3, oI_f4, oI_g4, oI_f5, oI_g5, oI_f6, oI_g6, oI_f7, oI_g7, oI_f8, oI_g8, oI_f9, oI_g9, oI_f10, oI_g10, oI_f11, oI_g11, oI_f12, oI_g12, oI_f13, oI_g13, oI_f14, oI_g14, oI_f15, oI_g15, oI_f16, oI_g16, oI_f17, oI_g17, oI_f18, oI_g18, oI_f19, oI_g19, oI_f20, oI_g20, oI_f21, oI_g21, oI_f22, oI_g22, oI_f23, oI_g23, oI_f24, oI_g24, oI_f25, oI_g25, ur_r, ur_o, ur_s, up_r, up_o, up_s, jI_add, jI_sub, jI_mul, jI_neg, jI_i, jI_n, lgc_j, cj_lt, cj_ge, cj_gt, cj_le, cj_eq, oL_r, oL_w, oL_f6, oL_g6, oL_f7, oL_g7, oL_f17, oL_g17, oL_f18, oL_g18, dl_T, dl_F, de_T, de_F, dle_T, dle_F, iI_divn, rem_n, nd_v, ct_s, Bool.false_eq_true]
            · rw [if_neg hv1, if_neg hv2] at cf
              refine ⟨J, ?_, wH.i, h8, hF, hz⟩
              simp (disch := first | omega | exact hJ _ _ | exact rJ_g hJ _ _ | (simp (disch := omega) only [ur_r, ur_o, up_r, up_o]; omega) | assumption) only [c98, s98_0, s98_0v, s98_1, s98_4, b98_6, s98_9, s98_10, s98_13, s98_13v, s98_14, s98_17, b98_20, s98_23, s98_24, s98_25, s98_25v, s98_26, s98_29, b98_32, s98_35, s98_36, b98_38, s98_41, s98_41v, s98_42, s98_45, b98_47, s98_50, s98_51, s98_51v, s98_52, s98_55, b98_58, s98_61, s98_61v, s98_62, s98_63, s98_66, hM.t100, hM.t101, hM.r100_0, h9, v_s, hl, b1, b2, hnS, cf, kl_i, kl_r, kl_l, kl_n, kl_z, bd_s, tl_s, tl_n, ap_c, ap_n, v_s, v_n, nd_1, nd_0, ct13, eq_self, iI_add, iI_sub, iI_mul, iI_nat, iI_eq, iI_lt, iI_le, iI_eq0, iI_lt0, ↓reduceIte, if_true, if_false, not_true_eq_false, not_false_eq_true, true_and, and_true, false_and, and_false, true_or, or_true, false_or, or_false, Int.reduceLT, Int.reduceLE, Int.reduceEq, Int.reduceAdd, Int.reduceSub, Int.reduceMul, Nat.reduceAdd, Nat.reduceLT, Nat.reduceEqDiff, Int.reduceNeg, nc_s, nc_0, Int.zero_add, Int.add_zero, oI_r, oI_w, oI_f0, oI_g0, oI_f1, oI_g1, oI_f2, oI_g2, oI_f3, oI_g3, oI_f4, oI_g4, oI_f5, oI_g5, oI_f6, oI_g6, oI_f7, oI_g7, oI_f8, oI_g8, oI_f9, oI_g9, oI_f10, oI_g10, oI_f11, oI_g11, oI_f12, oI_g12, oI_f13, oI_g13, oI_f14, oI_g14, oI_f15, oI_g15, oI_f16, oI_g16, oI_f17, oI_g17, oI_f18, oI_g18, oI_f19, oI_g19, oI_f20, oI_g20, oI_f21, oI_g21, oI_f22, oI_g22, oI_f23, oI_g23, oI_f24, oI_g24, oI_f25, oI_g25, ur_r, ur_o, ur_s, up_r, up_o, up_s, jI_add, jI_sub, jI_mul, jI_neg, jI_i, jI_n, lgc_j, cj_lt, cj_ge, cj_gt, cj_le, cj_eq, oL_r, oL_w, oL_f6, oL_g6, oL_f7, oL_g7, oL_f17, oL_g17, oL_f18, oL_g18, dl_T, dl_F, de_T, de_F, dle_T, dle_F, iI_divn, rem_n, nd_v, ct_s, Bool.false_eq_true]
          by_cases c2 : popN s < popN bn
          · rw [if_pos c2]; exact key s (by omega)
          · rw [if_neg c2]
            by_cases c3 : (s : Int) < bn
            · rw [if_pos c3]; exact key s (by omega)
            · rw [if_neg c3]; exact key bn (by omega)
  | succ m ih =>
    intro k s b J hk hs hb h8 hX hR hz h0 h9 h6
    have hkn : (k : Int) < nedN S := by omega
    have ek : nedN S - (m + 1) = k := by omega
    have ek1 : nedN S - m = k + 1 := by omega
    have p2 := pw_s k
    have hk12 : 2 ^ (k + 1) ≤ 2 ^ nedN S := Nat.pow_le_pow_right (by omega) (by omega)
    obtain ⟨a, bb, c, e⟩ := ndW_p ho s k (by omega) (fun i hi => hr i (by omega))
    obtain ⟨x1, x2, x3, x4, x5, x6, x7⟩ := id hX
    have htp : 108 ≤ t ∧ (192 < t ∨ t + 6 < 141) := by unfold tpl at x7; omega
    have ht6 : ¬ 116 = t + 6 ∧ ¬ 101 = t + 6 := by unfold tpl at x7; omega
    have hT := bb.oT ho.2.2.2.1
    have hF := x1.2.2.2.2.2.2
    have hl := h8
    have h999 := ho.2.2.2.2.2
    have hrk := hr k (by omega)
    have e6 := h6 k (by omega) (by omega)
    have a6 := hM.a116 k (by omega)
    have w1 := hM.wt k (by omega)
    have w2 := hM.wt (k + 1) (by omega)
    have er : R 139 (k : Int).toNat = some (141 + 4 * k) := by rw [Int.toNat_natCast]; exact hM.rt k (by omega)
    have er1 : R 139 ((k : Int) + 1).toNat = some (141 + 4 * (k + 1)) := by rw [show ((k : Int) + 1).toNat = k + 1 by omega]; exact hM.rt (k + 1) (by omega)
    have ea := hM.a139 k (by omega)
    have ea1 := hM.a139 ((k : Int) + 1) (by omega)
    have e17 : (k : Int) < S 17 ∧ (k : Int) < 12 := by rw [hnS] at hkn; split at hkn <;> omega
    have tail : ∀ (c' : Int) (s' : Nat) (V : Int → Int) (b1 : Int) (J2 : mR), 0 ≤ c' ∧ c' ≤ 1 → s' < 2 ^ (k + 1) → iI s ||| (iI c' <<< (iI (k : Int) &&& 31)) = iI s' → wH t k J J2 → (∀ j, 0 ≤ j → j < 5 → i32 (J2 (t + 6) j)) → cz J2 → J2 100 8 = b1 → (b1 = -5 ∨ 0 ≤ b1 ∧ b1 < 4096) → wR J2 (141 + 4 * (k + 1)) V → oS V → sx (ndW (tokL cs) S s k) V → tB (606 * k) V → V 10 = S 10 + k → hrS (tokL cs) V (S (180 + k)) = ndW (tokL cs) S s' (k + 1) → ∃ J4 : mR, rn_r (d + 8 + (m + 1)) 98 117 [some (.ref 100), some (.int (iI k)), some (.int (iI s)), some (.ref (141 + 4 * (k + 1))), some (.int (iI c'))] [] (T, oI J2, L, R, z, w) = rn_r (d + 8 + (m + 1)) 98 79 [some (.ref 100), some (.int (iI k)), some (.int (iI s)), some (.ref (141 + 4 * (k + 1))), some (.int (iI (c' + 1)))] [] (T, oI J4, L, R, z, w) ∧ wH t k J J4 ∧ (∀ j, 0 ≤ j → j < 5 → i32 (J4 (t + 6) j)) ∧ cz J4 ∧ J4 100 8 = (if ndW (tokL cs) S s' (k + 1) 13 = 0 then skF (tokL cs) S (nedN S) m s' b1 else b1) := by
      intro c' s' V b1 J2 hc' hs' hor g2 hF2 hz2 h82 hb1 hR2 hoV hxV htV h10 hend
      have hX2 := cX_y hX hM g2.y hF2 hxV hT
      have hTV := hxV.oT hT
      obtain ⟨J3, hp, hR3, f3, hF3⟩ := w_pass (d := d + 3 + m) (L := L) (z := z) (w := w) w2 hX2.1 ho.2.2.1 (hM.nc x2) hX2.2.2.1 hoV hTV (by unfold tB at htV ⊢; omega) hrk (by omega) (by omega) htp.1 hX2.2.2.2.1 hX2.2.2.2.2.1 hR2
      obtain ⟨p1, p2, p3, p4, p5⟩ := hr_p (sky := S (180 + k)) ho.2.2.1 hoV htV hTV (by omega) hrk
      rw [hend] at hR3 p1 p2 p3 p4
      have g3 : wH t k J J3 := ⟨fun b b0 b1 b2 => by rw [f3 b (by omega) (by omega) (by omega) (by omega) b2]; exact g2.1 b b0 b1 b2, fun j hj => by rw [f3 100 (by omega) (by omega) (by omega) (by omega) (by omega)]; exact g2.2 j hj⟩
      have h83 : J3 100 8 = b1 := by rw [f3 100 (by omega) (by omega) (by omega) (by omega) (by omega)]; exact h82
      have hX3 := cX_y hX hM g3.y hF3 (hxV.t p2) hT
      have hz3 : cz J3 := by
        intro k' hk' j hj
        by_cases e : k' = k + 1
        · subst e; exact hR3.2.2.2.2.2.2.2 j hj
        · rw [f3 _ (by omega) (by omega) (by omega) (by omega) (by omega)]; exact hz2 k' hk' j hj
      have w3 := hR3.2.2.2.2.2.1
      have h13 := p3.2.1
      have e6' : J2 116 k = S (180 + k) := by rw [g2.1 116 (by omega) (by omega) ht6.1]; exact e6
      have hp' : rn_c (d + 8 + m) 58 [.ref (141 + 4 * (k + 1)), .ref 101, .int (iI (S (180 + k)))] (T, oI J2, L, R, z, w) = some (none, (T, oI J3, L, R, z, w)) := by rw [show d + 8 + m = d + 3 + m + 5 by omega]; exact hp
      have ed : d + 8 + (m + 1) = d + 8 + m + 1 := by omega
      by_cases cd : ndW (tokL cs) S s' (k + 1) 13 = 0
      · obtain ⟨J4, hrun4, g4, h84, hF4, hz4⟩ := ih (k + 1) s' b1 J3 (by omega) hs' hb1 h83 hX3 hR3 hz3 cd (by rw [g3.1 101 (by omega) (by omega) ht6.2]; exact h9) (by intro i i0 i1; rw [g3.1 116 (by omega) (by omega) ht6.1]; exact h6 i i0 i1)
        refine ⟨J4, ?_, g3.tr g4.m, hF4, hz4, by rw [if_pos cd]; exact h84⟩
        have ek' : ((k + 1 : Nat) : Int) = (k : Int) + 1 := by omega
        rw [ek'] at hrun4
        rw [ed]
        refine Eq.trans ?_ (s98_157 ..)
        rw [cd] at w3
        simp (disch := first | omega | exact hJ _ _ | exact rJ_g hJ _ _ | (simp (disch := omega) only [ur_r, ur_o, up_r, up_o]; omega) | assumption) only [s98_117, s98_117v, s98_118, s98_118v, s98_119, s98_122, s98_122v, s98_123, s98_126, s98_129, s98_130, s98_131, s98_134, s98_134v, s98_135, b98_138, s98_141, s98_141v, s98_142, s98_143, s98_144, s98_145, s98_146, s98_148, s98_149, s98_150, s98_151, s98_154, hM.t100, hM.t101, hM.r100_0, hM.r101_8, v_s, a6, e6', w2.t0, hp', w3, hrun4, hor, kl_i, kl_r, kl_l, kl_n, kl_z, bd_s, tl_s, tl_n, ap_c, ap_n, v_s, v_n, nd_1, nd_0, ct13, eq_self, iI_add, iI_sub, iI_mul, iI_nat, iI_eq, iI_lt, iI_le, iI_eq0, iI_lt0, ↓reduceIte, if_true, if_false, not_true_eq_false, not_false_eq_true, true_and, and_true, false_and, and_false, true_or, or_true, false_or, or_false, Int.reduceLT, Int.reduceLE, Int.reduceEq, Int.reduceAdd, Int.reduceSub, Int.reduceMul, Nat.reduceAdd, Nat.reduceLT, Nat.reduceEqDiff, Int.reduceNeg, nc_s, nc_0, Int.zero_add, Int.add_zero, oI_r, oI_w, oI_f0, oI_g0, oI_f1, oI_g1, oI_f2, oI_g2, oI_f3, oI_g3, oI_f4, oI_g4, oI_f5, oI_g5, oI_f6, oI_g6, oI_f7, oI_g7, oI_f8, oI_g8, oI_f9, oI_g9, oI_f10, oI_g10, oI_f11, oI_g11, oI_f12, oI_g12, oI_f13, oI_g13, oI_f14, oI_g14, oI_f15, oI_g15, oI_f16, oI_g16, oI_f17, oI_g17, oI_f18, oI_g18, oI_f19, oI_g19, oI_f20, oI_g20, oI_f21, oI_g21, oI_f22, oI_g22, oI_f23, oI_g23, oI_f24, oI_g24, oI_f25, oI_g25, ur_r, ur_o, ur_s, up_r, up_o, up_s, jI_add, jI_sub, jI_mul, jI_neg, jI_i, jI_n, lgc_j, cj_lt, cj_ge, cj_gt, cj_le, cj_eq, oL_r, oL_w, oL_f6, oL_g6, oL_f7, oL_g7, oL_f17, oL_g17, oL_f18, oL_g18, dl_T, dl_F, de_T, de_F, dle_T, dle_F, iI_divn, rem_n, nd_v, ct_s, Bool.false_eq_true]
      · refine ⟨J3, ?_, g3, hF3, hz3, by rw [if_neg cd]; exact h83⟩
        rw [ed]
        refine Eq.trans ?_ (s98_157 ..)
        simp (disch := first | omega | exact hJ _ _ | exact rJ_g hJ _ _ | (simp (disch := omega) only [ur_r, ur_o, up_r, up_o]; omega) | assumption) only [s98_117, s98_117v, s98_118, s98_118v, s98_119, s98_122, s98_122v, s98_123, s98_126, s98_129, s98_130, s98_131, s98_134, s98_134v, s98_135, b98_138, s98_141, s98_141v, s98_142, s98_143, s98_144, s98_145, s98_146, s98_148, s98_149, s98_150, s98_151, s98_154, hM.t100, hM.t101, hM.r100_0, hM.r101_8, v_s, a6, e6', w2.t0, hp', w3, kl_i, kl_r, kl_l, kl_n, kl_z, bd_s, tl_s, tl_n, ap_c, ap_n, v_s, v_n, nd_1, nd_0, ct13, eq_self, iI_add, iI_sub, iI_mul, iI_nat, iI_eq, iI_lt, iI_le, iI_eq0, iI_lt0, ↓reduceIte, if_true, if_false, not_true_eq_false, not_false_eq_true, true_and, and_true, false_and, and_false, true_or, or_true, false_or, or_false, Int.reduceLT, Int.reduceLE, Int.reduceEq, Int.reduceAdd, Int.reduceSub, Int.reduceMul, Nat.reduceAdd, Nat.reduceLT, Nat.reduceEqDiff, Int.reduceNeg, nc_s, nc_0, Int.zero_add, Int.add_zero, oI_r, oI_w, oI_f0, oI_g0, oI_f1, oI_g1, oI_f2, oI_g2, oI_f3, oI_g3, oI_f4, oI_g4, oI_f5, oI_g5, oI_f6, oI_g6, oI_f7, oI_g7, oI_f8, oI_g8, oI_f9, oI_g9, oI_f10, oI_g10, oI_f11, oI_g11, oI_f12, oI_g12, oI_f13, oI_g13, oI_f14, oI_g14, oI_f15, oI_g15, oI_f16, oI_g16, oI_f17, oI_g17, oI_f18, oI_g18, oI_f19, oI_g19, oI_f20, oI_g20, oI_f21, oI_g21, oI_f22, oI_g22, oI_f23, oI_g23, oI_f24, oI_g24, oI_f25, oI_g25, ur_r, ur_o, ur_s, up_r, up_o, up_s, jI_add, jI_sub, jI_mul, jI_neg, jI_i, jI_n, lgc_j, cj_lt, cj_ge, cj_gt, cj_le, cj_eq, oL_r, oL_w, oL_f6, oL_g6, oL_f7, oL_g7, oL_f17, oL_g17, oL_f18, oL_g18, dl_T, dl_F, de_T, de_F, dle_T, dle_F, iI_divn, rem_n, nd_v, ct_s, Bool.false_eq_true]
    have b1 := j_bitCount (d := d + 8 + m) (T := T) (I := oI J) (L := L) (R := R) (z := z) (w := w) s (by omega)
    have ps := popN_12 s
    have ed : d + 8 + (m + 1) = d + 8 + m + 1 := by omega
    simp only [skF]
    rw [ek, ek1]
    by_cases c1 : ¬ b = -5 ∧ popN b.toNat < popN s
    · rw [if_pos c1, ed]
      obtain ⟨bn, rfl⟩ : ∃ bn : Nat, b = bn := ⟨b.toNat, by omega⟩
      have b2 := j_bitCount (d := d + 8 + m) (T := T) (I := oI J) (L := L) (R := R) (z := z) (w := w) bn (by omega)
      rw [Int.toNat_natCast] at c1
      have pb := popN_12 bn
      refine ⟨J, ?_, wH.i, h8, hF, hz⟩
      simp (disch := first | omega | exact hJ _ _ | exact rJ_g hJ _ _ | (simp (disch := omega) only [ur_r, ur_o, up_r, up_o]; omega) | assumption) only [c98, s98_0, s98_0v, s98_1, s98_4, b98_6, s98_9, s98_10, s98_13, s98_13v, s98_14, s98_17, b98_20, s98_23, s98_24, s98_25, s98_25v, s98_26, s98_29, b98_32, s98_35, s98_36, b98_38, s98_41, s98_41v, s98_42, s98_45, b98_47, s98_50, s98_51, s98_51v, s98_52, s98_55, b98_58, s98_61, s98_61v, s98_62, s98_63, s98_66, hM.t100, hM.t101, hM.r100_0, h9, v_s, hl, b1, b2, kl_i, kl_r, kl_l, kl_n, kl_z, bd_s, tl_s, tl_n, ap_c, ap_n, v_s, v_n, nd_1, nd_0, ct13, eq_self, iI_add, iI_sub, iI_mul, iI_nat, iI_eq, iI_lt, iI_le, iI_eq0, iI_lt0, ↓reduceIte, if_true, if_false, not_true_eq_false, not_false_eq_true, true_and, and_true, false_and, and_false, true_or, or_true, false_or, or_false, Int.reduceLT, Int.reduceLE, Int.reduceEq, Int.reduceAdd, Int.reduceSub, Int.reduceMul, Nat.reduceAdd, Nat.reduceLT, Nat.reduceEqDiff, Int.reduceNeg, nc_s, nc_0, Int.zero_add, Int.add_zero, oI_r, oI_w, oI_f0, oI_g0, oI_f1, oI_g1, oI_f2, oI_g2, oI_f3, oI_g3, oI_f4, oI_g4, oI_f5, oI_g5, oI_f6, oI_g6, oI_f7, oI_g7, oI_f8, oI_g8, oI_f9, oI_g9, oI_f10, oI_g10, oI_f11, oI_g11, oI_f12, oI_g12, oI_f13, oI_g13, oI_f14, oI_g14, oI_f15, oI_g15, oI_f16, oI_g16, oI_f17, oI_g17, oI_f18, oI_g18, oI_f19, oI_g19, oI_f20, oI_g20, oI_f21, oI_g21, oI_f22, oI_g22, oI_f23, oI_g23, oI_f24, oI_g24, oI_f25, oI_g25, ur_r, ur_o, ur_s, up_r, up_o, up_s, jI_add, jI_sub, jI_mul, jI_neg, jI_i, jI_n, lgc_j, cj_lt, cj_ge, cj_gt, cj_le, cj_eq, oL_r, oL_w, oL_f6, oL_g6, oL_f7, oL_g7, oL_f17, oL_g17, oL_f18, oL_g18, dl_T, dl_F, de_T, de_F, dle_T, dle_F, iI_divn, rem_n, nd_v, ct_s, Bool.false_eq_true]
    · rw [if_neg c1]
      have st0 : rn_c (d + 8 + (m + 1)) 98 [.ref 100, .int (iI k), .int (iI s)] (T, oI J, L, R, z, w) = rn_r (d + 8 + (m + 1)) 98 79 [some (.ref 100), some (.int (iI k)), some (.int (iI s)), some (.ref (141 + 4 * (k + 1))), some (.int (iI 0))] [] (T, oI J, L, R, z, w) := by
        rw [ed]
        by_cases c5 : b = -5
        · rw [c5] at hl
          simp (disch := first | omega | exact hJ _ _ | exact rJ_g hJ _ _ | (simp (disch := omega) only [ur_r, ur_o, up_r, up_o]; omega) | assumption) only [c98, s98_0, s98_0v, s98_1, s98_4, b98_6, s98_9, s98_10, s98_13, s98_13v, s98_14, s98_17, b98_20, s98_23, s98_24, s98_25, s98_25v, s98_26, s98_29, b98_32, s98_35, s98_36, b98_38, s98_41, s98_41v, s98_42, s98_45, b98_47, s98_50, s98_51, s98_51v, s98_52, s98_55, b98_58, s98_61, s98_61v, s98_62, s98_63, s98_66, s98_67, s98_67v, s98_68, s98_71, s98_72, s98_73, s98_74, s98_75, s98_75n, s98_75v, s98_76, s98_77, hM.t100, hM.t101, hM.r100_0, hM.r100_4, h9, v_s, hl, ea1, er1, kl_i, kl_r, kl_l, kl_n, kl_z, bd_s, tl_s, tl_n, ap_c, ap_n, v_s, v_n, nd_1, nd_0, ct13, eq_self, iI_add, iI_sub, iI_mul, iI_nat, iI_eq, iI_lt, iI_le, iI_eq0, iI_lt0, ↓reduceIte, if_true, if_false, not_true_eq_false, not_false_eq_true, true_and, and_true, false_and, and_false, true_or, or_true, false_or, or_false, Int.reduceLT, Int.reduceLE, Int.reduceEq, Int.reduceAdd, Int.reduceSub, Int.reduceMul, Nat.reduceAdd, Nat.reduceLT, Nat.reduceEqDiff, Int.reduceNeg, nc_s, nc_0, Int.zero_add, Int.add_zero, oI_r, oI_w, oI_f0, oI_g0, oI_f1, oI_g1, oI_f2, oI_g2, oI_f3, oI_g3, oI_f4, oI_g4, oI_f5, oI_g5, oI_f6, oI_g6, oI_f7, oI_g7, oI_f8, oI_g8, oI_f9, oI_g9, oI_f10, oI_g10, oI_f11, oI_g11, oI_f12, oI_g12, oI_f13, oI_g13, oI_f14, oI_g14, oI_f15, oI_g15, oI_f16, oI_g16, oI_f17, oI_g17, oI_f18, oI_g18, oI_f19, oI_g19, oI_f20, oI_g20, oI_f21, oI_g21, oI_f22, oI_g22, oI_f23, oI_g23, oI_f24, oI_g24, oI_f25, oI_g25, ur_r, ur_o, ur_s, up_r, up_o, up_s, jI_add, jI_sub, jI_mul, jI_neg, jI_i, jI_n, lgc_j, cj_lt, cj_ge, cj_gt, cj_le, cj_eq, oL_r, oL_w, oL_f6, oL_g6, oL_f7, oL_g7, oL_f17, oL_g17, oL_f18, oL_g18, dl_T, dl_F, de_T, de_F, dle_T, dle_F, iI_divn, rem_n, nd_v, ct_s, Bool.false_eq_true]
        · obtain ⟨bn, rfl⟩ : ∃ bn : Nat, b = bn := ⟨b.toNat, by omega⟩
          have b2 := j_bitCount (d := d + 8 + m) (T := T) (I := oI J) (L := L) (R := R) (z := z) (w := w) bn (by omega)
          rw [Int.toNat_natCast] at c1
          have pb := popN_12 bn
          simp (disch := first | omega | exact hJ _ _ | exact rJ_g hJ _ _ | (simp (disch := omega) only [ur_r, ur_o, up_r, up_o]; omega) | assumption) only [c98, s98_0, s98_0v, s98_1, s98_4, b98_6, s98_9, s98_10, s98_13, s98_13v, s98_14, s98_17, b98_20, s98_23, s98_24, s98_25, s98_25v, s98_26, s98_29, b98_32, s98_35, s98_36, b98_38, s98_41, s98_41v, s98_42, s98_45, b98_47, s98_50, s98_51, s98_51v, s98_52, s98_55, b98_58, s98_61, s98_61v, s98_62, s98_63, s98_66, s98_67, s98_67v, s98_68, s98_71, s98_72, s98_73, s98_74, s98_75, s98_75n, s98_75v, s98_76, s98_77, hM.t100, hM.t101, hM.r100_0, hM.r100_4, h9, v_s, hl, b1, b2, ea1, er1, kl_i, kl_r, kl_l, kl_n, kl_z, bd_s, tl_s, tl_n, ap_c, ap_n, v_s, v_n, nd_1, nd_0, ct13, eq_self, iI_add, iI_sub, iI_mul, iI_nat, iI_eq, iI_lt, iI_le, iI_eq0, iI_lt0, ↓reduceIte, if_true, if_false, not_true_eq_false, not_false_eq_true, true_and, and_true, false_and, and_false, true_or, or_true, false_or, or_false, Int.reduceLT, Int.reduceLE, Int.reduceEq, Int.reduceAdd, Int.reduceSub, Int.reduceMul, Nat.reduceAdd, Nat.reduceLT, Nat.reduceEqDiff, Int.reduceNeg, nc_s, nc_0, Int.zero_add, Int.add_zero, oI_r, oI_w, oI_f0, oI_g0, oI_f1, oI_g1, oI_f2, oI_g2, oI_f3, oI_g3, oI_f4, oI_g4, oI_f5, oI_g5, oI_f6, oI_g6, oI_f7, oI_g7, oI_f8, oI_g8, oI_f9, oI_g9, oI_f10, oI_g10, oI_f11, oI_g11, oI_f12, oI_g12, oI_f13, oI_g13, oI_f14, oI_g14, oI_f15, oI_g15, oI_f16, oI_g16, oI_f17, oI_g17, oI_f18, oI_g18, oI_f19, oI_g19, oI_f20, oI_g20, oI_f21, oI_g21, oI_f22, oI_g22, oI_f23, oI_g23, oI_f24, oI_g24, oI_f25, oI_g25, ur_r, ur_o, ur_s, up_r, up_o, up_s, jI_add, jI_sub, jI_mul, jI_neg, jI_i, jI_n, lgc_j, cj_lt, cj_ge, cj_gt, cj_le, cj_eq, oL_r, oL_w, oL_f6, oL_g6, oL_f7, oL_g7, oL_f17, oL_g17, oL_f18, oL_g18, dl_T, dl_F, de_T, de_F, dle_T, dle_F, iI_divn, rem_n, nd_v, ct_s, Bool.false_eq_true]
      have cpy : ∀ J1 : mR, wH t k J J1 → (∀ j, 0 ≤ j → j < 5 → i32 (J1 (t + 6) j)) → cz J1 → ∃ J2 : mR, rn_c (d + 8 + m) 53 [.ref (141 + 4 * (k + 1)), .ref (141 + 4 * k)] (T, oI J1, L, R, z, w) = some (none, (T, oI J2, L, R, z, w)) ∧ wH t k J J2 ∧ (∀ j, 0 ≤ j → j < 5 → i32 (J2 (t + 6) j)) ∧ cz J2 ∧ J2 100 8 = J1 100 8 ∧ wR J2 (141 + 4 * (k + 1)) (ndW (tokL cs) S s k) := by
        intro J1 g1 hF1 hz1
        have cp := w_copy (d := d + 8 + m) (J := J1) (L := L) (z := z) (w := w) w2 w1 (by omega)
        have hR1 : wR J1 (141 + 4 * k) (ndW (tokL cs) S s k) := wR_x hR (fun b b1 b2 => g1.1 b (by omega) (by omega) (by omega))
        have hR2 := wR_cp (a := 141 + 4 * (k + 1)) hR1 (hz1 (k + 1) (by omega))
        have f2 : ∀ b, ¬ (141 + 4 * (k + 1) ≤ b ∧ b ≤ 141 + 4 * (k + 1) + 2) → wcp J1 (141 + 4 * (k + 1)) (141 + 4 * k) b = J1 b := by
          intro b hb; unfold wcp; rw [ur_o (by omega), ur_o (by omega), ur_o (by omega)]
        refine ⟨_, cp, ⟨fun b b0 b1 b2 => by rw [f2 b (by omega)]; exact g1.1 b b0 b1 b2, fun j hj => by rw [f2 100 (by omega)]; exact g1.2 j hj⟩, fun j j0 j5 => by rw [f2 _ (by omega)]; exact hF1 j j0 j5, fun k' hk' j hj => by rw [f2 _ (by omega)]; exact hz1 k' hk' j hj, by rw [f2 100 (by omega)], hR2⟩
      obtain ⟨J2, cp2, g2, hF2, hz2, h82, hR2⟩ := cpy J wH.i hF hz
      have nb0 : ¬ s / 2 ^ k % 2 = 1 := by rw [Nat.div_eq_of_lt hs]; omega
      have en0 : hrS (tokL cs) (ndW (tokL cs) S s k) (S (180 + k)) = ndW (tokL cs) S s (k + 1) := by simp only [ndW, if_neg nb0]
      obtain ⟨J4, run4, g4, hF4, hz4, h84⟩ := tail 0 s (ndW (tokL cs) S s k) b J2 (by omega) (by omega) (by rw [st_0 k (by omega), or_z]) g2 hF2 hz2 (h82.trans h8) hb hR2 a sx.i c e en0
      obtain ⟨r1, hr1⟩ : ∃ r1, r1 = if ndW (tokL cs) S s (k + 1) 13 = 0 then skF (tokL cs) S (nedN S) m s b else b := ⟨_, rfl⟩
      rw [← hr1] at h84 ⊢
      have hb1 : r1 = -5 ∨ 0 ≤ r1 ∧ r1 < 4096 := by
        rw [hr1]
        split
        · rename_i q
          obtain ⟨A, _, _⟩ := sk_ok ho hn12 hr m (k + 1) s b (by omega) (by omega) hb q
          rcases A with e | ⟨x, e, h1, _⟩
          · rw [e]; exact hb
          · right; omega
        · exact hb
      obtain ⟨J5, cp5, g5, hF5, hz5, h85, hR5⟩ := cpy J4 g4 hF4 hz4
      have st1 : rn_r (d + 8 + (m + 1)) 98 79 [some (.ref 100), some (.int (iI k)), some (.int (iI s)), some (.ref (141 + 4 * (k + 1))), some (.int (iI 0))] [] (T, oI J, L, R, z, w) = rn_r (d + 8 + (m + 1)) 98 117 [some (.ref 100), some (.int (iI k)), some (.int (iI s)), some (.ref (141 + 4 * (k + 1))), some (.int (iI 0))] [] (T, oI J2, L, R, z, w) := by
        rw [ed]
        simp (disch := first | omega | exact hJ _ _ | exact rJ_g hJ _ _ | (simp (disch := omega) only [ur_r, ur_o, up_r, up_o]; omega) | assumption) only [s98_79, s98_81, b98_82, s98_85, s98_85v, s98_86, s98_86v, s98_87, s98_90, s98_91, s98_92, s98_95, b98_97, hM.t100, hM.r100_4, v_s, ea, er, w1.t0, w2.t0, cp2, kl_i, kl_r, kl_l, kl_n, kl_z, bd_s, tl_s, tl_n, ap_c, ap_n, v_s, v_n, nd_1, nd_0, ct13, eq_self, iI_add, iI_sub, iI_mul, iI_nat, iI_eq, iI_lt, iI_le, iI_eq0, iI_lt0, ↓reduceIte, if_true, if_false, not_true_eq_false, not_false_eq_true, true_and, and_true, false_and, and_false, true_or, or_true, false_or, or_false, Int.reduceLT, Int.reduceLE, Int.reduceEq, Int.reduceAdd, Int.reduceSub, Int.reduceMul, Nat.reduceAdd, Nat.reduceLT, Nat.reduceEqDiff, Int.reduceNeg, nc_s, nc_0, Int.zero_add, Int.add_zero, oI_r, oI_w, oI_f0, oI_g0, oI_f1, oI_g1, oI_f2, oI_g2, oI_f3, oI_g3, oI_f4, oI_g4, oI_f5, oI_g5, oI_f6, oI_g6, oI_f7, oI_g7, oI_f8, oI_g8, oI_f9, oI_g9, oI_f10, oI_g10, oI_f11, oI_g11, oI_f12, oI_g12, oI_f13, oI_g13, oI_f14, oI_g14, oI_f15, oI_g15, oI_f16, oI_g16, oI_f17, oI_g17, oI_f18, oI_g18, oI_f19, oI_g19, oI_f20, oI_g20, oI_f21, oI_g21, oI_f22, oI_g22, oI_f23, oI_g23, oI_f24, oI_g24, oI_f25, oI_g25, ur_r, ur_o, ur_s, up_r, up_o, up_s, jI_add, jI_sub, jI_mul, jI_neg, jI_i, jI_n, lgc_j, cj_lt, cj_ge, cj_gt, cj_le, cj_eq, oL_r, oL_w, oL_f6, oL_g6, oL_f7, oL_g7, oL_f17, oL_g17, oL_f18, oL_g18, dl_T, dl_F, de_T, de_F, dle_T, dle_F, iI_divn, rem_n, nd_v, ct_s, Bool.false_eq_true]
      have ld := ho.2.2.2.1.2.2.2
      have hco : ∀ j, 0 ≤ j ∧ j < 4 → J5 (141 + 4 * (k + 1) + 1) j = ndW (tokL cs) S s k j := hR5.1
      have mv := w_moveCart (d := d + 7 + m) (J := J5) (L := L) (R := R) (z := z) (w := w) w2 (fun j hj => by rw [hco j hj]; exact a.2.1 j hj) (tlS S 230 2) ld
      obtain ⟨e1, e2⟩ := ca_c hco (tlS S 230 2)
      rw [e1, show d + 7 + m + 1 = d + 8 + m by omega] at mv
      obtain ⟨c1, c2, c3, c4, c5⟩ := caS_p (load := tlS S 230 2) a ld.1
      have x6' : J5 t 2 = tlS S 230 2 := by
        have : tlS (ndW (tokL cs) S s k) 230 2 = tlS S 230 2 := bb.tl (by omega) ho.2.2.2.1.1.1
        rw [← this, ← x6, g5.1 t (by omega) (by omega) (by omega)]
      have cB : caN (ndW (tokL cs) S s k) (tlS S 230 2) ≤ 9 := by
        have := a.2.1 (gaS (ndW (tokL cs) S s k)) (gaS_r _)
        have := a.2.1 (laS (ndW (tokL cs) S s k)) (laS_r _)
        unfold caN
        simp only []
        repeat' split
        all_goals omega
      obtain ⟨J6, hJ6⟩ : ∃ J6, J6 = ur J5 (141 + 4 * (k + 1) + 1) (caS (J5 (141 + 4 * (k + 1) + 1)) (tlS S 230 2)) := ⟨_, rfl⟩
      rw [← hJ6] at mv
      have f6 : ∀ b, ¬ b = 141 + 4 * (k + 1) + 1 → J6 b = J5 b := fun b hb => by rw [hJ6, ur_o hb]
      have e6b : J6 (141 + 4 * (k + 1) + 1) = caS (J5 (141 + 4 * (k + 1) + 1)) (tlS S 230 2) := by rw [hJ6, ur_r]
      have g6 : wH t k J J6 := ⟨fun b b0 b1 b2 => by rw [f6 b (by omega)]; exact g5.1 b b0 b1 b2, fun j hj => by rw [f6 100 (by omega)]; exact g5.2 j hj⟩
      have hF6 : ∀ j, 0 ≤ j → j < 5 → i32 (J6 (t + 6) j) := fun j j0 j5 => by rw [f6 _ (by omega)]; exact hF5 j j0 j5
      have hz6 : cz J6 := fun k' hk' j hj => by rw [f6 _ (by omega)]; exact hz5 k' hk' j hj
      have h86 : J6 100 8 = r1 := by rw [f6 100 (by omega), h85]; exact h84
      by_cases cm : 0 < caN (ndW (tokL cs) S s k) (tlS S 230 2)
      · have hR6 : wR J6 (141 + 4 * (k + 1)) (caS (ndW (tokL cs) S s k) (tlS S 230 2)) := by
          obtain ⟨w1, w2, w3, w4, w5, w6, w7, w8⟩ := hR5
          refine ⟨fun j hj => ?_, fun p hp => ?_, ?_, ?_, ?_, ?_, ?_, fun j hj => ?_⟩
          · rw [e6b]; exact e2 j hj
          · rw [f6 _ (by omega), w2 p hp]; unfold dOf; rw [c3 _ (by omega), c3 _ (by omega), c3 _ (by omega)]
          · rw [f6 _ (by omega), w3, c3 _ (by omega)]
          · rw [f6 _ (by omega), w4, c3 _ (by omega)]
          · rw [f6 _ (by omega), w5, c3 _ (by omega)]
          · rw [f6 _ (by omega), w6, c3 _ (by omega)]
          · rw [f6 _ (by omega), w7, c3 _ (by omega)]
          · rw [f6 _ (by omega)]; exact w8 j hj
        have nb1 : (s + 2 ^ k) / 2 ^ k % 2 = 1 := by rw [bq_add hs, if_pos rfl]
        have enc : ndW (tokL cs) S (s + 2 ^ k) k = ndW (tokL cs) S s k := ndW_c _ _ _ _ k (fun i hi => by rw [bq_add hs, if_neg (by omega)])
        have en1 : hrS (tokL cs) (caS (ndW (tokL cs) S s k) (tlS S 230 2)) (S (180 + k)) = ndW (tokL cs) S (s + 2 ^ k) (k + 1) := by simp only [ndW, if_pos nb1, enc]
        obtain ⟨J7, run7, g7, hF7, hz7, h87⟩ := tail 1 (s + 2 ^ k) (caS (ndW (tokL cs) S s k) (tlS S 230 2)) r1 J6 (by omega) (by omega) (st_e s (by omega) k (by omega) hs) g6 hF6 hz6 h86 hb1 hR6 c1 c2 (by unfold tB at c ⊢; rw [c3 _ (by omega), c3 _ (by omega), c3 _ (by omega)]; exact c) (by rw [c3 _ (by omega)]; exact e) en1
        refine ⟨J7, ?_, g7, ?_, hF7, hz7⟩
        · have st2 : rn_r (d + 8 + (m + 1)) 98 79 [some (.ref 100), some (.int (iI k)), some (.int (iI s)), some (.ref (141 + 4 * (k + 1))), some (.int (iI 1))] [] (T, oI J4, L, R, z, w) = rn_r (d + 8 + (m + 1)) 98 117 [some (.ref 100), some (.int (iI k)), some (.int (iI s)), some (.ref (141 + 4 * (k + 1))), some (.int (iI 1))] [] (T, oI J6, L, R, z, w) := by
            rw [ed]
            simp (disch := first | omega | exact hJ _ _ | exact rJ_g hJ _ _ | (simp (disch := omega) only [ur_r, ur_o, up_r, up_o]; omega) | assumption) only [s98_79, s98_81, b98_82, s98_85, s98_85v, s98_86, s98_86v, s98_87, s98_90, s98_91, s98_92, s98_95, b98_97, s98_100, s98_100v, s98_101, s98_101v, s98_102, s98_105, s98_108, s98_111, b98_114, hM.t100, hM.t101, hM.r100_0, hM.r100_4, v_s, ea, er, w1.t0, w2.t0, cp5, x2, x1.1.1, x6', mv, kl_i, kl_r, kl_l, kl_n, kl_z, bd_s, tl_s, tl_n, ap_c, ap_n, v_s, v_n, nd_1, nd_0, ct13, eq_self, iI_add, iI_sub, iI_mul, iI_nat, iI_eq, iI_lt, iI_le, iI_eq0, iI_lt0, ↓reduceIte, if_true, if_false, not_true_eq_false, not_false_eq_true, true_and, and_true, false_and, and_false, true_or, or_true, false_or, or_false, Int.reduceLT, Int.reduceLE, Int.reduceEq, Int.reduceAdd, Int.reduceSub, Int.reduceMul, Nat.reduceAdd, Nat.reduceLT, Nat.reduceEqDiff, Int.reduceNeg, nc_s, nc_0, Int.zero_add, Int.add_zero, oI_r, oI_w, oI_f0, oI_g0, oI_f1, oI_g1, oI_f2, oI_g2, oI_f3, oI_g3, oI_f4, oI_g4, oI_f5, oI_g5, oI_f6, oI_g6, oI_f7, oI_g7, oI_f8, oI_g8, oI_f9, oI_g9, oI_f10, oI_g10, oI_f11, oI_g11, oI_f12, oI_g12, oI_f13, oI_g13, oI_f14, oI_g14, oI_f15, oI_g15, oI_f16, oI_g16, oI_f17, oI_g17, oI_f18, oI_g18, oI_f19, oI_g19, oI_f20, oI_g20, oI_f21, oI_g21, oI_f22, oI_g22, oI_f23, oI_g23, oI_f24, oI_g24, oI_f25, oI_g25, ur_r, ur_o, ur_s, up_r, up_o, up_s, jI_add, jI_sub, jI_mul, jI_neg, jI_i, jI_n, lgc_j, cj_lt, cj_ge, cj_gt, cj_le, cj_eq, oL_r, oL_w, oL_f6, oL_g6, oL_f7, oL_g7, oL_f17, oL_g17, oL_f18, oL_g18, dl_T, dl_F, de_T, de_F, dle_T, dle_F, iI_divn, rem_n, nd_v, ct_s, Bool.false_eq_true]
          rw [st0, st1, run4, Int.zero_add, st2, run7, ed]
          simp (disch := first | omega | exact hJ _ _ | exact rJ_g hJ _ _ | (simp (disch := omega) only [ur_r, ur_o, up_r, up_o]; omega) | assumption) only [s98_79, s98_81, b98_82, s98_160, kl_i, kl_r, kl_l, kl_n, kl_z, bd_s, tl_s, tl_n, ap_c, ap_n, v_s, v_n, nd_1, nd_0, ct13, eq_self, iI_add, iI_sub, iI_mul, iI_nat, iI_eq, iI_lt, iI_le, iI_eq0, iI_lt0, ↓reduceIte, if_true, if_false, not_true_eq_false, not_false_eq_true, true_and, and_true, false_and, and_false, true_or, or_true, false_or, or_false, Int.reduceLT, Int.reduceLE, Int.reduceEq, Int.reduceAdd, Int.reduceSub, Int.reduceMul, Nat.reduceAdd, Nat.reduceLT, Nat.reduceEqDiff, Int.reduceNeg, nc_s, nc_0, Int.zero_add, Int.add_zero, oI_r, oI_w, oI_f0, oI_g0, oI_f1, oI_g1, oI_f2, oI_g2, oI_f3, oI_g3, oI_f4, oI_g4, oI_f5, oI_g5, oI_f6, oI_g6, oI_f7, oI_g7, oI_f8, oI_g8, oI_f9, oI_g9, oI_f10, oI_g10, oI_f11, oI_g11, oI_f12, oI_g12, oI_f13, oI_g13, oI_f14, oI_g14, oI_f15, oI_g15, oI_f16, oI_g16, oI_f17, oI_g17, oI_f18, oI_g18, oI_f19, oI_g19, oI_f20, oI_g20, oI_f21, oI_g21, oI_f22, oI_g22, oI_f23, oI_g23, oI_f24, oI_g24, oI_f25, oI_g25, ur_r, ur_o, ur_s, up_r, up_o, up_s, jI_add, jI_sub, jI_mul, jI_neg, jI_i, jI_n, lgc_j, cj_lt, cj_ge, cj_gt, cj_le, cj_eq, oL_r, oL_w, oL_f6, oL_g6, oL_f7, oL_g7, oL_f17, oL_g17, oL_f18, oL_g18, dl_T, dl_F, de_T, de_F, dle_T, dle_F, iI_divn, rem_n, nd_v, ct_s, Bool.false_eq_true]
        · rw [h87]
          by_cases q : ndW (tokL cs) S (s + 2 ^ k) (k + 1) 13 = 0
          · rw [if_pos q, if_pos ⟨cm, q⟩]
          · rw [if_neg q, if_neg (fun g => q g.2)]
      · refine ⟨J6, ?_, g6, ?_, hF6, hz6⟩
        · have st2 : rn_r (d + 8 + (m + 1)) 98 79 [some (.ref 100), some (.int (iI k)), some (.int (iI s)), some (.ref (141 + 4 * (k + 1))), some (.int (iI 1))] [] (T, oI J4, L, R, z, w) = rn_r (d + 8 + (m + 1)) 98 79 [some (.ref 100), some (.int (iI k)), some (.int (iI s)), some (.ref (141 + 4 * (k + 1))), some (.int (iI (1 + 1)))] [] (T, oI J6, L, R, z, w) := by
            rw [ed]
            refine Eq.trans ?_ (s98_157 ..)
            simp (disch := first | omega | exact hJ _ _ | exact rJ_g hJ _ _ | (simp (disch := omega) only [ur_r, ur_o, up_r, up_o]; omega) | assumption) only [s98_79, s98_81, b98_82, s98_85, s98_85v, s98_86, s98_86v, s98_87, s98_90, s98_91, s98_92, s98_95, b98_97, s98_100, s98_100v, s98_101, s98_101v, s98_102, s98_105, s98_108, s98_111, b98_114, s98_154, hM.t100, hM.t101, hM.r100_0, hM.r100_4, v_s, ea, er, w1.t0, w2.t0, cp5, x2, x1.1.1, x6', mv, kl_i, kl_r, kl_l, kl_n, kl_z, bd_s, tl_s, tl_n, ap_c, ap_n, v_s, v_n, nd_1, nd_0, ct13, eq_self, iI_add, iI_sub, iI_mul, iI_nat, iI_eq, iI_lt, iI_le, iI_eq0, iI_lt0, ↓reduceIte, if_true, if_false, not_true_eq_false, not_false_eq_true, true_and, and_true, false_and, and_false, true_or, or_true, false_or, or_false, Int.reduceLT, Int.reduceLE, Int.reduceEq, Int.reduceAdd, Int.reduceSub, Int.reduceMul, Nat.reduceAdd, Nat.reduceLT, Nat.reduceEqDiff, Int.reduceNeg, nc_s, nc_0, Int.zero_add, Int.add_zero, oI_r, oI_w, oI_f0, oI_g0, oI_f1, oI_g1, oI_f2, oI_g2, oI_f3, oI_g3, oI_f4, oI_g4, oI_f5, oI_g5, oI_f6, oI_g6, oI_f7, oI_g7, oI_f8, oI_g8, oI_f9, oI_g9, oI_f10, oI_g10, oI_f11, oI_g11, oI_f12, oI_g12, oI_f13, oI_g13, oI_f14, oI_g14, oI_f15, oI_g15, oI_f16, oI_g16, oI_f17, oI_g17, oI_f18, oI_g18, oI_f19, oI_g19, oI_f20, oI_g20, oI_f21, oI_g21, oI_f22, oI_g22, oI_f23, oI_g23, oI_f24, oI_g24, oI_f25, oI_g25, ur_r, ur_o, ur_s, up_r, up_o, up_s, jI_add, jI_sub, jI_mul, jI_neg, jI_i, jI_n, lgc_j, cj_lt, cj_ge, cj_gt, cj_le, cj_eq, oL_r, oL_w, oL_f6, oL_g6, oL_f7, oL_g7, oL_f17, oL_g17, oL_f18, oL_g18, dl_T, dl_F, de_T, de_F, dle_T, dle_F, iI_divn, rem_n, nd_v, ct_s, Bool.false_eq_true]
          rw [st0, st1, run4, Int.zero_add, st2, ed]
          simp (disch := first | omega | exact hJ _ _ | exact rJ_g hJ _ _ | (simp (disch := omega) only [ur_r, ur_o, up_r, up_o]; omega) | assumption) only [s98_79, s98_81, b98_82, s98_160, kl_i, kl_r, kl_l, kl_n, kl_z, bd_s, tl_s, tl_n, ap_c, ap_n, v_s, v_n, nd_1, nd_0, ct13, eq_self, iI_add, iI_sub, iI_mul, iI_nat, iI_eq, iI_lt, iI_le, iI_eq0, iI_lt0, ↓reduceIte, if_true, if_false, not_true_eq_false, not_false_eq_true, true_and, and_true, false_and, and_false, true_or, or_true, false_or, or_false, Int.reduceLT, Int.reduceLE, Int.reduceEq, Int.reduceAdd, Int.reduceSub, Int.reduceMul, Nat.reduceAdd, Nat.reduceLT, Nat.reduceEqDiff, Int.reduceNeg, nc_s, nc_0, Int.zero_add, Int.add_zero, oI_r, oI_w, oI_f0, oI_g0, oI_f1, oI_g1, oI_f2, oI_g2, oI_f3, oI_g3, oI_f4, oI_g4, oI_f5, oI_g5, oI_f6, oI_g6, oI_f7, oI_g7, oI_f8, oI_g8, oI_f9, oI_g9, oI_f10, oI_g10, oI_f11, oI_g11, oI_f12, oI_g12, oI_f13, oI_g13, oI_f14, oI_g14, oI_f15, oI_g15, oI_f16, oI_g16, oI_f17, oI_g17, oI_f18, oI_g18, oI_f19, oI_g19, oI_f20, oI_g20, oI_f21, oI_g21, oI_f22, oI_g22, oI_f23, oI_g23, oI_f24, oI_g24, oI_f25, oI_g25, ur_r, ur_o, ur_s, up_r, up_o, up_s, jI_add, jI_sub, jI_mul, jI_neg, jI_i, jI_n, lgc_j, cj_lt, cj_ge, cj_gt, cj_le, cj_eq, oL_r, oL_w, oL_f6, oL_g6, oL_f7, oL_g7, oL_f17, oL_g17, oL_f18, oL_g18, dl_T, dl_F, de_T, de_F, dle_T, dle_F, iI_divn, rem_n, nd_v, ct_s, Bool.false_eq_true]
        · rw [h86, if_neg (fun g => cm g.1)]
/-- what the methods that only ask change -/
def qG (t : Nat) (J J' : mR) : Prop := (∀ b, ¬ b = 100 → ¬ (141 ≤ b ∧ b ≤ 192) → ¬ b = t + 6 → J' b = J b) ∧ (∀ j, ¬ j = 8 → J' 100 j = J 100 j) ∧ (∀ j, 0 ≤ j → j < 5 → i32 (J' (t + 6) j)) ∧ cz J'
theorem qF.g {J J' : mR} (h : qF t J J') (h7 : tpl t) : qG t J J' := by
  unfold tpl at h7
  exact ⟨fun b _ b1 b2 => h.1 b b1 b2, fun j _ => by rw [h.1 100 (by omega) (by omega)], h.2.1, h.2.2⟩
theorem qG.y {J J' : mR} (h : qG t J J') : wY t J J' := fun b b0 _ b2 b3 => h.1 b b0 b2 b3
theorem cS.y {J' : mR} (hM : cM T R) (h : cS T R J t cs S) (hT : oT S) (f : qG t J J') : cS T R J' t cs S := by
  obtain ⟨h1, h2, h3⟩ := h
  refine ⟨cX_y h1 hM f.y f.2.2.1 sx.i hT, ?_, f.2.2.2⟩
  have h7 := h1.2.2.2.2.2.2
  unfold tpl at h7
  obtain ⟨n1, n2, n3, n4, n5⟩ := h2
  unfold nw
  rw [f.1 102 (by omega) (by omega) (by omega), f.1 103 (by omega) (by omega) (by omega), f.1 104 (by omega) (by omega) (by omega), f.1 105 (by omega) (by omega) (by omega)]
  exact ⟨n1, n2, n3, n4, n5⟩
theorem c_needed (hM : cM T R) (ho : oR (tokL cs) S) (h : cS T R J t cs S) (hP : cPl J S) (h17 : 0 ≤ S 17 ∧ S 17 ≤ 20) (hr : ∀ k, 0 ≤ k → k < S 17 → 0 ≤ S (180 + k) ∧ S (180 + k) ≤ 1) : ∃ J' Q' : mR, rn_c (d + 30) 80 [.ref 100] (T, oI J, oL Q, R, z, w) = some (some (.int (iI (neededV (tokL cs) S))), (T, oI J', oL Q', R, z, w)) ∧ qG t J J' ∧ cF Q Q' := by
  obtain ⟨J0, hJ0⟩ : ∃ J0, J0 = ur J 100 (up (J 100) 8 (-5)) := ⟨_, rfl⟩
  have f0 : ∀ b, ¬ b = 100 → J0 b = J b := fun b hb => by rw [hJ0, ur_o hb]
  have e0 : J0 100 = up (J 100) 8 (-5) := by rw [hJ0, ur_r]
  have h7 := h.1.2.2.2.2.2.2
  unfold tpl at h7
  have hn12 : nedN S ≤ 12 := by unfold nedN; split <;> omega
  have hnS : (nedN S : Int) ≤ S 17 := by unfold nedN; split <;> omega
  have hr' : ∀ k : Nat, k < nedN S → 0 ≤ S (180 + k) ∧ S (180 + k) ≤ 1 := fun k hk => hr k (by omega) (by omega)
  have bg := c_begin (d := d + 28) (J := J0) (Q := Q) (z := z) (w := w) hM
  have g1 : qG t J (bgJ J0) := by
    refine ⟨fun b b0 b1 b2 => ?_, fun j hj => ?_, fun j j0 j5 => ?_, fun k hk j hj => ?_⟩
    · rw [bgJ_f (by omega) (by omega) (by omega), f0 b b0]
    · rw [bgJ_f (by omega) (by omega) (by omega), e0, up_o hj]
    · rw [bgJ_f (by omega) (by omega) (by omega), f0 _ (by omega)]; exact h.1.1.2.2.2.2.2.2 j j0 j5
    · rw [bgJ_f (by omega) (by omega) (by omega), f0 _ (by omega)]; exact h.2.2 k hk j hj
  have hX := cX_y h.1 hM g1.y g1.2.2.1 sx.i ho.2.2.2.1
  have hn0 : nw J0 S := by
    unfold nw
    rw [f0 102 (by omega), f0 103 (by omega), f0 104 (by omega), f0 105 (by omega)]
    exact h.2.1
  have hz0 : cz J0 := fun k hk j hj => by rw [f0 _ (by omega)]; exact h.2.2 k hk j hj
  have hR := bgJ_R hn0 ho.2.2.2.2.1 hz0
  have n13 : ndW (tokL cs) S 0 0 13 = 0 := by
    have := ho.2.2.2.2.1.2.1
    simp only [ndW]; omega
  have e8 : bgJ J0 100 8 = -5 := by rw [bgJ_f (by omega) (by omega) (by omega), e0, up_r]
  have e9 : bgJ J0 101 9 = S 17 := by rw [bgJ_f (by omega) (by omega) (by omega), f0 _ (by omega)]; exact hP.1.2.2.1
  obtain ⟨J2, hrun, hH, h8, hF2, hz2⟩ := c_seek (d := d + 21 - nedN S) (L := oL (zQ Q)) (z := z) (w := w) hM ho h17 hr' (nedN S) 0 0 (-5) (bgJ J0) (by omega) (by omega) (Or.inl rfl) e8 hX hR g1.2.2.2 n13 e9 (by intro i i0 i1; rw [bgJ_f (by omega) (by omega) (by omega), f0 _ (by omega)]; exact hP.2.1 i i0 (by omega))
  rw [show d + 21 - nedN S + 8 + nedN S = d + 29 by omega] at hrun
  rw [sk_ne ho hn12 hr'] at h8
  refine ⟨J2, zQ Q, ?_, ⟨fun b b0 b1 b2 => (hH.1 b b0 (by omega) b2).trans (g1.1 b b0 b1 b2), fun j hj => (hH.2 j hj).trans (g1.2.1 j hj), hF2, hz2⟩, fun b b1 b2 => by unfold zQ cQ; simp only [ur_o b1, ur_o b2]⟩
  unfold neededV
  simp only [nc_0] at hrun
  rw [hJ0] at bg
  rw [hJ0] at hrun
  simp (disch := first | omega | exact hJ _ _ | exact rJ_g hJ _ _ | (simp (disch := omega) only [ur_r, ur_o, up_r, up_o]; omega) | assumption) only [c80, s80_0, s80_0v, s80_1, s80_3, s80_6, s80_6v, s80_7, s80_10, s80_11, s80_11v, s80_12, s80_13, s80_14, s80_17, s80_17v, s80_18, s80_21, hM.t100, bg, hrun, h8, kl_i, kl_r, kl_l, kl_n, kl_z, bd_s, tl_s, tl_n, ap_c, ap_n, v_s, v_n, nd_1, nd_0, ct13, eq_self, iI_add, iI_sub, iI_mul, iI_nat, iI_eq, iI_lt, iI_le, iI_eq0, iI_lt0, ↓reduceIte, if_true, if_false, not_true_eq_false, not_false_eq_true, true_and, and_true, false_and, and_false, true_or, or_true, false_or, or_false, Int.reduceLT, Int.reduceLE, Int.reduceEq, Int.reduceAdd, Int.reduceSub, Int.reduceMul, Nat.reduceAdd, Nat.reduceLT, Nat.reduceEqDiff, Int.reduceNeg, nc_s, nc_0, Int.zero_add, Int.add_zero, oI_r, oI_w, oI_f0, oI_g0, oI_f1, oI_g1, oI_f2, oI_g2, oI_f3, oI_g3, oI_f4, oI_g4, oI_f5, oI_g5, oI_f6, oI_g6, oI_f7, oI_g7, oI_f8, oI_g8, oI_f9, oI_g9, oI_f10, oI_g10, oI_f11, oI_g11, oI_f12, oI_g12, oI_f13, oI_g13, oI_f14, oI_g14, oI_f15, oI_g15, oI_f16, oI_g16, oI_f17, oI_g17, oI_f18, oI_g18, oI_f19, oI_g19, oI_f20, oI_g20, oI_f21, oI_g21, oI_f22, oI_g22, oI_f23, oI_g23, oI_f24, oI_g24, oI_f25, oI_g25, ur_r, ur_o, ur_s, up_r, up_o, up_s, jI_add, jI_sub, jI_mul, jI_neg, jI_i, jI_n, lgc_j, cj_lt, cj_ge, cj_gt, cj_le, cj_eq, oL_r, oL_w, oL_f6, oL_g6, oL_f7, oL_g7, oL_f17, oL_g17, oL_f18, oL_g18, dl_T, dl_F, de_T, de_F, dle_T, dle_F, iI_divn, rem_n, nd_v, ct_s, Bool.false_eq_true]
end SN
