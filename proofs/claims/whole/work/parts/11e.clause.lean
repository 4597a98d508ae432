/-! the class: a clause is read -/
section TE
variable {d : Nat} {T : Nat → Nat × Nat} {L : Nat → Nat → Int64} {R : Nat → Nat → Option Nat} {z w : Nat} {J : mR} {t : Nat} {n i k : Int} {x V : Int → Int} {cs : List CL}
theorem pC_e (h13 : J t 13 = i) : pC J t i (J t 9) (J (t + 5)) = J := by
  show ur (ur J t (up (up (J t) 9 (J t 9)) 13 i)) (t + 5) (J (t + 5)) = J
  rw [up_e, ← h13, up_e, ur_e, ur_e]
/-- what a clause changes -/
def fT (t : Nat) (J J' : mR) : Prop := (∀ b, ¬ (t ≤ b ∧ b ≤ t + 6) → J' b = J b) ∧ J' t 12 = J t 12
theorem fT_p : fT t J (pC J t i k V) := by
  refine ⟨fun b hb => ?_, ?_⟩
  · show ur (ur J t _) (t + 5) _ b = _
    rw [ur_o (by omega), ur_o (by omega)]
  · show ur (ur J t _) (t + 5) _ t 12 = _
    simp (disch := omega) only [ur_o, ur_r, up_o]
theorem fT.tr {J' J'' : mR} (h : fT t J J') (g : fT t J' J'') : fT t J J'' := ⟨fun b hb => (g.1 b hb).trans (h.1 b hb), g.2.trans h.2⟩
theorem kc_1 (h : tc T R t) (v k : Int) : rn_c (d + 1) 29 [.ref t, .int (iI 1), .int (iI v), .int (iI k)] (T, oI J, L, R, z, w) = some (none, (T, oI (ur J t (up (J t) 0 v)), L, R, z, w)) := by
  have t0 : T t = (8, 0) := h.1
  simp (disch := first | omega | exact hJ _ _ | exact rJ_g hJ _ _ | (simp (disch := omega) only [ur_r, ur_o, up_r, up_o]; omega) | assumption) only [c29, s29_0, b29_1, s29_36, s29_36v, s29_37, s29_38, s29_39, s29_42, s29_45, s29_45v, s29_46, s29_47, s29_50, s29_53, s29_53v, s29_54, s29_55, s29_58, s29_61, s29_61v, s29_62, s29_63, s29_66, s29_69, s29_69v, s29_70, s29_71, s29_72, s29_75, t0, kl_i, kl_r, kl_l, kl_n, kl_z, bd_s, tl_s, tl_n, ap_c, ap_n, v_s, v_n, nd_1, nd_0, ct13, eq_self, iI_add, iI_sub, iI_mul, iI_nat, iI_eq, iI_lt, iI_le, iI_eq0, iI_lt0, ↓reduceIte, if_true, if_false, not_true_eq_false, not_false_eq_true, true_and, and_true, false_and, and_false, true_or, or_true, false_or, or_false, Int.reduceLT, Int.reduceLE, Int.reduceEq, Int.reduceAdd, Int.reduceSub, Int.reduceMul, Nat.reduceAdd, Nat.reduceLT, Nat.reduceEqDiff, Int.reduceNeg, nc_s, nc_0, Int.zero_add, Int.add_zero, oI_r, oI_w, oI_f0, oI_g0, oI_f1, oI_g1, oI_f2, oI_g2, oI_f3, oI_g3, oI_f4, oI_g4, oI_f5, oI_g5, oI_f6, oI_g6, oI_f7, oI_g7, oI_f8, oI_g8, oI_f9, oI_g9, oI_f10, oI_g10, oI_f11, oI_g11, oI_f12, oI_g12, oI_f13, oI_g13, oI_f14, oI_g14, oI_f15, oI_g15, oI_f16, oI_g16, oI_f17, oI_g17, oI_f18, oI_g18, oI_f19, oI_g19, oI_f20, oI_g20, oI_f21, oI_g21, oI_f22, oI_g22, oI_f23, oI_g23, oI_f24, oI_g24, oI_f25, oI_g25, ur_r, ur_o, ur_s, up_r, up_o, up_s, jI_add, jI_sub, jI_mul, jI_neg, jI_i, jI_n, lgc_j, cj_lt, cj_ge, cj_gt, cj_le, cj_eq, oL_r, oL_w, oL_f6, oL_g6, oL_f7, oL_g7, oL_f17, oL_g17, oL_f18, oL_g18, dl_T, dl_F, de_T, de_F, dle_T, dle_F, iI_divn, rem_n, nd_v, ct_s, Bool.false_eq_true]
theorem kc_2 (h : tc T R t) (v k : Int) : rn_c (d + 1) 29 [.ref t, .int (iI 2), .int (iI v), .int (iI k)] (T, oI J, L, R, z, w) = some (none, (T, oI (ur J t (up (J t) 1 v)), L, R, z, w)) := by
  have t0 : T t = (8, 0) := h.1
  simp (disch := first | omega | exact hJ _ _ | exact rJ_g hJ _ _ | (simp (disch := omega) only [ur_r, ur_o, up_r, up_o]; omega) | assumption) only [c29, s29_0, b29_1, s29_36, s29_36v, s29_37, s29_38, s29_39, s29_42, s29_45, s29_45v, s29_46, s29_47, s29_50, s29_53, s29_53v, s29_54, s29_55, s29_58, s29_61, s29_61v, s29_62, s29_63, s29_66, s29_69, s29_69v, s29_70, s29_71, s29_72, s29_75, t0, kl_i, kl_r, kl_l, kl_n, kl_z, bd_s, tl_s, tl_n, ap_c, ap_n, v_s, v_n, nd_1, nd_0, ct13, eq_self, iI_add, iI_sub, iI_mul, iI_nat, iI_eq, iI_lt, iI_le, iI_eq0, iI_lt0, ↓reduceIte, if_true, if_false, not_true_eq_false, not_false_eq_true, true_and, and_true, false_and, and_false, true_or, or_true, false_or, or_false, Int.reduceLT, Int.reduceLE, Int.reduceEq, Int.reduceAdd, Int.reduceSub, Int.reduceMul, Nat.reduceAdd, Nat.reduceLT, Nat.reduceEqDiff, Int.reduceNeg, nc_s, nc_0, Int.zero_add, Int.add_zero, oI_r, oI_w, oI_f0, oI_g0, oI_f1, oI_g1, oI_f2, oI_g2, oI_f3, oI_g3, oI_f4, oI_g4, oI_f5, oI_g5, oI_f6, oI_g6, oI_f7, oI_g7, oI_f8, oI_g8, oI_f9, oI_g9, oI_f10, oI_g10, oI_f11, oI_g11, oI_f12, oI_g12, oI_f13, oI_g13, oI_f14, oI_g14, oI_f15, oI_g15, oI_f16, oI_g16, oI_f17, oI_g17, oI_f18, oI_g18, oI_f19, oI_g19, oI_f20, oI_g20, oI_f21, oI_g21, oI_f22, oI_g22, oI_f23, oI_g23, oI_f24, oI_g24, oI_f25, oI_g25, ur_r, ur_o, ur_s, up_r, up_o, up_s, jI_add, jI_sub, jI_mul, jI_neg, jI_i, jI_n, lgc_j, cj_lt, cj_ge, cj_gt, cj_le, cj_eq, oL_r, oL_w, oL_f6, oL_g6, oL_f7, oL_g7, oL_f17, oL_g17, oL_f18, oL_g18, dl_T, dl_F, de_T, de_F, dle_T, dle_F, iI_divn, rem_n, nd_v, ct_s, Bool.false_eq_true]
theorem kc_4 (h : tc T R t) (v k : Int) : rn_c (d + 1) 29 [.ref t, .int (iI 4), .int (iI v), .int (iI k)] (T, oI J, L, R, z, w) = some (none, (T, oI (ur J t (up (J t) 2 v)), L, R, z, w)) := by
  have t0 : T t = (8, 0) := h.1
  simp (disch := first | omega | exact hJ _ _ | exact rJ_g hJ _ _ | (simp (disch := omega) only [ur_r, ur_o, up_r, up_o]; omega) | assumption) only [c29, s29_0, b29_1, s29_36, s29_36v, s29_37, s29_38, s29_39, s29_42, s29_45, s29_45v, s29_46, s29_47, s29_50, s29_53, s29_53v, s29_54, s29_55, s29_58, s29_61, s29_61v, s29_62, s29_63, s29_66, s29_69, s29_69v, s29_70, s29_71, s29_72, s29_75, t0, kl_i, kl_r, kl_l, kl_n, kl_z, bd_s, tl_s, tl_n, ap_c, ap_n, v_s, v_n, nd_1, nd_0, ct13, eq_self, iI_add, iI_sub, iI_mul, iI_nat, iI_eq, iI_lt, iI_le, iI_eq0, iI_lt0, ↓reduceIte, if_true, if_false, not_true_eq_false, not_false_eq_true, true_and, and_true, false_and, and_false, true_or, or_true, false_or, or_false, Int.reduceLT, Int.reduceLE, Int.reduceEq, Int.reduceAdd, Int.reduceSub, Int.reduceMul, Nat.reduceAdd, Nat.reduceLT, Nat.reduceEqDiff, Int.reduceNeg, nc_s, nc_0, Int.zero_add, Int.add_zero, oI_r, oI_w, oI_f0, oI_g0, oI_f1, oI_g1, oI_f2, oI_g2, oI_f3, oI_g3, oI_f4, oI_g4, oI_f5, oI_g5, oI_f6, oI_g6, oI_f7, oI_g7, oI_f8, oI_g8, oI_f9, oI_g9, oI_f10, oI_g10, oI_f11, oI_g11, oI_f12, oI_g12, oI_f13, oI_g13, oI_f14, oI_g14, oI_f15, oI_g15, oI_f16, oI_g16, oI_f17, oI_g17, oI_f18, oI_g18, oI_f19, oI_g19, oI_f20, oI_g20, oI_f21, oI_g21, oI_f22, oI_g22, oI_f23, oI_g23, oI_f24, oI_g24, oI_f25, oI_g25, ur_r, ur_o, ur_s, up_r, up_o, up_s, jI_add, jI_sub, jI_mul, jI_neg, jI_i, jI_n, lgc_j, cj_lt, cj_ge, cj_gt, cj_le, cj_eq, oL_r, oL_w, oL_f6, oL_g6, oL_f7, oL_g7, oL_f17, oL_g17, oL_f18, oL_g18, dl_T, dl_F, de_T, de_F, dle_T, dle_F, iI_divn, rem_n, nd_v, ct_s, Bool.false_eq_true]
/-- a clause without an E -/
theorem cl_plain (h : txK T R J t x n) (hk : tkR J t cs) (q v : Int) (e : Int) (hq : q = 1 ∨ q = 2 ∨ q = 4) (hv : 0 ≤ v ∧ v ≤ 99) : ∃ J' : mR, rn_c (d + 1) 29 [.ref t, .int (iI q), .int (iI v), .int (iI (J t 9))] (T, oI (pC J t e (J t 9) (J (t + 5))), L, R, z, w) = some (none, (T, oI J', L, R, z, w)) ∧ fT t J J' ∧ J' t 13 = e ∧ J' t 9 = J t 9 ∧ tkR J' t (cs ++ [(q, v, [])]) := by
  have hw : wfC (q, v, []) := ⟨by show 0 ≤ q ∧ q ≤ 4; omega, hv, fun hh => by rcases hh with hh | hh <;> (have hh : q = _ := hh; omega)⟩
  obtain ⟨g1, g2, g3, g4, g5, g6, g7, g8⟩ := id hk
  have key : ∀ (a : Int), (a = 0 ∧ q = 1 ∨ a = 1 ∧ q = 2 ∨ a = 2 ∧ q = 4) → ∀ J' : mR, J' = ur (pC J t e (J t 9) (J (t + 5))) t (up (pC J t e (J t 9) (J (t + 5)) t) a v) → fT t J J' ∧ J' t 13 = e ∧ J' t 9 = J t 9 ∧ tkR J' t (cs ++ [(q, v, [])]) := by
    intro a ha J' eJ
    have r0 : J' t = up (up (up (J t) 9 (J t 9)) 13 e) a v := by rw [eJ]; simp (disch := omega) only [pC, ur_o, ur_r]
    have r5 : J' (t + 5) = J (t + 5) := by rw [eJ]; simp (disch := omega) only [pC, ur_o, ur_r]
    have ro : ∀ b, ¬ b = t → J' b = J b := by
      intro b hb
      by_cases e5 : b = t + 5
      · rw [e5]; exact r5
      · rw [eJ]; simp (disch := omega) only [pC, ur_o]
    have rt : ∀ j, ¬ j = a → ¬ j = 13 → J' t j = J t j := by
      intro j h1 h2
      rw [r0, up_o h1, up_o h2, up_e]
    refine ⟨⟨fun b hb => ro b (by omega), rt 12 (by omega) (by omega)⟩, ?_, rt 9 (by omega) (by omega), ?_⟩
    · rw [r0, up_o (by omega), up_r]
    · refine tkR_a hk hw (fun j _ _ => by rw [ro _ (by omega)]) (fun j _ _ => by rw [ro _ (by omega), ro _ (by omega), ro _ (by omega)]; exact ⟨rfl, rfl, rfl⟩) ?_ (by rw [rt 7 (by omega) (by omega)]; omega) (fun h s _ _ _ _ => ?_) (fun j j0 j5 => by rw [ro _ (by omega)]; exact g5 j j0 j5) ?_ ?_ ?_
      · have n0 : ¬ q = 0 := by omega
        have n3 : ¬ q = 3 := by omega
        unfold loR
        simp only []
        rw [if_neg n0, if_neg n3]
        exact ⟨rt 7 (by omega) (by omega), rt 9 (by omega) (by omega)⟩
      · have n0 : ¬ q = 0 := by omega
        simp only []
        rw [if_neg n0, ro _ (by omega)]
      · simp only []
        by_cases c : q = 1
        · rw [if_pos c, r0, show a = 0 by omega, up_r]
        · rw [if_neg c]; exact rt 0 (by omega) (by omega)
      · simp only []
        by_cases c : q = 2
        · rw [if_pos c, r0, show a = 1 by omega, up_r]
        · rw [if_neg c]; exact rt 1 (by omega) (by omega)
      · simp only []
        by_cases c : q = 4
        · rw [if_pos c, r0, show a = 2 by omega, up_r]
        · rw [if_neg c]; exact rt 2 (by omega) (by omega)
  rcases hq with rfl | rfl | rfl
  · exact ⟨_, kc_1 h.1 v (J t 9), key 0 (by omega) _ rfl⟩
  · exact ⟨_, kc_2 h.1 v (J t 9), key 1 (by omega) _ rfl⟩
  · exact ⟨_, kc_4 h.1 v (J t 9), key 2 (by omega) _ rfl⟩
/-- rain -/
theorem cl_rain (h : txK T R J t x n) (hk : tkR J t cs) (v e : Int) (ts : List Int) (hv : 0 ≤ v ∧ v ≤ 99) (hts : vE ts 0 1) (hl : J t 9 + (ts.length : Int) ≤ 120) : ∃ J' : mR, rn_c (d + 4) 29 [.ref t, .int (iI 0), .int (iI v), .int (iI (J t 9))] (T, oI (pC J t e (J t 9 + (ts.length : Int)) (laV (J (t + 5)) (J t 9) (ts.map trC))), L, R, z, w) = some (none, (T, oI J', L, R, z, w)) ∧ fT t J J' ∧ J' t 13 = e ∧ J' t 9 = J t 9 + (ts.length : Int) ∧ tkR J' t (cs ++ [(0, v, ts)]) := by
  have hw : wfC (0, v, ts) := ⟨by show (0 : Int) ≤ 0 ∧ (0 : Int) ≤ 4; omega, hv, fun _ => hts⟩
  obtain ⟨g1, g2, g3, g4, g5, g6, g7, g8⟩ := id hk
  have lk := loR_k J t cs _ _ g3
  have t0 : T t = (8, 0) := h.1.1
  obtain ⟨K, hK⟩ : ∃ K, K = pC J t e (J t 9 + (ts.length : Int)) (laV (J (t + 5)) (J t 9) (ts.map trC)) := ⟨_, rfl⟩
  have k0 : K t = up (up (J t) 9 (J t 9 + (ts.length : Int))) 13 e := by rw [hK]; simp (disch := omega) only [pC, ur_o, ur_r]
  have k5 : K (t + 5) = laV (J (t + 5)) (J t 9) (ts.map trC) := by rw [hK]; simp (disch := omega) only [pC, ur_o, ur_r]
  have ko : ∀ b, ¬ b = t → ¬ b = t + 5 → K b = J b := by
    intro b hb hc
    rw [hK]; simp (disch := omega) only [pC, ur_o]
  have k9 : K t 9 = J t 9 + (ts.length : Int) := by rw [k0, up_o (by omega), up_r]
  have hVr : ∀ j, 0 ≤ j → j < 48 → 0 ≤ K (t + 1) j ∧ K (t + 1) j ≤ 10 := by
    intro j j0 j1
    rw [ko _ (by omega) (by omega)]
    have := g2 (j / 2) (j % 2) (by omega) (by omega) (by omega) (by omega)
    rw [show j / 2 * 2 + j % 2 = j by omega] at this
    rw [this, rain_C g1]
    have r0 := rnC_0 (knB (j % 2) (j / 2) 99 99 99) cs g1
    unfold mn10
    split <;> omega
  obtain ⟨F', V', r1, r2, r3⟩ := t_addRain (d := d) (J := K) (L := L) (z := z) (w := w) h.1 ts hts v hv (J t 9) k9 (by rw [k5]; exact seg_laV _ _ _) (by omega) hl (fun j j0 j5 => by rw [ko _ (by omega) (by omega)]; exact g5 j j0 j5) hVr
  rw [← hK]
  obtain ⟨J', eJ⟩ : ∃ J', J' = ur (ur K (t + 1) V') (t + 6) F' := ⟨_, rfl⟩
  have q0 : J' t = up (up (J t) 9 (J t 9 + (ts.length : Int))) 13 e := by rw [eJ, ur_o (by omega), ur_o (by omega), k0]
  have q1 : J' (t + 1) = V' := by rw [eJ, ur_o (by omega), ur_r]
  have q5 : J' (t + 5) = laV (J (t + 5)) (J t 9) (ts.map trC) := by rw [eJ, ur_o (by omega), ur_o (by omega), k5]
  have q6 : J' (t + 6) = F' := by rw [eJ, ur_r]
  have qo : ∀ b, ¬ b = t → ¬ b = t + 1 → ¬ b = t + 5 → ¬ b = t + 6 → J' b = J b := by
    intro b b0 b1 b5 b6
    rw [eJ, ur_o b6, ur_o b1, ko b b0 b5]
  have qt : ∀ j, ¬ j = 9 → ¬ j = 13 → J' t j = J t j := by intro j h1 h2; rw [q0, up_o h2, up_o h1]
  rw [← eJ] at r1
  refine ⟨J', ?_, ⟨fun b hb => qo b (by omega) (by omega) (by omega) (by omega), qt 12 (by omega) (by omega)⟩, by rw [q0, up_r], by rw [q0, up_o (by omega), up_r], ?_⟩
  · simp (disch := first | omega | exact hJ _ _ | exact rJ_g hJ _ _ | (simp (disch := omega) only [ur_r, ur_o, up_r, up_o]; omega) | assumption) only [s29_0, b29_1, s29_36, s29_36v, s29_37, s29_38, s29_39, s29_42, s29_75, c29, t0, r1, kl_i, kl_r, kl_l, kl_n, kl_z, bd_s, tl_s, tl_n, ap_c, ap_n, v_s, v_n, nd_1, nd_0, ct13, eq_self, iI_add, iI_sub, iI_mul, iI_nat, iI_eq, iI_lt, iI_le, iI_eq0, iI_lt0, ↓reduceIte, if_true, if_false, not_true_eq_false, not_false_eq_true, true_and, and_true, false_and, and_false, true_or, or_true, false_or, or_false, Int.reduceLT, Int.reduceLE, Int.reduceEq, Int.reduceAdd, Int.reduceSub, Int.reduceMul, Nat.reduceAdd, Nat.reduceLT, Nat.reduceEqDiff, Int.reduceNeg, nc_s, nc_0, Int.zero_add, Int.add_zero, oI_r, oI_w, oI_f0, oI_g0, oI_f1, oI_g1, oI_f2, oI_g2, oI_f3, oI_g3, oI_f4, oI_g4, oI_f5, oI_g5, oI_f6, oI_g6, oI_f7, oI_g7, oI_f8, oI_g8, oI_f9, oI_g9, oI_f10, oI_g10, oI_f11, oI_g11, oI_f12, oI_g12, oI_f13, oI_g13, oI_f14, oI_g14, oI_f15, oI_g15, oI_f16, oI_g16, oI_f17, oI_g17, oI_f18, oI_g18, oI_f19, oI_g19, oI_f20, oI_g20, oI_f21, oI_g21, oI_f22, oI_g22, oI_f23, oI_g23, oI_f24, oI_g24, oI_f25, oI_g25, ur_r, ur_o, ur_s, up_r, up_o, up_s, jI_add, jI_sub, jI_mul, jI_neg, jI_i, jI_n, lgc_j, cj_lt, cj_ge, cj_gt, cj_le, cj_eq, oL_r, oL_w, oL_f6, oL_g6, oL_f7, oL_g7, oL_f17, oL_g17, oL_f18, oL_g18, dl_T, dl_F, de_T, de_F, dle_T, dle_F, iI_divn, rem_n, nd_v, ct_s, Bool.false_eq_true]
  · refine tkR_a hk hw (fun j _ j1 => by rw [q5]; exact laV_o _ _ _ j j1) (fun j _ _ => by rw [qo _ (by omega) (by omega) (by omega) (by omega), qo _ (by omega) (by omega) (by omega) (by omega), qo _ (by omega) (by omega) (by omega) (by omega)]; exact ⟨rfl, rfl, rfl⟩) ?_ (by rw [qt 7 (by omega) (by omega)]; omega) (fun hh s a1 a2 a3 a4 => ?_) (fun j j0 j5 => by rw [q6]; exact r2 j j0 j5) (qt 0 (by omega) (by omega)) (qt 1 (by omega) (by omega)) (qt 2 (by omega) (by omega))
    · show seg (J' (t + 5)) (J t 9) (ts.map trC) ∧ J' t 7 = J t 7 ∧ J' t 9 = J t 9 + (ts.length : Int)
      refine ⟨by rw [q5]; exact seg_laV _ _ _, qt 7 (by omega) (by omega), by rw [q0, up_o (by omega), up_r]⟩
    · simp only [if_true]
      rw [q1, r3 (hh * 2 + s) (by omega) (by omega), show (hh * 2 + s) % 2 = s by omega, show (hh * 2 + s) / 2 = hh by omega, ko _ (by omega) (by omega)]
/-- lost -/
theorem cl_lost (h : txK T R J t x n) (hk : tkR J t cs) (hc : cs.length ≤ 9) (v e : Int) (ts : List Int) (hv : 0 ≤ v ∧ v ≤ 99) (hts : vE ts 0 1) : ∃ J' : mR, rn_c (d + 4) 29 [.ref t, .int (iI 3), .int (iI v), .int (iI (J t 9))] (T, oI (pC J t e (J t 9 + (ts.length : Int)) (laV (J (t + 5)) (J t 9) (ts.map trC))), L, R, z, w) = some (none, (T, oI J', L, R, z, w)) ∧ fT t J J' ∧ J' t 13 = e ∧ J' t 9 = J t 9 + (ts.length : Int) ∧ tkR J' t (cs ++ [(3, v, ts)]) := by
  have hw : wfC (3, v, ts) := ⟨by show (0 : Int) ≤ 3 ∧ (3 : Int) ≤ 4; omega, hv, fun _ => hts⟩
  obtain ⟨g1, g2, g3, g4, g5, g6, g7, g8⟩ := id hk
  have t0 : T t = (8, 0) := h.1.1
  obtain ⟨K, hK⟩ : ∃ K, K = pC J t e (J t 9 + (ts.length : Int)) (laV (J (t + 5)) (J t 9) (ts.map trC)) := ⟨_, rfl⟩
  have k0 : K t = up (up (J t) 9 (J t 9 + (ts.length : Int))) 13 e := by rw [hK]; simp (disch := omega) only [pC, ur_o, ur_r]
  have k5 : K (t + 5) = laV (J (t + 5)) (J t 9) (ts.map trC) := by rw [hK]; simp (disch := omega) only [pC, ur_o, ur_r]
  have ko : ∀ b, ¬ b = t → ¬ b = t + 5 → K b = J b := by
    intro b hb hc
    rw [hK]; simp (disch := omega) only [pC, ur_o]
  have k9 : K t 9 = J t 9 + (ts.length : Int) := by rw [k0, up_o (by omega), up_r]
  have k7 : K t 7 = J t 7 := by rw [k0, up_o (by omega), up_o (by omega)]
  have r1 := t_addLost (d := d + 3) (J := K) (L := L) (R := R) (z := z) (w := w) h.1 v (J t 9) (by rw [k7]; omega)
  rw [← hK]
  obtain ⟨J', eJ⟩ : ∃ J', J' = ur (ur (ur (ur K t (up (K t) 7 (K t 7 + 1))) (t + 2) (up (K (t + 2)) (K t 7) v)) (t + 3) (up (K (t + 3)) (K t 7) (J t 9))) (t + 4) (up (K (t + 4)) (K t 7) (K t 9)) := ⟨_, rfl⟩
  rw [← eJ] at r1
  have q0 : J' t = up (up (up (J t) 9 (J t 9 + (ts.length : Int))) 13 e) 7 (J t 7 + 1) := by rw [eJ, ur_o (by omega), ur_o (by omega), ur_o (by omega), ur_r, k0, k0.symm, k7]
  have q2 : J' (t + 2) = up (J (t + 2)) (J t 7) v := by rw [eJ, ur_o (by omega), ur_o (by omega), ur_r, k7, ko _ (by omega) (by omega)]
  have q3 : J' (t + 3) = up (J (t + 3)) (J t 7) (J t 9) := by rw [eJ, ur_o (by omega), ur_r, k7, ko _ (by omega) (by omega)]
  have q4 : J' (t + 4) = up (J (t + 4)) (J t 7) (J t 9 + (ts.length : Int)) := by rw [eJ, ur_r, k7, k9, ko _ (by omega) (by omega)]
  have q5 : J' (t + 5) = laV (J (t + 5)) (J t 9) (ts.map trC) := by rw [eJ, ur_o (by omega), ur_o (by omega), ur_o (by omega), ur_o (by omega), k5]
  have qo : ∀ b, ¬ b = t → ¬ b = t + 2 → ¬ b = t + 3 → ¬ b = t + 4 → ¬ b = t + 5 → J' b = J b := by
    intro b b0 b2 b3 b4 b5
    rw [eJ, ur_o b4, ur_o b3, ur_o b2, ur_o b0, ko b b0 b5]
  have qt : ∀ j, ¬ j = 9 → ¬ j = 13 → ¬ j = 7 → J' t j = J t j := by intro j h1 h2 h3; rw [q0, up_o h3, up_o h2, up_o h1]
  have q7 : J' t 7 = J t 7 + 1 := by rw [q0, up_r]
  have q9 : J' t 9 = J t 9 + (ts.length : Int) := by rw [q0, up_o (by omega), up_o (by omega), up_r]
  refine ⟨J', ?_, ⟨fun b hb => qo b (by omega) (by omega) (by omega) (by omega) (by omega), qt 12 (by omega) (by omega) (by omega)⟩, by rw [q0, up_o (by omega), up_r], q9, ?_⟩
  · simp (disch := first | omega | exact hJ _ _ | exact rJ_g hJ _ _ | (simp (disch := omega) only [ur_r, ur_o, up_r, up_o]; omega) | assumption) only [s29_0, b29_1, s29_69, s29_69v, s29_70, s29_71, s29_72, s29_75, c29, t0, r1, kl_i, kl_r, kl_l, kl_n, kl_z, bd_s, tl_s, tl_n, ap_c, ap_n, v_s, v_n, nd_1, nd_0, ct13, eq_self, iI_add, iI_sub, iI_mul, iI_nat, iI_eq, iI_lt, iI_le, iI_eq0, iI_lt0, ↓reduceIte, if_true, if_false, not_true_eq_false, not_false_eq_true, true_and, and_true, false_and, and_false, true_or, or_true, false_or, or_false, Int.reduceLT, Int.reduceLE, Int.reduceEq, Int.reduceAdd, Int.reduceSub, Int.reduceMul, Nat.reduceAdd, Nat.reduceLT, Nat.reduceEqDiff, Int.reduceNeg, nc_s, nc_0, Int.zero_add, Int.add_zero, oI_r, oI_w, oI_f0, oI_g0, oI_f1, oI_g1, oI_f2, oI_g2, oI_f3, oI_g3, oI_f4, oI_g4, oI_f5, oI_g5, oI_f6, oI_g6, oI_f7, oI_g7, oI_f8, oI_g8, oI_f9, oI_g9, oI_f10, oI_g10, oI_f11, oI_g11, oI_f12, oI_g12, oI_f13, oI_g13, oI_f14, oI_g14, oI_f15, oI_g15, oI_f16, oI_g16, oI_f17, oI_g17, oI_f18, oI_g18, oI_f19, oI_g19, oI_f20, oI_g20, oI_f21, oI_g21, oI_f22, oI_g22, oI_f23, oI_g23, oI_f24, oI_g24, oI_f25, oI_g25, ur_r, ur_o, ur_s, up_r, up_o, up_s, jI_add, jI_sub, jI_mul, jI_neg, jI_i, jI_n, lgc_j, cj_lt, cj_ge, cj_gt, cj_le, cj_eq, oL_r, oL_w, oL_f6, oL_g6, oL_f7, oL_g7, oL_f17, oL_g17, oL_f18, oL_g18, dl_T, dl_F, de_T, de_F, dle_T, dle_F, iI_divn, rem_n, nd_v, ct_s, Bool.false_eq_true]
  · refine tkR_a hk hw (fun j _ j1 => by rw [q5]; exact laV_o _ _ _ j j1) (fun j _ j1 => by rw [q2, q3, q4, up_o (by omega), up_o (by omega), up_o (by omega)]; exact ⟨rfl, rfl, rfl⟩) ?_ (by rw [q7]; omega) (fun hh s a1 a2 a3 a4 => ?_) (fun j j0 j5 => by rw [qo _ (by omega) (by omega) (by omega) (by omega) (by omega)]; exact g5 j j0 j5) (qt 0 (by omega) (by omega) (by omega)) (qt 1 (by omega) (by omega) (by omega)) (qt 2 (by omega) (by omega) (by omega))
    · show seg (J' (t + 5)) (J t 9) (ts.map trC) ∧ J' (t + 2) (J t 7) = v ∧ J' (t + 3) (J t 7) = J t 9 ∧ J' (t + 4) (J t 7) = J t 9 + (ts.length : Int) ∧ J' t 7 = J t 7 + 1 ∧ J' t 9 = J t 9 + (ts.length : Int)
      refine ⟨by rw [q5]; exact seg_laV _ _ _, by rw [q2, up_r], by rw [q3, up_r], by rw [q4, up_r], q7, q9⟩
    · rw [qo _ (by omega) (by omega) (by omega) (by omega) (by omega)]
      rfl
theorem cw_m {o : Option (List Int)} {g : List Int → CL} {j : Int} : cw (j, o.map g) = bw (j, o) := by cases o <;> rfl
theorem t_clause (h : txK T R J t x n) (hs : sK T J) (hk : tkR J t cs) (hc : cs.length ≤ 9) (h13 : J t 13 = i) (hi : 0 ≤ i ∧ i ≤ n) (h9 : J t 9 ≤ i) : ∃ J' : mR, rn_c (d + 24) 28 [.ref t] (T, oI J, L, R, z, w) = some (some (.int (iI (1 - cw (clP x n i)))), (T, oI J', L, R, z, w)) ∧ fT t J J' ∧ J' t 13 = (clP x n i).1 ∧ ∀ c, (clP x n i).2 = some c → tkR J' t (cs ++ [c]) ∧ J' t 9 ≤ (clP x n i).1 := by
  have hn := h.2.2.2.1
  have t0 := h.t0
  have h90 := (loR_k J t cs _ _ hk.2.2.1).2
  have eJ := pC_e h13
  have wo := t_word (d := d + 17) (L := L) (z := z) (w := w) (i := i) (V := J (t + 5)) h hs (by omega) (J t 9)
  have p13 : ∀ e k V, pC J t e k V t 13 = e := by
    intro e k V
    show ur (ur J t _) (t + 5) _ t 13 = _
    simp (disch := omega) only [ur_o, ur_r, up_r]
  have p9 : ∀ e k V, pC J t e k V t 9 = k := by
    intro e k V
    show ur (ur J t _) (t + 5) _ t 9 = _
    simp (disch := omega) only [ur_o, ur_r, up_r, up_o]
  rw [eJ] at wo
  rcases rw_cl (x := x) (n := n) i with ⟨e1, e2⟩ | ⟨⟨b1, b2, b3, b4⟩, e1, e2⟩
  · rw [e2]
    rw [e1] at wo
    refine ⟨_, ?_, fT_p, p13 (rwR x n i).1 (J t 9) (J (t + 5)), fun c q => by cases q⟩
    · simp only [cw_n]
      simp (disch := first | omega | exact hJ _ _ | exact rJ_g hJ _ _ | (simp (disch := omega) only [ur_r, ur_o, up_r, up_o]; omega) | assumption) only [c28, s28_0, s28_0v, s28_1, s28_4, s28_5, s28_6, b28_7, s28_10, s28_10v, s28_11, s28_13, b28_16, s28_19, s28_20, t0, wo, kl_i, kl_r, kl_l, kl_n, kl_z, bd_s, tl_s, tl_n, ap_c, ap_n, v_s, v_n, nd_1, nd_0, ct13, eq_self, iI_add, iI_sub, iI_mul, iI_nat, iI_eq, iI_lt, iI_le, iI_eq0, iI_lt0, ↓reduceIte, if_true, if_false, not_true_eq_false, not_false_eq_true, true_and, and_true, false_and, and_false, true_or, or_true, false_or, or_false, Int.reduceLT, Int.reduceLE, Int.reduceEq, Int.reduceAdd, Int.reduceSub, Int.reduceMul, Nat.reduceAdd, Nat.reduceLT, Nat.reduceEqDiff, Int.reduceNeg, nc_s, nc_0, Int.zero_add, Int.add_zero, oI_r, oI_w, oI_f0, oI_g0, oI_f1, oI_g1, oI_f2, oI_g2, oI_f3, oI_g3, oI_f4, oI_g4, oI_f5, oI_g5, oI_f6, oI_g6, oI_f7, oI_g7, oI_f8, oI_g8, oI_f9, oI_g9, oI_f10, oI_g10, oI_f11, oI_g11, oI_f12, oI_g12, oI_f13, oI_g13, oI_f14, oI_g14, oI_f15, oI_g15, oI_f16, oI_g16, oI_f17, oI_g17, oI_f18, oI_g18, oI_f19, oI_g19, oI_f20, oI_g20, oI_f21, oI_g21, oI_f22, oI_g22, oI_f23, oI_g23, oI_f24, oI_g24, oI_f25, oI_g25, ur_r, ur_o, ur_s, up_r, up_o, up_s, jI_add, jI_sub, jI_mul, jI_neg, jI_i, jI_n, lgc_j, cj_lt, cj_ge, cj_gt, cj_le, cj_eq, oL_r, oL_w, oL_f6, oL_g6, oL_f7, oL_g7, oL_f17, oL_g17, oL_f18, oL_g18, dl_T, dl_F, de_T, de_F, dle_T, dle_F, iI_divn, rem_n, nd_v, ct_s, Bool.false_eq_true]
  generalize rwR x n i = r at *
  obtain ⟨j, q⟩ := r
  simp only [] at b1 b2 b3 b4 e1 e2 wo
  have sk := t_skip (d := d + 22) (L := L) (z := z) (w := w) (k := J t 9) (V := J (t + 5)) h 32 (by omega) (i := j) (by omega)
  by_cases c1 : atP x n j = 32
  case neg =>
    rw [e1 c1]
    rw [if_neg c1, if_neg c1] at sk
    refine ⟨_, ?_, fT_p, p13 j (J t 9) (J (t + 5)), fun c q => by cases q⟩
    simp only [cw_n]
    simp (disch := first | omega | exact hJ _ _ | exact rJ_g hJ _ _ | (simp (disch := omega) only [ur_r, ur_o, up_r, up_o]; omega) | assumption) only [c28, s28_0, s28_0v, s28_1, s28_4, s28_5, s28_6, b28_7, s28_10, s28_10v, s28_11, s28_13, b28_16, s28_19, s28_20, t0, wo, sk, kl_i, kl_r, kl_l, kl_n, kl_z, bd_s, tl_s, tl_n, ap_c, ap_n, v_s, v_n, nd_1, nd_0, ct13, eq_self, iI_add, iI_sub, iI_mul, iI_nat, iI_eq, iI_lt, iI_le, iI_eq0, iI_lt0, ↓reduceIte, if_true, if_false, not_true_eq_false, not_false_eq_true, true_and, and_true, false_and, and_false, true_or, or_true, false_or, or_false, Int.reduceLT, Int.reduceLE, Int.reduceEq, Int.reduceAdd, Int.reduceSub, Int.reduceMul, Nat.reduceAdd, Nat.reduceLT, Nat.reduceEqDiff, Int.reduceNeg, nc_s, nc_0, Int.zero_add, Int.add_zero, oI_r, oI_w, oI_f0, oI_g0, oI_f1, oI_g1, oI_f2, oI_g2, oI_f3, oI_g3, oI_f4, oI_g4, oI_f5, oI_g5, oI_f6, oI_g6, oI_f7, oI_g7, oI_f8, oI_g8, oI_f9, oI_g9, oI_f10, oI_g10, oI_f11, oI_g11, oI_f12, oI_g12, oI_f13, oI_g13, oI_f14, oI_g14, oI_f15, oI_g15, oI_f16, oI_g16, oI_f17, oI_g17, oI_f18, oI_g18, oI_f19, oI_g19, oI_f20, oI_g20, oI_f21, oI_g21, oI_f22, oI_g22, oI_f23, oI_g23, oI_f24, oI_g24, oI_f25, oI_g25, ur_r, ur_o, ur_s, up_r, up_o, up_s, jI_add, jI_sub, jI_mul, jI_neg, jI_i, jI_n, lgc_j, cj_lt, cj_ge, cj_gt, cj_le, cj_eq, oL_r, oL_w, oL_f6, oL_g6, oL_f7, oL_g7, oL_f17, oL_g17, oL_f18, oL_g18, dl_T, dl_F, de_T, de_F, dle_T, dle_F, iI_divn, rem_n, nd_v, ct_s, Bool.false_eq_true]
  rw [e2 c1]
  rw [if_pos c1, if_pos c1] at sk
  have hjn := atP_n c1 (by decide)
  have nu := t_number (d := d + 22) (L := L) (z := z) (w := w) (k := J t 9) (V := J (t + 5)) h (i := j + 1) (by omega)
  obtain ⟨u1, u2, u3, u4, u5, u6⟩ := nuP_r (t := x) (n := n) (i := j + 1)
  unfold clK
  generalize nuP x n (j + 1) = u at *
  obtain ⟨p, v⟩ := u
  simp only [] at u1 u2 u3 u4 u5 u6 nu ⊢
  by_cases c2 : v = -1
  · rw [if_pos c2]
    have ep := u6 c2
    rw [c2, ep] at nu
    refine ⟨_, ?_, fT_p, p13 (j + 1) (J t 9) (J (t + 5)), fun c q => by cases q⟩
    simp only [cw_n]
    simp (disch := first | omega | exact hJ _ _ | exact rJ_g hJ _ _ | (simp (disch := omega) only [ur_r, ur_o, up_r, up_o]; omega) | assumption) only [c28, s28_0, s28_0v, s28_1, s28_4, s28_5, s28_6, b28_7, s28_10, s28_10v, s28_11, s28_13, b28_16, s28_19, s28_20, s28_21, s28_21v, s28_22, s28_25, s28_26, s28_27, b28_28, s28_31, s28_32, t0, wo, sk, nu, kl_i, kl_r, kl_l, kl_n, kl_z, bd_s, tl_s, tl_n, ap_c, ap_n, v_s, v_n, nd_1, nd_0, ct13, eq_self, iI_add, iI_sub, iI_mul, iI_nat, iI_eq, iI_lt, iI_le, iI_eq0, iI_lt0, ↓reduceIte, if_true, if_false, not_true_eq_false, not_false_eq_true, true_and, and_true, false_and, and_false, true_or, or_true, false_or, or_false, Int.reduceLT, Int.reduceLE, Int.reduceEq, Int.reduceAdd, Int.reduceSub, Int.reduceMul, Nat.reduceAdd, Nat.reduceLT, Nat.reduceEqDiff, Int.reduceNeg, nc_s, nc_0, Int.zero_add, Int.add_zero, oI_r, oI_w, oI_f0, oI_g0, oI_f1, oI_g1, oI_f2, oI_g2, oI_f3, oI_g3, oI_f4, oI_g4, oI_f5, oI_g5, oI_f6, oI_g6, oI_f7, oI_g7, oI_f8, oI_g8, oI_f9, oI_g9, oI_f10, oI_g10, oI_f11, oI_g11, oI_f12, oI_g12, oI_f13, oI_g13, oI_f14, oI_g14, oI_f15, oI_g15, oI_f16, oI_g16, oI_f17, oI_g17, oI_f18, oI_g18, oI_f19, oI_g19, oI_f20, oI_g20, oI_f21, oI_g21, oI_f22, oI_g22, oI_f23, oI_g23, oI_f24, oI_g24, oI_f25, oI_g25, ur_r, ur_o, ur_s, up_r, up_o, up_s, jI_add, jI_sub, jI_mul, jI_neg, jI_i, jI_n, lgc_j, cj_lt, cj_ge, cj_gt, cj_le, cj_eq, oL_r, oL_w, oL_f6, oL_g6, oL_f7, oL_g7, oL_f17, oL_g17, oL_f18, oL_g18, dl_T, dl_F, de_T, de_F, dle_T, dle_F, iI_divn, rem_n, nd_v, ct_s, Bool.false_eq_true]
  rw [if_neg c2]
  have hp := u5 (by omega)
  by_cases c3 : q = 0 ∨ q = 3
  · rw [if_pos c3]
    have sk2 := t_skip (d := d + 22) (L := L) (z := z) (w := w) (k := J t 9) (V := J (t + 5)) h 32 (by omega) (i := p) (by omega)
    by_cases c4 : atP x n p = 32
    · rw [if_pos c4]
      rw [if_pos c4, if_pos c4] at sk2
      have hpn := atP_n c4 (by decide)
      obtain ⟨k1, V1, hrun1, r1⟩ := t_E (d := d) (L := L) (z := z) (w := w) h hs (p + 1) (J t 9) (J (t + 5)) (by omega) (by omega) (by omega) (by omega)
      obtain ⟨s1, s2, s3⟩ := soP_g (faP_g x n 5) (p + 1) (by omega) (by omega)
      have hvv := fun ts => soP_v (x := x) (n := n) (i := p + 1) (ts := ts)
      generalize soP x n (faP x n 5) (p + 1) = r at *
      obtain ⟨e, ots⟩ := r
      cases ots with
      | none =>
        simp only [Option.map_none, cw_n, bw_n] at hrun1 ⊢
        refine ⟨_, ?_, fT_p, p13 e k1 V1, fun c q => by cases q⟩
        rcases c3 with rfl | rfl
        · simp (disch := first | omega | exact hJ _ _ | exact rJ_g hJ _ _ | (simp (disch := omega) only [ur_r, ur_o, up_r, up_o]; omega) | assumption) only [c28, s28_0, s28_0v, s28_1, s28_4, s28_5, s28_6, b28_7, s28_10, s28_10v, s28_11, s28_13, b28_16, s28_19, s28_20, s28_21, s28_21v, s28_22, s28_25, s28_26, s28_27, b28_28, s28_31, s28_32, s28_33, s28_33v, s28_34, s28_37, s28_38, b28_39, s28_42, s28_43, b28_44, s28_47, s28_47v, s28_48, s28_50, b28_53, s28_56, s28_56v, s28_57, s28_58, b28_61, s28_64, s28_65, s28_66, s28_66v, s28_67, s28_68, s28_69, s28_70, s28_73, s28_74, t0, wo, sk, nu, sk2, hrun1, kl_i, kl_r, kl_l, kl_n, kl_z, bd_s, tl_s, tl_n, ap_c, ap_n, v_s, v_n, nd_1, nd_0, ct13, eq_self, iI_add, iI_sub, iI_mul, iI_nat, iI_eq, iI_lt, iI_le, iI_eq0, iI_lt0, ↓reduceIte, if_true, if_false, not_true_eq_false, not_false_eq_true, true_and, and_true, false_and, and_false, true_or, or_true, false_or, or_false, Int.reduceLT, Int.reduceLE, Int.reduceEq, Int.reduceAdd, Int.reduceSub, Int.reduceMul, Nat.reduceAdd, Nat.reduceLT, Nat.reduceEqDiff, Int.reduceNeg, nc_s, nc_0, Int.zero_add, Int.add_zero, oI_r, oI_w, oI_f0, oI_g0, oI_f1, oI_g1, oI_f2, oI_g2, oI_f3, oI_g3, oI_f4, oI_g4, oI_f5, oI_g5, oI_f6, oI_g6, oI_f7, oI_g7, oI_f8, oI_g8, oI_f9, oI_g9, oI_f10, oI_g10, oI_f11, oI_g11, oI_f12, oI_g12, oI_f13, oI_g13, oI_f14, oI_g14, oI_f15, oI_g15, oI_f16, oI_g16, oI_f17, oI_g17, oI_f18, oI_g18, oI_f19, oI_g19, oI_f20, oI_g20, oI_f21, oI_g21, oI_f22, oI_g22, oI_f23, oI_g23, oI_f24, oI_g24, oI_f25, oI_g25, ur_r, ur_o, ur_s, up_r, up_o, up_s, jI_add, jI_sub, jI_mul, jI_neg, jI_i, jI_n, lgc_j, cj_lt, cj_ge, cj_gt, cj_le, cj_eq, oL_r, oL_w, oL_f6, oL_g6, oL_f7, oL_g7, oL_f17, oL_g17, oL_f18, oL_g18, dl_T, dl_F, de_T, de_F, dle_T, dle_F, iI_divn, rem_n, nd_v, ct_s, Bool.false_eq_true]
        · simp (disch := first | omega | exact hJ _ _ | exact rJ_g hJ _ _ | (simp (disch := omega) only [ur_r, ur_o, up_r, up_o]; omega) | assumption) only [c28, s28_0, s28_0v, s28_1, s28_4, s28_5, s28_6, b28_7, s28_10, s28_10v, s28_11, s28_13, b28_16, s28_19, s28_20, s28_21, s28_21v, s28_22, s28_25, s28_26, s28_27, b28_28, s28_31, s28_32, s28_33, s28_33v, s28_34, s28_37, s28_38, b28_39, s28_42, s28_43, b28_44, s28_47, s28_47v, s28_48, s28_50, b28_53, s28_56, s28_56v, s28_57, s28_58, b28_61, s28_64, s28_65, s28_66, s28_66v, s28_67, s28_68, s28_69, s28_70, s28_73, s28_74, t0, wo, sk, nu, sk2, hrun1, kl_i, kl_r, kl_l, kl_n, kl_z, bd_s, tl_s, tl_n, ap_c, ap_n, v_s, v_n, nd_1, nd_0, ct13, eq_self, iI_add, iI_sub, iI_mul, iI_nat, iI_eq, iI_lt, iI_le, iI_eq0, iI_lt0, ↓reduceIte, if_true, if_false, not_true_eq_false, not_false_eq_true, true_and, and_true, false_and, and_false, true_or, or_true, false_or, or_false, Int.reduceLT, Int.reduceLE, Int.reduceEq, Int.reduceAdd, Int.reduceSub, Int.reduceMul, Nat.reduceAdd, Nat.reduceLT, Nat.reduceEqDiff, Int.reduceNeg, nc_s, nc_0, Int.zero_add, Int.add_zero, oI_r, oI_w, oI_f0, oI_g0, oI_f1, oI_g1, oI_f2, oI_g2, oI_f3, oI_g3, oI_f4, oI_g4, oI_f5, oI_g5, oI_f6, oI_g6, oI_f7, oI_g7, oI_f8, oI_g8, oI_f9, oI_g9, oI_f10, oI_g10, oI_f11, oI_g11, oI_f12, oI_g12, oI_f13, oI_g13, oI_f14, oI_g14, oI_f15, oI_g15, oI_f16, oI_g16, oI_f17, oI_g17, oI_f18, oI_g18, oI_f19, oI_g19, oI_f20, oI_g20, oI_f21, oI_g21, oI_f22, oI_g22, oI_f23, oI_g23, oI_f24, oI_g24, oI_f25, oI_g25, ur_r, ur_o, ur_s, up_r, up_o, up_s, jI_add, jI_sub, jI_mul, jI_neg, jI_i, jI_n, lgc_j, cj_lt, cj_ge, cj_gt, cj_le, cj_eq, oL_r, oL_w, oL_f6, oL_g6, oL_f7, oL_g7, oL_f17, oL_g17, oL_f18, oL_g18, dl_T, dl_F, de_T, de_F, dle_T, dle_F, iI_divn, rem_n, nd_v, ct_s, Bool.false_eq_true]
      | some ts =>
        obtain ⟨rfl, rfl⟩ := r1 ts rfl
        have hl := s3 ts rfl
        simp only [] at hl s1 s2
        simp only [Option.map_some, cw_s, bw_s] at hrun1 ⊢
        rcases c3 with rfl | rfl
        · obtain ⟨J', a1, a2, a3, a4, a5⟩ := cl_rain (d := d + 19) (L := L) (z := z) (w := w) h hk v e ts (by omega) (hvv ts rfl) (by omega)
          refine ⟨J', ?_, a2, a3, fun c q => ?_⟩
          · simp (disch := first | omega | exact hJ _ _ | exact rJ_g hJ _ _ | (simp (disch := omega) only [ur_r, ur_o, up_r, up_o]; omega) | assumption) only [c28, s28_0, s28_0v, s28_1, s28_4, s28_5, s28_6, b28_7, s28_10, s28_10v, s28_11, s28_13, b28_16, s28_19, s28_20, s28_21, s28_21v, s28_22, s28_25, s28_26, s28_27, b28_28, s28_31, s28_32, s28_33, s28_33v, s28_34, s28_37, s28_38, b28_39, s28_42, s28_43, b28_44, s28_47, s28_47v, s28_48, s28_50, b28_53, s28_56, s28_56v, s28_57, s28_58, b28_61, s28_64, s28_65, s28_66, s28_66v, s28_67, s28_68, s28_69, s28_70, s28_73, s28_74, t0, wo, sk, nu, sk2, hrun1, a1, p9, kl_i, kl_r, kl_l, kl_n, kl_z, bd_s, tl_s, tl_n, ap_c, ap_n, v_s, v_n, nd_1, nd_0, ct13, eq_self, iI_add, iI_sub, iI_mul, iI_nat, iI_eq, iI_lt, iI_le, iI_eq0, iI_lt0, ↓reduceIte, if_true, if_false, not_true_eq_false, not_false_eq_true, true_and, and_true, false_and, and_false, true_or, or_true, false_or, or_false, Int.reduceLT, Int.reduceLE, Int.reduceEq, Int.reduceAdd, Int.reduceSub, Int.reduceMul, Nat.reduceAdd, Nat.reduceLT, Nat.reduceEqDiff, Int.reduceNeg, nc_s, nc_0, Int.zero_add, Int.add_zero, oI_r, oI_w, oI_f0, oI_g0, oI_f1, oI_g1, oI_f2, oI_g2, oI_f3, oI_g3, oI_f4, oI_g4, oI_f5, oI_g5, oI_f6, oI_g6, oI_f7, oI_g7, oI_f8, oI_g8, oI_f9, oI_g9, oI_f10, oI_g10, oI_f11, oI_g11, oI_f12, oI_g12, oI_f13, oI_g13, oI_f14, oI_g14, oI_f15, oI_g15, oI_f16, oI_g16, oI_f17, oI_g17, oI_f18, oI_g18, oI_f19, oI_g19, oI_f20, oI_g20, oI_f21, oI_g21, oI_f22, oI_g22, oI_f23, oI_g23, oI_f24, oI_g24, oI_f25, oI_g25, ur_r, ur_o, ur_s, up_r, up_o, up_s, jI_add, jI_sub, jI_mul, jI_neg, jI_i, jI_n, lgc_j, cj_lt, cj_ge, cj_gt, cj_le, cj_eq, oL_r, oL_w, oL_f6, oL_g6, oL_f7, oL_g7, oL_f17, oL_g17, oL_f18, oL_g18, dl_T, dl_F, de_T, de_F, dle_T, dle_F, iI_divn, rem_n, nd_v, ct_s, Bool.false_eq_true]
          · cases q; exact ⟨a5, by omega⟩
        · obtain ⟨J', a1, a2, a3, a4, a5⟩ := cl_lost (d := d + 19) (L := L) (R := R) (z := z) (w := w) h hk hc v e ts (by omega) (hvv ts rfl)
          refine ⟨J', ?_, a2, a3, fun c q => ?_⟩
          · simp (disch := first | omega | exact hJ _ _ | exact rJ_g hJ _ _ | (simp (disch := omega) only [ur_r, ur_o, up_r, up_o]; omega) | assumption) only [c28, s28_0, s28_0v, s28_1, s28_4, s28_5, s28_6, b28_7, s28_10, s28_10v, s28_11, s28_13, b28_16, s28_19, s28_20, s28_21, s28_21v, s28_22, s28_25, s28_26, s28_27, b28_28, s28_31, s28_32, s28_33, s28_33v, s28_34, s28_37, s28_38, b28_39, s28_42, s28_43, b28_44, s28_47, s28_47v, s28_48, s28_50, b28_53, s28_56, s28_56v, s28_57, s28_58, b28_61, s28_64, s28_65, s28_66, s28_66v, s28_67, s28_68, s28_69, s28_70, s28_73, s28_74, t0, wo, sk, nu, sk2, hrun1, a1, p9, kl_i, kl_r, kl_l, kl_n, kl_z, bd_s, tl_s, tl_n, ap_c, ap_n, v_s, v_n, nd_1, nd_0, ct13, eq_self, iI_add, iI_sub, iI_mul, iI_nat, iI_eq, iI_lt, iI_le, iI_eq0, iI_lt0, ↓reduceIte, if_true, if_false, not_true_eq_false, not_false_eq_true, true_and, and_true, false_and, and_false, true_or, or_true, false_or, or_false, Int.reduceLT, Int.reduceLE, Int.reduceEq, Int.reduceAdd, Int.reduceSub, Int.reduceMul, Nat.reduceAdd, Nat.reduceLT, Nat.reduceEqDiff, Int.reduceNeg, nc_s, nc_0, Int.zero_add, Int.add_zero, oI_r, oI_w, oI_f0, oI_g0, oI_f1, oI_g1, oI_f2, oI_g2, oI_f3, oI_g3, oI_f4, oI_g4, oI_f5, oI_g5, oI_f6, oI_g6, oI_f7, oI_g7, oI_f8, oI_g8, oI_f9, oI_g9, oI_f10, oI_g10, oI_f11, oI_g11, oI_f12, oI_g12, oI_f13, oI_g13, oI_f14, oI_g14, oI_f15, oI_g15, oI_f16, oI_g16, oI_f17, oI_g17, oI_f18, oI_g18, oI_f19, oI_g19, oI_f20, oI_g20, oI_f21, oI_g21, oI_f22, oI_g22, oI_f23, oI_g23, oI_f24, oI_g24, oI_f25, oI_g25, ur_r, ur_o, ur_s, up_r, up_o, up_s, jI_add, jI_sub, jI_mul, jI_neg, jI_i, jI_n, lgc_j, cj_lt, cj_ge, cj_gt, cj_le, cj_eq, oL_r, oL_w, oL_f6, oL_g6, oL_f7, oL_g7, oL_f17, oL_g17, oL_f18, oL_g18, dl_T, dl_F, de_T, de_F, dle_T, dle_F, iI_divn, rem_n, nd_v, ct_s, Bool.false_eq_true]
          · cases q; exact ⟨a5, by omega⟩
    · rw [if_neg c4]
      rw [if_neg c4, if_neg c4] at sk2
      refine ⟨_, ?_, fT_p, p13 p (J t 9) (J (t + 5)), fun c q => by cases q⟩
      simp only [cw_n]
      rcases c3 with rfl | rfl
      · simp (disch := first | omega | exact hJ _ _ | exact rJ_g hJ _ _ | (simp (disch := omega) only [ur_r, ur_o, up_r, up_o]; omega) | assumption) only [c28, s28_0, s28_0v, s28_1, s28_4, s28_5, s28_6, b28_7, s28_10, s28_10v, s28_11, s28_13, b28_16, s28_19, s28_20, s28_21, s28_21v, s28_22, s28_25, s28_26, s28_27, b28_28, s28_31, s28_32, s28_33, s28_33v, s28_34, s28_37, s28_38, b28_39, s28_42, s28_43, b28_44, s28_47, s28_47v, s28_48, s28_50, b28_53, s28_56, s28_56v, s28_57, s28_58, b28_61, s28_64, s28_65, s28_66, s28_66v, s28_67, s28_68, s28_69, s28_70, s28_73, s28_74, t0, wo, sk, nu, sk2, kl_i, kl_r, kl_l, kl_n, kl_z, bd_s, tl_s, tl_n, ap_c, ap_n, v_s, v_n, nd_1, nd_0, ct13, eq_self, iI_add, iI_sub, iI_mul, iI_nat, iI_eq, iI_lt, iI_le, iI_eq0, iI_lt0, ↓reduceIte, if_true, if_false, not_true_eq_false, not_false_eq_true, true_and, and_true, false_and, and_false, true_or, or_true, false_or, or_false, Int.reduceLT, Int.reduceLE, Int.reduceEq, Int.reduceAdd, Int.reduceSub, Int.reduceMul, Nat.reduceAdd, Nat.reduceLT, Nat.reduceEqDiff, Int.reduceNeg, nc_s, nc_0, Int.zero_add, Int.add_zero, oI_r, oI_w, oI_f0, oI_g0, oI_f1, oI_g1, oI_f2, oI_g2, oI_f3, oI_g3, oI_f4, oI_g4, oI_f5, oI_g5, oI_f6, oI_g6, oI_f7, oI_g7, oI_f8, oI_g8, oI_f9, oI_g9, oI_f10, oI_g10, oI_f11, oI_g11, oI_f12, oI_g12, oI_f13, oI_g13, oI_f14, oI_g14, oI_f15, oI_g15, oI_f16, oI_g16, oI_f17, oI_g17, oI_f18, oI_g18, oI_f19, oI_g19, oI_f20, oI_g20, oI_f21, oI_g21, oI_f22, oI_g22, oI_f23, oI_g23, oI_f24, oI_g24, oI_f25, oI_g25, ur_r, ur_o, ur_s, up_r, up_o, up_s, jI_add, jI_sub, jI_mul, jI_neg, jI_i, jI_n, lgc_j, cj_lt, cj_ge, cj_gt, cj_le, cj_eq, oL_r, oL_w, oL_f6, oL_g6, oL_f7, oL_g7, oL_f17, oL_g17, oL_f18, oL_g18, dl_T, dl_F, de_T, de_F, dle_T, dle_F, iI_divn, rem_n, nd_v, ct_s, Bool.false_eq_true]
      · simp (disch := first | omega | exact hJ _ _ | exact rJ_g hJ _ _ | (simp (disch := omega) only [ur_r, ur_o, up_r, up_o]; omega) | assumption) only [c28, s28_0, s28_0v, s28_1, s28_4, s28_5, s28_6, b28_7, s28_10, s28_10v, s28_11, s28_13, b28_16, s28_19, s28_20, s28_21, s28_21v, s28_22, s28_25, s28_26, s28_27, b28_28, s28_31, s28_32, s28_33, s28_33v, s28_34, s28_37, s28_38, b28_39, s28_42, s28_43, b28_44, s28_47, s28_47v, s28_48, s28_50, b28_53, s28_56, s28_56v, s28_57, s28_58, b28_61, s28_64, s28_65, s28_66, s28_66v, s28_67, s28_68, s28_69, s28_70, s28_73, s28_74, t0, wo, sk, nu, sk2, kl_i, kl_r, kl_l, kl_n, kl_z, bd_s, tl_s, tl_n, ap_c, ap_n, v_s, v_n, nd_1, nd_0, ct13, eq_self, iI_add, iI_sub, iI_mul, iI_nat, iI_eq, iI_lt, iI_le, iI_eq0, iI_lt0, ↓reduceIte, if_true, if_false, not_true_eq_false, not_false_eq_true, true_and, and_true, false_and, and_false, true_or, or_true, false_or, or_false, Int.reduceLT, Int.reduceLE, Int.reduceEq, Int.reduceAdd, Int.reduceSub, Int.reduceMul, Nat.reduceAdd, Nat.reduceLT, Nat.reduceEqDiff, Int.reduceNeg, nc_s, nc_0, Int.zero_add, Int.add_zero, oI_r, oI_w, oI_f0, oI_g0, oI_f1, oI_g1, oI_f2, oI_g2, oI_f3, oI_g3, oI_f4, oI_g4, oI_f5, oI_g5, oI_f6, oI_g6, oI_f7, oI_g7, oI_f8, oI_g8, oI_f9, oI_g9, oI_f10, oI_g10, oI_f11, oI_g11, oI_f12, oI_g12, oI_f13, oI_g13, oI_f14, oI_g14, oI_f15, oI_g15, oI_f16, oI_g16, oI_f17, oI_g17, oI_f18, oI_g18, oI_f19, oI_g19, oI_f20, oI_g20, oI_f21, oI_g21, oI_f22, oI_g22, oI_f23, oI_g23, oI_f24, oI_g24, oI_f25, oI_g25, ur_r, ur_o, ur_s, up_r, up_o, up_s, jI_add, jI_sub, jI_mul, jI_neg, jI_i, jI_n, lgc_j, cj_lt, cj_ge, cj_gt, cj_le, cj_eq, oL_r, oL_w, oL_f6, oL_g6, oL_f7, oL_g7, oL_f17, oL_g17, oL_f18, oL_g18, dl_T, dl_F, de_T, de_F, dle_T, dle_F, iI_divn, rem_n, nd_v, ct_s, Bool.false_eq_true]
  · rw [if_neg c3]
    obtain ⟨J', a1, a2, a3, a4, a5⟩ := cl_plain (d := d + 22) (L := L) (z := z) (w := w) h hk q v p (by omega) (by omega)
    refine ⟨J', ?_, a2, a3, fun c q => ?_⟩
    · simp only [cw_s]
      simp (disch := first | omega | exact hJ _ _ | exact rJ_g hJ _ _ | (simp (disch := omega) only [ur_r, ur_o, up_r, up_o]; omega) | assumption) only [c28, s28_0, s28_0v, s28_1, s28_4, s28_5, s28_6, b28_7, s28_10, s28_10v, s28_11, s28_13, b28_16, s28_19, s28_20, s28_21, s28_21v, s28_22, s28_25, s28_26, s28_27, b28_28, s28_31, s28_32, s28_33, s28_33v, s28_34, s28_37, s28_38, b28_39, s28_42, s28_43, b28_44, s28_47, s28_47v, s28_48, s28_50, b28_53, s28_56, s28_56v, s28_57, s28_58, b28_61, s28_64, s28_65, s28_66, s28_66v, s28_67, s28_68, s28_69, s28_70, s28_73, s28_74, t0, wo, sk, nu, a1, p9, kl_i, kl_r, kl_l, kl_n, kl_z, bd_s, tl_s, tl_n, ap_c, ap_n, v_s, v_n, nd_1, nd_0, ct13, eq_self, iI_add, iI_sub, iI_mul, iI_nat, iI_eq, iI_lt, iI_le, iI_eq0, iI_lt0, ↓reduceIte, if_true, if_false, not_true_eq_false, not_false_eq_true, true_and, and_true, false_and, and_false, true_or, or_true, false_or, or_false, Int.reduceLT, Int.reduceLE, Int.reduceEq, Int.reduceAdd, Int.reduceSub, Int.reduceMul, Nat.reduceAdd, Nat.reduceLT, Nat.reduceEqDiff, Int.reduceNeg, nc_s, nc_0, Int.zero_add, Int.add_zero, oI_r, oI_w, oI_f0, oI_g0, oI_f1, oI_g1, oI_f2, oI_g2, oI_f3, oI_g3, oI_f4, oI_g4, oI_f5, oI_g5, oI_f6, oI_g6, oI_f7, oI_g7, oI_f8, oI_g8, oI_f9, oI_g9, oI_f10, oI_g10, oI_f11, oI_g11, oI_f12, oI_g12, oI_f13, oI_g13, oI_f14, oI_g14, oI_f15, oI_g15, oI_f16, oI_g16, oI_f17, oI_g17, oI_f18, oI_g18, oI_f19, oI_g19, oI_f20, oI_g20, oI_f21, oI_g21, oI_f22, oI_g22, oI_f23, oI_g23, oI_f24, oI_g24, oI_f25, oI_g25, ur_r, ur_o, ur_s, up_r, up_o, up_s, jI_add, jI_sub, jI_mul, jI_neg, jI_i, jI_n, lgc_j, cj_lt, cj_ge, cj_gt, cj_le, cj_eq, oL_r, oL_w, oL_f6, oL_g6, oL_f7, oL_g7, oL_f17, oL_g17, oL_f18, oL_g18, dl_T, dl_F, de_T, de_F, dle_T, dle_F, iI_divn, rem_n, nd_v, ct_s, Bool.false_eq_true]
    · cases q; exact ⟨a5, by show J' t 9 ≤ p; omega⟩
end TE
