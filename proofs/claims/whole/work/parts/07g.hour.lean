/-! the reference's hourGoes -/
section HG
variable {d : Nat} {T : Nat → Nat × Nat} {L : Nat → Nat → Int64} {R : Nat → Nat → Option Nat} {z w : Nat} {J : mR}
abbrev hQ : Type := (Int → Int) × (Int → Int) × (Int → Int) × (Int → Int)
def h1s (ts : List Int) (sky p : Int) (q : hQ) : hQ := if q.1 10 % q.1 (174 + p) = 0 then (wkS ts q.1 (up q.2.1 p 1) q.2.2.1 p sky, up q.2.1 p 1, up q.2.2.1 p (tkS q.1 ts p sky), up q.2.2.2 p (bgS ts q.1 p sky)) else (q.1, up q.2.1 p 0, q.2.2.1, q.2.2.2)
def h1S (ts : List Int) (sky : Int) : Nat → hQ → hQ
  | 0, q => q
  | k + 1, q => h1s ts sky (k : Int) (h1S ts sky k q)
def h2s (U G : Int → Int) (p : Int) (S : Int → Int) : Int → Int := if U p = 0 then S else up (up (up S 14 (S 14 + (if G p = 0 then 0 else if 9 ≤ S (oOf S p) then 1 else 0))) (oOf S p) (S (oOf S p) + (if G p = 0 then 0 else if 9 ≤ S (oOf S p) then 0 else 1))) (4 + p) (1 - S (4 + p))
def h2S (U G : Int → Int) : Nat → (Int → Int) → (Int → Int)
  | 0, S => S
  | k + 1, S => h2s U G (k : Int) (h2S U G k S)
abbrev qJ (J : mR) : hQ := (J 194, J 200, J 199, J 201)
theorem hg1 (h : rM T R) (sky : Int) (hsky : 0 ≤ sky ∧ sky ≤ 1) (ts : List Int) (hok : lkOk ts 0) (hJ : rJ J) (ho : oS (J 194)) (hts : held (J 194) ts) (hT : oT (J 194)) (hc : tB 900000 (J 194)) : ∀ k : Nat, (k : Int) ≤ J 194 15 → ∃ J' : mR, rn_r (d + 5) 138 2 [some (.ref 193), some (.int (iI sky)), some (.int (iI 0)), none, none] [] (T, oI J, L, R, z, w) = rn_r (d + 5) 138 2 [some (.ref 193), some (.int (iI sky)), some (.int (iI k)), none, none] [] (T, oI J', L, R, z, w) ∧ rJ J' ∧ fB J J' ∧ qJ J' = h1S ts sky k (qJ J) ∧ oS (J' 194) ∧ sx (J 194) (J' 194) ∧ tB (900000 + 100 * k) (J' 194) ∧ (∀ j, 4 ≤ j → j < 12 → J' 194 j = J 194 j) := by
  intro k
  induction k with
  | zero =>
    intro _
    refine ⟨J, rfl, hJ, fB.i, rfl, ho, sx.i, ?_, fun _ _ _ => rfl⟩
    simpa using hc
  | succ k ih =>
    intro hk
    obtain ⟨J1, hrun, hJ1, hf1, hq, ho1, hx1, hc1, hm1⟩ := ih (by omega)
    have hkn := ho.2.2.2.2
    have e15 := hx1 15 (by omega)
    have st := (ho1.1 k (by omega)).2.2.2.1
    have hh := ho1.2.2.1
    have hmod := Int.emod_nonneg (J1 194 10) (show J1 194 (174 + k) ≠ 0 by omega)
    have hmod2 := Int.emod_lt_of_pos (J1 194 10) (show 0 < J1 194 (174 + k) by omega)
    have hd1 := dOf_r (ho1.ok hJ1.1) k (by omega)
    have ea : qJ J1 = h1S ts sky k (qJ J) := hq
    simp only [h1S, ← ea, h1s]
    by_cases c : J1 194 10 % J1 194 (174 + k) = 0
    · have hJ2 := rJ_up hJ1 (b := 200) (k := k) (v := 1) (by omega) (by omega)
      have f4 : ur J1 200 (up (J1 200) k 1) 194 = J1 194 := ur_o (by omega)
      have f9 : ur J1 200 (up (J1 200) k 1) 199 = J1 199 := ur_o (by omega)
      have f1 : ur J1 200 (up (J1 200) k 1) 201 = J1 201 := ur_o (by omega)
      have f0 : ur J1 200 (up (J1 200) k 1) 200 = up (J1 200) k 1 := ur_r
      obtain ⟨J2, hrun2, hJ2', hf2, g4, g9, g0, g1⟩ := n_walksOut (d := d) (L := L) (z := z) (w := w) h hJ2 (by rw [f4]; exact ho1) ts (by rw [f4]; exact hx1.held hts) hok (by rw [f4]; exact hx1.oT hT) (by rw [f4]; unfold tB at hc1 ⊢; omega) k sky (by omega) hsky
      rw [f4, f0, f9] at g4
      rw [f4, f9] at g9
      rw [f0] at g0
      rw [f4, f1] at g1
      obtain ⟨w1, w2⟩ := wkS_sx ts (J1 194) (up (J1 200) k 1) (J1 199) k sky hd1
      refine ⟨J2, ?_, hJ2', hf1.t ((fB.u (by omega)).t hf2), ?_, ?_, ?_, ?_, ?_⟩
      · refine hrun.trans (Eq.trans ?_ (s138_63 ..))
        simp (disch := first | omega | exact hJ _ _ | exact rJ_g hJ _ _ | (simp (disch := omega) only [ur_r, ur_o, up_r, up_o]; omega) | assumption) only [s138_2, s138_3, s138_3v, s138_4, s138_7, s138_9, b138_10, s138_13, s138_13v, s138_14, s138_17, s138_18, s138_18v, s138_19, s138_22, s138_24, s138_25, s138_25v, s138_26, s138_29, s138_32, s138_33, s138_34, s138_35, b138_36, s138_39, s138_40, s138_43, s138_44, s138_45, s138_45v, s138_46, s138_49, s138_50, b138_51, s138_54, s138_54v, s138_55, s138_56, s138_57, s138_60, h.t193, h.r1, h.r15, h.a194, h.a200, h.b200, h.c200, hrun2, e15, kl_i, kl_r, kl_l, kl_n, kl_z, bd_s, tl_s, tl_n, ap_c, ap_n, v_s, v_n, nd_1, nd_0, ct13, eq_self, iI_add, iI_sub, iI_mul, iI_nat, iI_eq, iI_lt, iI_le, iI_eq0, iI_lt0, ↓reduceIte, if_true, if_false, not_true_eq_false, not_false_eq_true, true_and, and_true, false_and, and_false, true_or, or_true, false_or, or_false, Int.reduceLT, Int.reduceLE, Int.reduceEq, Int.reduceAdd, Int.reduceSub, Int.reduceMul, Nat.reduceAdd, Nat.reduceLT, Nat.reduceEqDiff, Int.reduceNeg, nc_s, nc_0, Int.zero_add, Int.add_zero, oI_r, oI_w, oI_f0, oI_g0, oI_f1, oI_g1, oI_f2, oI_g2, oI_f3, oI_g3, oI_f4, oI_g4, oI_f5, oI_g5, oI_f6, oI_g6, oI_f7, oI_g7, oI_f8, oI_g8, oI_f9, oI_g9, oI_f10, oI_g10, oI_f11, oI_g11, oI_f12, oI_g12, oI_f13, oI_g13, oI_f14, oI_g14, oI_f15, oI_g15, oI_f16, oI_g16, oI_f17, oI_g17, oI_f18, oI_g18, oI_f19, oI_g19, oI_f20, oI_g20, oI_f21, oI_g21, oI_f22, oI_g22, oI_f23, oI_g23, oI_f24, oI_g24, oI_f25, oI_g25, ur_r, ur_o, ur_s, up_r, up_o, up_s, dl_T, dl_F, de_T, de_F, dle_T, dle_F, iI_divn, rem_n, nd_v, ct_s, Bool.false_eq_true]
      · rw [if_pos c]
        show (J2 194, J2 200, J2 199, J2 201) = _
        rw [g4, g0, g9, g1]
      · rw [g4]; exact wkS_o ho1 (by omega) hd1
      · rw [g4]; exact hx1.t w1
      · rw [g4]
        have := wkS_t (U := up (J1 200) k 1) (K := J1 199) (p := (k : Int)) (sky := sky) hok hc1 (hx1.oT hT) hd1
        unfold tB at this ⊢; omega
      · intro j h1 h2; rw [g4, w2 j h1 h2]; exact hm1 j h1 h2
    · have hJ2 := rJ_up hJ1 (b := 200) (k := k) (v := 0) (by omega) (by omega)
      refine ⟨ur J1 200 (up (J1 200) k 0), ?_, hJ2, hf1.t (fB.u (by omega)), ?_, ?_, ?_, ?_, ?_⟩
      · refine hrun.trans (Eq.trans ?_ (s138_63 ..))
        simp (disch := first | omega | exact hJ _ _ | exact rJ_g hJ _ _ | (simp (disch := omega) only [ur_r, ur_o, up_r, up_o]; omega) | assumption) only [s138_2, s138_3, s138_3v, s138_4, s138_7, s138_9, b138_10, s138_13, s138_13v, s138_14, s138_17, s138_18, s138_18v, s138_19, s138_22, s138_24, s138_25, s138_25v, s138_26, s138_29, s138_32, s138_33, s138_34, s138_35, b138_36, s138_39, s138_40, s138_43, s138_44, s138_45, s138_45v, s138_46, s138_49, s138_50, b138_51, s138_54, s138_54v, s138_55, s138_56, s138_57, s138_60, h.t193, h.r1, h.r15, h.a194, h.a200, h.b200, h.c200, e15, kl_i, kl_r, kl_l, kl_n, kl_z, bd_s, tl_s, tl_n, ap_c, ap_n, v_s, v_n, nd_1, nd_0, ct13, eq_self, iI_add, iI_sub, iI_mul, iI_nat, iI_eq, iI_lt, iI_le, iI_eq0, iI_lt0, ↓reduceIte, if_true, if_false, not_true_eq_false, not_false_eq_true, true_and, and_true, false_and, and_false, true_or, or_true, false_or, or_false, Int.reduceLT, Int.reduceLE, Int.reduceEq, Int.reduceAdd, Int.reduceSub, Int.reduceMul, Nat.reduceAdd, Nat.reduceLT, Nat.reduceEqDiff, Int.reduceNeg, nc_s, nc_0, Int.zero_add, Int.add_zero, oI_r, oI_w, oI_f0, oI_g0, oI_f1, oI_g1, oI_f2, oI_g2, oI_f3, oI_g3, oI_f4, oI_g4, oI_f5, oI_g5, oI_f6, oI_g6, oI_f7, oI_g7, oI_f8, oI_g8, oI_f9, oI_g9, oI_f10, oI_g10, oI_f11, oI_g11, oI_f12, oI_g12, oI_f13, oI_g13, oI_f14, oI_g14, oI_f15, oI_g15, oI_f16, oI_g16, oI_f17, oI_g17, oI_f18, oI_g18, oI_f19, oI_g19, oI_f20, oI_g20, oI_f21, oI_g21, oI_f22, oI_g22, oI_f23, oI_g23, oI_f24, oI_g24, oI_f25, oI_g25, ur_r, ur_o, ur_s, up_r, up_o, up_s, dl_T, dl_F, de_T, de_F, dle_T, dle_F, iI_divn, rem_n, nd_v, ct_s, Bool.false_eq_true]
      · rw [if_neg c]
        show (ur J1 200 (up (J1 200) k 0) 194, ur J1 200 (up (J1 200) k 0) 200, ur J1 200 (up (J1 200) k 0) 199, ur J1 200 (up (J1 200) k 0) 201) = _
        rw [ur_o (by omega), ur_r, ur_o (by omega), ur_o (by omega)]
      · rw [ur_o (by omega)]; exact ho1
      · rw [ur_o (by omega)]; exact hx1
      · rw [ur_o (by omega)]; unfold tB at hc1 ⊢; omega
      · intro j h1 h2; rw [ur_o (by omega)]; exact hm1 j h1 h2
end HG
