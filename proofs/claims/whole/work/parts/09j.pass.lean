/-! the class's hour is the reference's -/
section CJ
variable {d : Nat} {T : Nat → Nat × Nat} {L : Nat → Nat → Int64} {R : Nat → Nat → Option Nat} {z w : Nat} {J : mR} {a t : Nat} {S0 : Int → Int} {cs : List CL} {sky : Int}
/-- a world shows a state -/
def wR (J : mR) (a : Nat) (S : Int → Int) : Prop := (∀ j, 0 ≤ j ∧ j < 4 → J (a + 1) j = S j) ∧ (∀ p, 0 ≤ p ∧ p < 6 → J (a + 2) p = dOf S p) ∧ J a 2 = S 10 ∧ J a 3 = S 11 ∧ J a 4 = S 12 ∧ J a 5 = S 13 ∧ J a 6 = S 14 ∧ (∀ j, 0 ≤ j ∧ j < 4 → J (a + 3) j = 0)
theorem and_0 (m : Int32) : iI 0 &&& m = iI 0 := by
  apply b_ext
  intro i hi
  have : bt (iI 0) i = false := by
    have : ∀ i, i < 32 → bt (iI 0) i = false := by decide
    exact this i hi
  rw [b_and, this, Bool.false_and]
theorem pa_loop (hw : wc T R a) (hk : tk T R J t cs) (hok : lkOk (tokL cs) 0) (hn : nC T R t) (hP : pP T R J S0) (ho : oS S0) (hT : oT S0) (hc : tB 900000 S0) (hs : 0 ≤ sky ∧ sky ≤ 1) (hat : a + 3 < t ∨ t + 6 < a) (ha : a = 102 ∨ 119 < a) (ht : 108 ≤ t) (e0 : J t 0 = tlS S0 220 9) (e1 : J t 1 = tlS S0 225 1) (J1 : mR) (hR : cwR J J1 a t S0 (q0 S0) 0 sky) : ∀ k : Nat, (k : Int) ≤ S0 15 → ∃ (J2 : mR) (g4 g5 : Option Value), rn_r (d + 5) 58 12 [some (.ref a), some (.ref 101), some (.int (iI sky)), some (.int (iI 0)), none, none] [] (T, oI J1, L, R, z, w) = rn_r (d + 5) 58 12 [some (.ref a), some (.ref 101), some (.int (iI sky)), some (.int (iI k)), g4, g5] [] (T, oI J2, L, R, z, w) ∧ cwR J J2 a t S0 (h1S (tokL cs) sky k (q0 S0)) k sky := by
  intro k
  induction k with
  | zero => intro _; exact ⟨J1, none, none, rfl, hR⟩
  | succ k ih =>
    intro hkn
    obtain ⟨J2, g4, g5, hrun, h2⟩ := ih (by omega)
    obtain ⟨J3, f4, f5, hrun3, h3⟩ := pa_step (d := d) (L := L) (z := z) (w := w) hw hk hok hn hP ho hT hc hs hat ha ht e0 e1 k (by omega) J2 g4 g5 h2
    exact ⟨J3, f4, f5, hrun.trans hrun3, h3⟩
theorem w_pass (hw : wc T R a) (hk : tk T R J t cs) (hok : lkOk (tokL cs) 0) (hn : nC T R t) (hP : pP T R J S0) (ho : oS S0) (hT : oT S0) (hc : tB 900000 S0) (hs : 0 ≤ sky ∧ sky ≤ 1) (hat : a + 3 < t ∨ t + 6 < a) (ha : a = 102 ∨ 119 < a) (ht : 108 ≤ t) (e0 : J t 0 = tlS S0 220 9) (e1 : J t 1 = tlS S0 225 1) (hR : wR J a S0) : ∃ J' : mR, rn_c (d + 5) 58 [.ref a, .ref 101, .int (iI sky)] (T, oI J, L, R, z, w) = some (none, (T, oI J', L, R, z, w)) ∧ wR J' a (hrS (tokL cs) S0 sky) ∧ (∀ b, ¬ b = a → ¬ b = a + 1 → ¬ b = a + 2 → ¬ b = a + 3 → ¬ b = t + 6 → J' b = J b) ∧ (∀ j, 0 ≤ j → j < 5 → i32 (J' (t + 6) j)) := by
  obtain ⟨w1, w2, w3, w4, w5, w6, w7, w8⟩ := hR
  obtain ⟨n1, n2, n3, n4, n5, n6⟩ := id hn
  have h15 := ho.2.2.2.2
  have h10 := ho.2.2.1
  have hkf := hk.2.2.2.2.2.2
  obtain ⟨J1, hJ1⟩ : ∃ J1, J1 = ur J a (up (up (J a) 3 sky) 8 0) := ⟨_, rfl⟩
  have hR1 : cwR J J1 a t S0 (q0 S0) 0 sky := by
    rw [hJ1]
    refine ⟨fun j hj => ?_, fun p hp => ?_, ?_, ?_, ?_, ?_, ?_, fun j hj => ?_, fun p hp => ?_, fun b b1 _ _ _ _ => ur_o b1, fun j j0 j5 => ?_⟩
    · rw [ur_o (by omega)]; exact w1 j hj
    · rw [ur_o (by omega), if_neg (by omega)]; exact w2 p hp
    · rw [ur_r, up_o (by decide), up_o (by decide)]; exact w3
    · rw [ur_r, up_o (by decide), up_r]
    · rw [ur_r, up_o (by decide), up_o (by decide)]; exact w5
    · rw [ur_r, up_o (by decide), up_o (by decide)]; exact w6
    · rw [ur_r, up_o (by decide), up_o (by decide)]; exact w7
    · rw [ur_o (by omega)]; exact w8 j hj
    · rw [ur_r, up_r, and_0]; exact ⟨fun _ => rfl, fun _ => rfl⟩
    · rw [ur_o (by omega)]; exact hkf j j0 j5
  have hnn : ((S0 15).toNat : Int) = S0 15 := by omega
  obtain ⟨J2, g4, g5, hrun, h2⟩ := pa_loop (d := d) (L := L) (z := z) (w := w) hw hk hok hn hP ho hT hc hs hat ha ht e0 e1 J1 hR1 (S0 15).toNat (by omega)
  obtain ⟨p1, p2, p3, p4⟩ := h1_p (ts := tokL cs) (sky := sky) hok (q0 S0) ho hc hT (S0 15).toNat (by omega)
  have eS : hrS (tokL cs) S0 sky = up (up (h2S (h1S (tokL cs) sky (S0 15).toNat (q0 S0)).2.1 (h1S (tokL cs) sky (S0 15).toNat (q0 S0)).2.2.2 (S0 15).toNat (h1S (tokL cs) sky (S0 15).toNat (q0 S0)).1) 11 sky) 10 (S0 10 + 1) := rfl
  rw [eS]
  generalize h1S (tokL cs) sky (S0 15).toNat (q0 S0) = q at *
  obtain ⟨r1, r2, r3, r4, r5, r6, r7, r8, r9, r10, r11⟩ := h2
  have dox : ∀ p, 0 ≤ p ∧ p < 6 → dOf q.1 p = dOf S0 p ∧ oOf q.1 p = oOf S0 p := fun p hp => dOf_x (p4 _ (by omega) (by omega)) (p2 _ (by omega)) (p2 _ (by omega))
  obtain ⟨c1, c2, c3, c4⟩ := h2_cn (U := q.2.1) (G := q.2.2.2) (S1 := q.1) (S0 := S0) p1 (fun p hp => (dox p hp).2) (S0 15).toNat (by omega)
  generalize h2S q.2.1 q.2.2.2 (S0 15).toNat q.1 = S2 at *
  have hV : ∀ j, 0 ≤ j ∧ j < 4 → 0 ≤ J2 (a + 1) j ∧ J2 (a + 1) j ≤ 9 := fun j hj => by rw [r1 j hj]; exact p1.2.1 j hj
  have hC : ∀ j, 0 ≤ j ∧ j < 4 → 0 ≤ J2 (a + 3) j ∧ J2 (a + 3) j ≤ 9 := by
    intro j hj
    rw [r8 j hj]
    have := cnG_r (U := q.2.1) (G := q.2.2.2) (S := S0) (j := j) (S0 15).toNat
    omega
  have pd := w_putDown (d := d + 3) (L := L) (z := z) (w := w) hw hV hC
  have hJ15 : J2 101 3 = S0 15 := by rw [r10 101 (by omega) (by omega) (by omega) (by omega) (by omega)]; exact hP.2
  have e2 : pdJ J2 a a 2 = S0 10 := by
    unfold pdJ
    rw [ur_o (by omega), ur_o (by omega), ur_r, up_o (by decide)]; exact r3
  obtain ⟨K, hK⟩ : ∃ K, K = pdJ J2 a := ⟨_, rfl⟩
  rw [← hK] at pd e2
  refine ⟨ur K a (up (K a) 2 (S0 10 + 1)), ?_, ?_, fun b b1 b2 b3 b4 b5 => ?_, fun j j0 j5 => ?_⟩
  · have st : rn_c (d + 5) 58 [.ref a, .ref 101, .int (iI sky)] (T, oI J, L, R, z, w) = rn_r (d + 5) 58 12 [some (.ref a), some (.ref 101), some (.int (iI sky)), some (.int (iI 0)), none, none] [] (T, oI J1, L, R, z, w) := by
      rw [hJ1]
      simp (disch := first | omega | exact hJ _ _ | exact rJ_g hJ _ _ | (simp (disch := omega) only [ur_r, ur_o, up_r, up_o]; omega) | assumption) only [c58, s58_0, s58_0v, s58_1, s58_2, s58_5, s58_5v, s58_6, s58_7, s58_10, s58_11, hw.t0, kl_i, kl_r, kl_l, kl_n, kl_z, bd_s, tl_s, tl_n, ap_c, ap_n, v_s, v_n, nd_1, nd_0, ct13, eq_self, iI_add, iI_sub, iI_mul, iI_nat, iI_eq, iI_lt, iI_le, iI_eq0, iI_lt0, ↓reduceIte, if_true, if_false, not_true_eq_false, not_false_eq_true, true_and, and_true, false_and, and_false, true_or, or_true, false_or, or_false, Int.reduceLT, Int.reduceLE, Int.reduceEq, Int.reduceAdd, Int.reduceSub, Int.reduceMul, Nat.reduceAdd, Nat.reduceLT, Nat.reduceEqDiff, Int.reduceNeg, nc_s, nc_0, Int.zero_add, Int.add_zero, oI_r, oI_w, oI_f0, oI_g0, oI_f1, oI_g1, oI_f2, oI_g2, oI_f3, oI_g3, oI_f4, oI_g4, oI_f5, oI_g5, oI_f6, oI_g6, oI_f7, oI_g7, oI_f8, oI_g8, oI_f9, oI_g9, oI_f10, oI_g10, oI_f11, oI_g11, oI_f12, oI_g12, oI_f13, oI_g13, oI_f14, oI_g14, oI_f15, oI_g15, oI_f16, oI_g16, oI_f17, oI_g17, oI_f18, oI_g18, oI_f19, oI_g19, oI_f20, oI_g20, oI_f21, oI_g21, oI_f22, oI_g22, oI_f23, oI_g23, oI_f24, oI_g24, oI_f25, oI_g25, ur_r, ur_o, ur_s, up_r, up_o, up_s, jI_add, jI_sub, jI_mul, jI_neg, jI_i, jI_n, lgc_j, cj_lt, cj_ge, cj_gt, cj_le, cj_eq, oL_r, oL_w, oL_f6, oL_g6, oL_f7, oL_g7, oL_f17, oL_g17, oL_f18, oL_g18, dl_T, dl_F, de_T, de_F, dle_T, dle_F, iI_divn, rem_n, nd_v, ct_s, Bool.false_eq_true]
    rw [st, hrun, hnn]
    simp (disch := first | omega | exact hJ _ _ | exact rJ_g hJ _ _ | (simp (disch := omega) only [ur_r, ur_o, up_r, up_o]; omega) | assumption) only [s58_12, s58_13, s58_13v, s58_14, b58_17, s58_72, s58_72v, s58_73, s58_76, s58_76v, s58_77, s58_78, s58_81, s58_82, s58_83, s58_86, n1, hJ15, hw.t0, pd, e2, kl_i, kl_r, kl_l, kl_n, kl_z, bd_s, tl_s, tl_n, ap_c, ap_n, v_s, v_n, nd_1, nd_0, ct13, eq_self, iI_add, iI_sub, iI_mul, iI_nat, iI_eq, iI_lt, iI_le, iI_eq0, iI_lt0, ↓reduceIte, if_true, if_false, not_true_eq_false, not_false_eq_true, true_and, and_true, false_and, and_false, true_or, or_true, false_or, or_false, Int.reduceLT, Int.reduceLE, Int.reduceEq, Int.reduceAdd, Int.reduceSub, Int.reduceMul, Nat.reduceAdd, Nat.reduceLT, Nat.reduceEqDiff, Int.reduceNeg, nc_s, nc_0, Int.zero_add, Int.add_zero, oI_r, oI_w, oI_f0, oI_g0, oI_f1, oI_g1, oI_f2, oI_g2, oI_f3, oI_g3, oI_f4, oI_g4, oI_f5, oI_g5, oI_f6, oI_g6, oI_f7, oI_g7, oI_f8, oI_g8, oI_f9, oI_g9, oI_f10, oI_g10, oI_f11, oI_g11, oI_f12, oI_g12, oI_f13, oI_g13, oI_f14, oI_g14, oI_f15, oI_g15, oI_f16, oI_g16, oI_f17, oI_g17, oI_f18, oI_g18, oI_f19, oI_g19, oI_f20, oI_g20, oI_f21, oI_g21, oI_f22, oI_g22, oI_f23, oI_g23, oI_f24, oI_g24, oI_f25, oI_g25, ur_r, ur_o, ur_s, up_r, up_o, up_s, jI_add, jI_sub, jI_mul, jI_neg, jI_i, jI_n, lgc_j, cj_lt, cj_ge, cj_gt, cj_le, cj_eq, oL_r, oL_w, oL_f6, oL_g6, oL_f7, oL_g7, oL_f17, oL_g17, oL_f18, oL_g18, dl_T, dl_F, de_T, de_F, dle_T, dle_F, iI_divn, rem_n, nd_v, ct_s, Bool.false_eq_true]
  · have k1 : K (a + 1) = s4 (J2 (a + 1)) (mn9 (J2 (a + 1) 0 + J2 (a + 3) 0)) (mn9 (J2 (a + 1) 1 + J2 (a + 3) 1)) (mn9 (J2 (a + 1) 2 + J2 (a + 3) 2)) (mn9 (J2 (a + 1) 3 + J2 (a + 3) 3)) := by
      rw [hK]; unfold pdJ; rw [ur_o (by omega), ur_r]
    have k2 : K (a + 2) = J2 (a + 2) := by rw [hK]; unfold pdJ; rw [ur_o (by omega), ur_o (by omega), ur_o (by omega)]
    have k3 : K (a + 3) = s4 (J2 (a + 3)) 0 0 0 0 := by rw [hK]; unfold pdJ; rw [ur_r]
    have k0 : K a = up (J2 a) 6 (J2 a 6 + (J2 (a + 1) 0 + J2 (a + 3) 0 - mn9 (J2 (a + 1) 0 + J2 (a + 3) 0)) + (J2 (a + 1) 1 + J2 (a + 3) 1 - mn9 (J2 (a + 1) 1 + J2 (a + 3) 1)) + (J2 (a + 1) 2 + J2 (a + 3) 2 - mn9 (J2 (a + 1) 2 + J2 (a + 3) 2)) + (J2 (a + 1) 3 + J2 (a + 3) 3 - mn9 (J2 (a + 1) 3 + J2 (a + 3) 3))) := by
      rw [hK]; unfold pdJ; rw [ur_o (by omega), ur_o (by omega), ur_r]
    have x0 := r1 0 (by omega)
    have x1 := r1 1 (by omega)
    have x2 := r1 2 (by omega)
    have x3 := r1 3 (by omega)
    have y0 := r8 0 (by omega)
    have y1 := r8 1 (by omega)
    have y2 := r8 2 (by omega)
    have y3 := r8 3 (by omega)
    rw [x0, x1, x2, x3, y0, y1, y2, y3] at k0 k1
    refine ⟨fun j hj => ?_, fun p hp => ?_, ?_, ?_, ?_, ?_, ?_, fun j hj => ?_⟩
    · rw [ur_o (by omega), k1, up_o (by omega), up_o (by omega), c1 j hj]
      have : j = 0 ∨ j = 1 ∨ j = 2 ∨ j = 3 := by omega
      unfold s4
      rcases this with rfl | rfl | rfl | rfl <;> simp (disch := omega) only [up_r, up_o]
    · rw [ur_o (by omega), k2, r2 p hp]
      have at1 := (ho.1 p hp).2.2.1
      have p4p : q.1 (4 + p) = S0 (4 + p) := p4 _ (by omega) (by omega)
      unfold dOf oOf
      rw [up_o (by omega), up_o (by omega), up_o (by omega), up_o (by omega), up_o (by omega), up_o (by omega), c3 p hp, c4 (162 + p) (by omega) (by omega), c4 (168 + p) (by omega) (by omega), p2 (162 + p) (by omega), p2 (168 + p) (by omega), p4p]
      by_cases cc : p < ((S0 15).toNat : Int) ∧ ¬ q.2.1 p = 0
      · rw [if_pos cc, if_pos cc]
        by_cases z0 : S0 (4 + p) = 0
        · rw [if_pos z0, if_neg (by omega)]
        · rw [if_neg z0, if_pos (by omega)]
      · rw [if_neg cc, if_neg cc]
    · rw [ur_r, up_r, up_r]
    · rw [ur_r, up_o (by decide), k0, up_o (by decide), r4, up_o (by decide), up_r]
    · rw [ur_r, up_o (by decide), k0, up_o (by decide), r5, up_o (by decide), up_o (by decide), c4 12 (by omega) (by omega)]
    · rw [ur_r, up_o (by decide), k0, up_o (by decide), r6, up_o (by decide), up_o (by decide), c4 13 (by omega) (by omega)]
    · rw [ur_r, up_o (by decide), k0, up_r, r7, up_o (by decide), up_o (by decide), c2]
    · rw [ur_o (by omega), k3]
      have : j = 0 ∨ j = 1 ∨ j = 2 ∨ j = 3 := by omega
      unfold s4
      rcases this with rfl | rfl | rfl | rfl <;> simp (disch := omega) only [up_r, up_o]
  · rw [ur_o b1, hK]; unfold pdJ; rw [ur_o b4, ur_o b2, ur_o b1]; exact r10 b b1 b2 b3 b4 b5
  · rw [ur_o (by omega), hK]; unfold pdJ; rw [ur_o (by omega), ur_o (by omega), ur_o (by omega)]; exact r11 j j0 j5
end CJ
