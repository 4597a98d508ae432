/-! the class's hour -/
section CH
variable {d : Nat} {T : Nat → Nat × Nat} {L : Nat → Nat → Int64} {R : Nat → Nat → Option Nat} {z w : Nat} {J : mR} {a t : Nat} {S0 : Int → Int} {cs : List CL} {sky : Int}
/-- the cells of what there is now -/
def nC (T : Nat → Nat × Nat) (R : Nat → Nat → Option Nat) (t : Nat) : Prop := T 101 = (7, 0) ∧ T 106 = (25, 6) ∧ T 107 = (20, 6) ∧ R 101 1 = some 106 ∧ R 101 2 = some 107 ∧ R 101 4 = some t
/-- people, as the class has them -/
def pP (T : Nat → Nat × Nat) (R : Nat → Nat → Option Nat) (J : mR) (S : Int → Int) : Prop := (∀ p : Nat, (p : Int) < S 15 → (∃ x, R 106 p = some x ∧ pc1 T J x S p) ∧ J 107 p = S (174 + (p : Int)) ∧ ¬ S (162 + (p : Int)) = S (168 + (p : Int))) ∧ J 101 3 = S 15
theorem pP_x {J' : mR} {S S' : Int → Int} (h : pP T R J S) (e : ∀ b, ¬ (T b).1 = 11 → ¬ (T b).1 = 20 ∨ b = 107 → J' b = J b) (hT1 : ¬ (T 101).1 = 11 ∧ ¬ (T 101).1 = 20) (hT7 : T 107 = (20, 6)) (hS : sx S S') : pP T R J' S' := by
  refine ⟨fun p hp => ?_, ?_⟩
  · rw [hS 15 (by omega)] at hp
    obtain ⟨⟨x, hx1, hx2⟩, h2, h3⟩ := h.1 p hp
    have ex : J' x = J x := by
      have hx2' : (T x).1 = kT (S (150 + p)) := by rw [hx2.1]
      have hk : kT (S (150 + p)) ≤ 10 := by unfold kT; repeat' split
                                            all_goals omega
      exact e x (by omega) (Or.inl (by omega))
    refine ⟨⟨x, hx1, ?_⟩, ?_, ?_⟩
    · obtain ⟨q1, q2, q3, q4, q5, q6⟩ := hx2
      unfold pc1
      rw [ex, hS (150 + p) (by omega), hS (162 + p) (by omega), hS (168 + p) (by omega), hS (156 + p) (by omega)]
      exact ⟨q1, q2, q3, q4, q5, q6⟩
    · rw [e 107 (by rw [hT7]; decide) (Or.inr rfl), hS (174 + p) (by omega)]; exact h2
    · rw [hS (162 + p) (by omega), hS (168 + p) (by omega)]; exact h3
  · rw [e 101 hT1.1 (Or.inl hT1.2), hS 15 (by omega)]; exact h.2
/-- a world in the midst of an hour -/
def cwR (J0 J : mR) (a t : Nat) (S0 : Int → Int) (q : hQ) (k : Nat) (sky : Int) : Prop :=
  (∀ j, 0 ≤ j ∧ j < 4 → J (a + 1) j = q.1 j) ∧ (∀ p, 0 ≤ p ∧ p < 6 → J (a + 2) p = if p < k ∧ ¬ q.2.1 p = 0 then oOf S0 p else dOf S0 p) ∧ J a 2 = S0 10 ∧ J a 3 = sky ∧ J a 4 = q.1 12 ∧ J a 5 = q.1 13 ∧ J a 6 = q.1 14 ∧ (∀ j, 0 ≤ j ∧ j < 4 → J (a + 3) j = cnG q.2.1 q.2.2.2 S0 k j) ∧ (∀ p, 0 ≤ p ∧ p < 6 → ((iI (J a 8) &&& wyS S0 p = iI 0) ↔ alS S0 q.2.1 q.2.2.1 p k = 0)) ∧ (∀ b, ¬ b = a → ¬ b = a + 1 → ¬ b = a + 2 → ¬ b = a + 3 → ¬ b = t + 6 → J b = J0 b) ∧ (∀ j, 0 ≤ j → j < 5 → i32 (J (t + 6) j))
theorem way_n {S : Int → Int} (ho : oS S) {p : Int} (hp : 0 ≤ p ∧ p < 6) : ∃ x : Nat, x < 16 ∧ dOf S p * 4 + oOf S p = (x : Int) := by
  have r1 := ho.dd hp
  have r2 := ho.oo hp
  exact ⟨(dOf S p * 4 + oOf S p).toNat, by omega, by omega⟩
theorem bits_wy {S : Int → Int} (ho : oS S) {p k : Int} (hp : 0 ≤ p ∧ p < 6) (hk : 0 ≤ k ∧ k < 6) (s : Int32) : ((s ||| wyS S k) &&& wyS S p = iI 0) ↔ (s &&& wyS S p = iI 0 ∧ ¬ (dOf S k = dOf S p ∧ oOf S k = oOf S p)) := by
  obtain ⟨x, hx, ex⟩ := way_n ho hk
  obtain ⟨y, hy, ey⟩ := way_n ho hp
  have r1 := ho.oo hp
  have r2 := ho.oo hk
  unfold wyS
  rw [ex, ey, bits_or s x y hx hy]
  constructor
  · rintro ⟨q1, q2⟩; exact ⟨q1, fun e => q2 (by omega)⟩
  · rintro ⟨q1, q2⟩; exact ⟨q1, fun e => q2 (by omega)⟩
theorem pa_step (hw : wc T R a) (hk : tk T R J t cs) (hok : lkOk (tokL cs) 0) (hn : nC T R t) (hP : pP T R J S0) (ho : oS S0) (hT : oT S0) (hc : tB 900000 S0) (hs : 0 ≤ sky ∧ sky ≤ 1) (hat : a + 3 < t ∨ t + 6 < a) (ha : a = 102 ∨ 119 < a) (ht : 108 ≤ t) (e0 : J t 0 = tlS S0 220 9) (e1 : J t 1 = tlS S0 225 1) (k : Nat) (hkn : (k : Int) < S0 15) (J1 : mR) (l4 l5 : Option Value) (hR : cwR J J1 a t S0 (h1S (tokL cs) sky k (q0 S0)) k sky) : ∃ (J2 : mR) (g4 g5 : Option Value), rn_r (d + 5) 58 12 [some (.ref a), some (.ref 101), some (.int (iI sky)), some (.int (iI k)), l4, l5] [] (T, oI J1, L, R, z, w) = rn_r (d + 5) 58 12 [some (.ref a), some (.ref 101), some (.int (iI sky)), some (.int (iI ((k : Int) + 1))), g4, g5] [] (T, oI J2, L, R, z, w) ∧ cwR J J2 a t S0 (h1S (tokL cs) sky (k + 1) (q0 S0)) (k + 1) sky := by
  have h15 := ho.2.2.2.2
  obtain ⟨p1, p2, p3, p4⟩ := h1_p (ts := tokL cs) (sky := sky) hok (q0 S0) ho hc hT k (by omega)
  obtain ⟨r1, r2, r3, r4, r5, r6, r7, r8, r9, r10, r11⟩ := hR
  obtain ⟨n1, n2, n3, n4, n5, n6⟩ := id hn
  obtain ⟨⟨x, hx1, hx2⟩, hst, hne⟩ := hP.1 k hkn
  have hstp := (ho.1 k (by omega)).2.2.2.1
  have h10 := ho.2.2.1
  have eq : h1S (tokL cs) sky (k + 1) (q0 S0) = h1s (tokL cs) sky k (h1S (tokL cs) sky k (q0 S0)) := rfl
  rw [eq]
  generalize h1S (tokL cs) sky k (q0 S0) = q at *
  have hcell : ∀ b, b = 101 ∨ b = 106 ∨ b = 107 ∨ (t ≤ b ∧ b < t + 6) → J1 b = J b := fun b hb => r10 b (by omega) (by omega) (by omega) (by omega) (by omega)
  have xne : ∀ b, b = a ∨ b = a + 1 ∨ b = a + 2 ∨ b = a + 3 ∨ b = t + 6 → ¬ x = b := by
    intro b hb
    refine hx2.ne ?_
    rcases hb with rfl | rfl | rfl | rfl | rfl
    · rw [hw.1]; decide
    · rw [hw.2.1]; decide
    · rw [hw.2.2.1]; decide
    · rw [hw.2.2.2.1]; decide
    · rw [hk.1.2.2.2.2.2.2.1]; decide
  have ex : J1 x = J x := r10 x (xne _ (Or.inl rfl)) (xne _ (by omega)) (xne _ (by omega)) (xne _ (by omega)) (xne _ (by omega))
  have hJ15 : J1 101 3 = S0 15 := by rw [hcell 101 (by omega)]; exact hP.2
  have hJst : J1 107 (k : Int) = S0 (174 + (k : Int)) := by rw [hcell 107 (by omega)]; exact hst
  have a106 : am_arr T [24, 25] 106 (iI (k : Int)) = true := ar_ok n2 rfl (by decide) (by omega)
  have a107 : am_arr T [20, 30] 107 (iI (k : Int)) = true := ar_ok n3 rfl (by decide) (by omega)
  have eR : R 106 (k : Int).toNat = some x := by rw [Int.toNat_natCast]; exact hx1
  have tx0 : ¬ (T x).1 = 0 := by
    have : (T x).1 = kT (S0 (150 + (k : Int))) := by rw [hx2.1]
    rw [this]; unfold kT; repeat' split
    all_goals omega
  have dox : ∀ p, 0 ≤ p ∧ p < 6 → dOf q.1 p = dOf S0 p ∧ oOf q.1 p = oOf S0 p := fun p hp => dOf_x (p4 _ (by omega) (by omega)) (p2 _ (by omega)) (p2 _ (by omega))
  have p10 : q.1 10 = S0 10 := p4 10 (by omega) (by omega)
  have e174 : q.1 (174 + (k : Int)) = S0 (174 + (k : Int)) := p2 _ (by omega)
  have hdiv := Int.emod_nonneg (S0 10) (show S0 (174 + (k : Int)) ≠ 0 by omega)
  have hdiv2 := Int.emod_lt_of_pos (S0 10) (show 0 < S0 (174 + (k : Int)) by omega)
  unfold h1s
  rw [p10, e174]
  by_cases c : S0 10 % S0 (174 + (k : Int)) = 0
  · rw [if_pos c]
    have hk1 : tk T R J1 t cs := by
      obtain ⟨f1, f2, f3, f4, f5, f6, f7⟩ := hk
      refine ⟨f1, f2, fun h s a1 a2 a3 a4 => ?_, loR_x (hcell t (by omega)) (hcell (t + 2) (by omega)) (hcell (t + 3) (by omega)) (hcell (t + 4) (by omega)) (hcell (t + 5) (by omega)) cs 0 0 f4, ?_, ?_, r11⟩
      · rw [hcell (t + 1) (by omega)]; exact f3 h s a1 a2 a3 a4
      · rw [hcell t (by omega)]; exact f5
      · rw [hcell t (by omega)]; exact f6
    have hx2' : pc1 T J1 x q.1 k := by
      obtain ⟨q1, q2, q3, q4, q5, q6⟩ := hx2
      unfold pc1
      rw [ex, p2 (150 + (k : Int)) (by omega), p2 (162 + (k : Int)) (by omega), p2 (168 + (k : Int)) (by omega), p2 (156 + (k : Int)) (by omega)]
      exact ⟨q1, q2, q3, q4, q5, q6⟩
    have hv : wv J1 a q.1 k := ⟨r1, by rw [r2 k (by omega), if_neg (by omega), (dox k (by omega)).1], by rw [r3, p10]⟩
    have hwy : ∀ p, 0 ≤ p ∧ p < 6 → wyS q.1 p = wyS S0 p := fun p hp => by unfold wyS; rw [(dox p hp).1, (dox p hp).2]
    have hC : ∀ j, 0 ≤ j ∧ j < 4 → 0 ≤ J1 (a + 3) j ∧ J1 (a + 3) j ≤ 8 := by
      intro j hj
      rw [r8 j hj]
      have := cnG_r (U := q.2.1) (G := q.2.2.2) (S := S0) (j := j) k
      omega
    have eal : alS q.1 (up q.2.1 k 1) (up q.2.2.1 k 0) k (k : Int).toNat = alS S0 q.2.1 q.2.2.1 k k := by
      rw [Int.toNat_natCast, alS_u (Nat.le_refl _), alS_S (by omega) dox k (by omega)]
    obtain ⟨J2, hrun, w1, w2, w3, w4, w5, w6, w7, w8, w9, w10, w11⟩ := w_walk (d := d) (L := L) (z := z) (w := w) (J := J1) (S := q.1) (p := (k : Int)) (sky := sky) hw hk1 hok hx2' hv p1 (by rw [p2 _ (by omega), p2 _ (by omega)]; exact hne) (by omega) hs hat (p2.oT hT) (by unfold tB at p3 ⊢; omega) (by rw [hcell t (by omega), e0]; exact (p2.tl (by omega) hT.1.1).symm) (by rw [hcell t (by omega), e1]; exact (p2.tl (by omega) hT.1.1).symm) r4 r5 r6 r7 hC (up q.2.1 k 1) q.2.2.1 (by rw [hwy k (by omega), eal]; exact r9 k (by omega))
    rw [hwy k (by omega)] at w8
    rw [(dox k (by omega)).2] at w2 w9
    refine ⟨J2, some (.ref x), some (.int (iI (S0 (174 + (k : Int))))), ?_, ?_⟩
    · refine Eq.trans ?_ (s58_69 ..)
      simp (disch := first | omega | exact hJ _ _ | exact rJ_g hJ _ _ | (simp (disch := omega) only [ur_r, ur_o, up_r, up_o]; omega) | assumption) only [s58_12, s58_13, s58_13v, s58_14, b58_17, s58_20, s58_20v, s58_21, s58_24, s58_25, s58_26, s58_26n, s58_26v, s58_28, s58_28v, s58_29, s58_32, s58_33, s58_34, s58_36, s58_36v, s58_38, s58_38n, s58_41, b58_43, s58_46, s58_46v, s58_47, s58_50, s58_52, b58_53, s58_56, s58_56v, s58_57, s58_57v, s58_59, s58_59v, s58_60, s58_63, s58_66, n1, n4, n5, n6, hJ15, a106, a107, eR, hJst, hw.t0, r3, hrun, v_s, tx0, kl_i, kl_r, kl_l, kl_n, kl_z, bd_s, tl_s, tl_n, ap_c, ap_n, v_s, v_n, nd_1, nd_0, ct13, eq_self, iI_add, iI_sub, iI_mul, iI_nat, iI_eq, iI_lt, iI_le, iI_eq0, iI_lt0, ↓reduceIte, if_true, if_false, not_true_eq_false, not_false_eq_true, true_and, and_true, false_and, and_false, true_or, or_true, false_or, or_false, Int.reduceLT, Int.reduceLE, Int.reduceEq, Int.reduceAdd, Int.reduceSub, Int.reduceMul, Nat.reduceAdd, Nat.reduceLT, Nat.reduceEqDiff, Int.reduceNeg, nc_s, nc_0, Int.zero_add, Int.add_zero, oI_r, oI_w, oI_f0, oI_g0, oI_f1, oI_g1, oI_f2, oI_g2, oI_f3, oI_g3, oI_f4, oI_g4, oI_f5, oI_g5, oI_f6, oI_g6, oI_f7, oI_g7, oI_f8, oI_g8, oI_f9, oI_g9, oI_f10, oI_g10, oI_f11, oI_g11, oI_f12, oI_g12, oI_f13, oI_g13, oI_f14, oI_g14, oI_f15, oI_g15, oI_f16, oI_g16, oI_f17, oI_g17, oI_f18, oI_g18, oI_f19, oI_g19, oI_f20, oI_g20, oI_f21, oI_g21, oI_f22, oI_g22, oI_f23, oI_g23, oI_f24, oI_g24, oI_f25, oI_g25, ur_r, ur_o, ur_s, up_r, up_o, up_s, jI_add, jI_sub, jI_mul, jI_neg, jI_i, jI_n, lgc_j, cj_lt, cj_ge, cj_gt, cj_le, cj_eq, oL_r, oL_w, oL_f6, oL_g6, oL_f7, oL_g7, oL_f17, oL_g17, oL_f18, oL_g18, dl_T, dl_F, de_T, de_F, dle_T, dle_F, iI_divn, rem_n, nd_v, ct_s, Bool.false_eq_true]
    · refine ⟨w1, fun p hp => ?_, w3.trans r3, w4.trans r4, w5, w6, w7, fun j hj => ?_, fun p hp => ?_, fun b b1 b2 b3 b4 b5 => (w10 b b1 b2 b3 b4 b5).trans (r10 b b1 b2 b3 b4 b5), w11⟩
      · show J2 (a + 2) p = if p < ((k + 1 : Nat) : Int) ∧ ¬ up q.2.1 k 1 p = 0 then oOf S0 p else dOf S0 p
        rw [w2]
        by_cases e : p = k
        · subst e
          rw [up_r, up_r, if_pos ⟨by omega, by decide⟩]
        · rw [up_o e, up_o e, r2 p hp]
          by_cases cc : p < (k : Int) ∧ ¬ q.2.1 p = 0
          · rw [if_pos cc, if_pos ⟨by omega, cc.2⟩]
          · rw [if_neg cc, if_neg (fun y => cc ⟨by omega, y.2⟩)]
      · show J2 (a + 3) j = cnG (up q.2.1 k 1) (up q.2.2.2 k (bgS (tokL cs) q.1 k sky)) S0 (k + 1) j
        simp only [cnG]
        rw [up_r, up_r, if_neg (by decide), cnG_i (U' := q.2.1) (G' := q.2.2.2) k (fun i hi => by rw [up_o (by omega), up_o (by omega)]; exact ⟨rfl, fun _ => rfl⟩), w9]
        by_cases bg : bgS (tokL cs) q.1 k sky = 0
        · rw [if_pos bg, if_pos bg, Int.add_zero]; exact r8 j hj
        · rw [if_neg bg, if_neg bg]
          by_cases e : j = oOf S0 k
          · rw [e, up_r, if_pos rfl, r8 _ (by rw [← e]; exact hj)]
          · rw [up_o e, if_neg (fun y => e y.symm), Int.add_zero]; exact r8 j hj
      · show (iI (J2 a 8) &&& wyS S0 p = iI 0) ↔ alS S0 (up q.2.1 k 1) (up q.2.2.1 k (tkS q.1 (tokL cs) k sky)) p (k + 1) = 0
        have ea := alS_01 S0 q.2.1 q.2.2.1 p k
        have r9p := r9 p hp
        simp only [alS]
        rw [alS_u (Nat.le_refl _), up_r, up_r, w8]
        by_cases tk0 : tkS q.1 (tokL cs) k sky = 0
        · rw [if_pos tk0]
          by_cases al : alS S0 q.2.1 q.2.2.1 p k = 0
          · rw [if_pos al, if_neg (by decide), if_pos tk0]
            exact ⟨fun _ => rfl, fun _ => r9p.mpr al⟩
          · rw [if_neg al]
            exact ⟨fun y => absurd (r9p.mp y) al, fun y => absurd y (by decide)⟩
        · rw [if_neg tk0, bits_wy ho hp (by omega)]
          by_cases al : alS S0 q.2.1 q.2.2.1 p k = 0
          · rw [if_pos al, if_neg (by decide), if_neg tk0]
            by_cases dd : dOf S0 k = dOf S0 p
            · by_cases o2 : oOf S0 k = oOf S0 p
              · rw [if_pos dd, if_pos o2]
                exact ⟨fun y => absurd ⟨dd, o2⟩ y.2, fun y => absurd y (by decide)⟩
              · rw [if_pos dd, if_neg o2]
                exact ⟨fun _ => rfl, fun _ => ⟨r9p.mpr al, fun y => o2 y.2⟩⟩
            · rw [if_neg dd]
              exact ⟨fun _ => rfl, fun _ => ⟨r9p.mpr al, fun y => dd y.1⟩⟩
          · rw [if_neg al]
            exact ⟨fun y => absurd (r9p.mp y.1) al, fun y => absurd y (by decide)⟩
  · rw [if_neg c]
    refine ⟨J1, some (.ref x), some (.int (iI (S0 (174 + (k : Int))))), ?_, ?_⟩
    · refine Eq.trans ?_ (s58_69 ..)
      simp (disch := first | omega | exact hJ _ _ | exact rJ_g hJ _ _ | (simp (disch := omega) only [ur_r, ur_o, up_r, up_o]; omega) | assumption) only [s58_12, s58_13, s58_13v, s58_14, b58_17, s58_20, s58_20v, s58_21, s58_24, s58_25, s58_26, s58_26n, s58_26v, s58_28, s58_28v, s58_29, s58_32, s58_33, s58_34, s58_36, s58_36v, s58_38, s58_38n, s58_41, b58_43, s58_46, s58_46v, s58_47, s58_50, s58_52, b58_53, s58_56, s58_56v, s58_57, s58_57v, s58_59, s58_59v, s58_60, s58_63, s58_66, n1, n4, n5, n6, hJ15, a106, a107, eR, hJst, hw.t0, r3, v_s, tx0, kl_i, kl_r, kl_l, kl_n, kl_z, bd_s, tl_s, tl_n, ap_c, ap_n, v_s, v_n, nd_1, nd_0, ct13, eq_self, iI_add, iI_sub, iI_mul, iI_nat, iI_eq, iI_lt, iI_le, iI_eq0, iI_lt0, ↓reduceIte, if_true, if_false, not_true_eq_false, not_false_eq_true, true_and, and_true, false_and, and_false, true_or, or_true, false_or, or_false, Int.reduceLT, Int.reduceLE, Int.reduceEq, Int.reduceAdd, Int.reduceSub, Int.reduceMul, Nat.reduceAdd, Nat.reduceLT, Nat.reduceEqDiff, Int.reduceNeg, nc_s, nc_0, Int.zero_add, Int.add_zero, oI_r, oI_w, oI_f0, oI_g0, oI_f1, oI_g1, oI_f2, oI_g2, oI_f3, oI_g3, oI_f4, oI_g4, oI_f5, oI_g5, oI_f6, oI_g6, oI_f7, oI_g7, oI_f8, oI_g8, oI_f9, oI_g9, oI_f10, oI_g10, oI_f11, oI_g11, oI_f12, oI_g12, oI_f13, oI_g13, oI_f14, oI_g14, oI_f15, oI_g15, oI_f16, oI_g16, oI_f17, oI_g17, oI_f18, oI_g18, oI_f19, oI_g19, oI_f20, oI_g20, oI_f21, oI_g21, oI_f22, oI_g22, oI_f23, oI_g23, oI_f24, oI_g24, oI_f25, oI_g25, ur_r, ur_o, ur_s, up_r, up_o, up_s, jI_add, jI_sub, jI_mul, jI_neg, jI_i, jI_n, lgc_j, cj_lt, cj_ge, cj_gt, cj_le, cj_eq, oL_r, oL_w, oL_f6, oL_g6, oL_f7, oL_g7, oL_f17, oL_g17, oL_f18, oL_g18, dl_T, dl_F, de_T, de_F, dle_T, dle_F, iI_divn, rem_n, nd_v, ct_s, Bool.false_eq_true]
    · refine ⟨r1, fun p hp => ?_, r3, r4, r5, r6, r7, fun j hj => ?_, fun p hp => ?_, r10, r11⟩
      · show J1 (a + 2) p = if p < ((k + 1 : Nat) : Int) ∧ ¬ up q.2.1 k 0 p = 0 then oOf S0 p else dOf S0 p
        rw [r2 p hp]
        by_cases e : p = k
        · subst e
          rw [up_r, if_neg (by omega), if_neg (fun y => y.2 rfl)]
        · rw [up_o e]
          by_cases cc : p < (k : Int) ∧ ¬ q.2.1 p = 0
          · rw [if_pos cc, if_pos ⟨by omega, cc.2⟩]
          · rw [if_neg cc, if_neg (fun y => cc ⟨by omega, y.2⟩)]
      · show J1 (a + 3) j = cnG (up q.2.1 k 0) q.2.2.2 S0 (k + 1) j
        simp only [cnG]
        rw [up_r, if_pos rfl, Int.add_zero, cnG_i (U' := q.2.1) (G' := q.2.2.2) k (fun i hi => by rw [up_o (by omega)]; exact ⟨rfl, fun _ => rfl⟩)]
        exact r8 j hj
      · show (iI (J1 a 8) &&& wyS S0 p = iI 0) ↔ alS S0 (up q.2.1 k 0) q.2.2.1 p (k + 1) = 0
        have r9p := r9 p hp
        simp only [alS]
        rw [alS_u' (Nat.le_refl _), up_r, if_pos rfl]
        by_cases al : alS S0 q.2.1 q.2.2.1 p k = 0
        · rw [if_pos al]; exact ⟨fun _ => rfl, fun _ => r9p.mpr al⟩
        · rw [if_neg al]; exact ⟨fun y => absurd (r9p.mp y) al, fun y => absurd y (by decide)⟩
end CH
