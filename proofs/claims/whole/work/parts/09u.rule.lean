/-! the class: rule -/
section RU
variable {d : Nat} {T : Nat → Nat × Nat} {L : Nat → Nat → Int64} {R : Nat → Nat → Option Nat} {z w : Nat} {J Q : mR} {t : Nat} {S : Int → Int} {cs : List CL}
/-- who walks lies elsewhere -/
def xpl (t x : Nat) : Prop := ¬ (100 ≤ x ∧ x ≤ 107) ∧ ¬ (115 ≤ x ∧ x ≤ 118) ∧ ¬ (141 ≤ x ∧ x ≤ 192) ∧ ¬ (t ≤ x ∧ x ≤ t + 6)
theorem pc1.nz {x : Nat} {p : Int} (h : pc1 T J x S p) : ¬ (T x).1 = 0 := by
  rw [h.1]; unfold kT; simp only []
  repeat' split
  all_goals decide
theorem pc1.pl {x : Nat} {p : Int} (hM : cM T R) (hk : tc T R t) (h : pc1 T J x S p) : xpl t x := by
  obtain ⟨k1, k2, k3, k4, k5, k6, k7, _⟩ := hk
  refine ⟨fun q => ?_, fun q => ?_, fun q => ?_, fun q => ?_⟩
  · have : x = 100 ∨ x = 101 ∨ (102 ≤ x ∧ x ≤ 105) ∨ x = 106 ∨ x = 107 := by omega
    rcases this with e | e | e | e | e
    · exact h.ne (by rw [hM.t100]; decide) e
    · exact h.ne (by rw [hM.t101]; decide) e
    · rcases wrow hM (Or.inl e) with g | g <;> exact h.ne (b := x) (by omega) rfl
    · exact h.ne (by rw [hM.t106]; decide) e
    · exact h.ne (by rw [hM.t107]; decide) e
  · have : x = 115 ∨ x = 116 ∨ x = 117 ∨ x = 118 := by omega
    rcases this with e | e | e | e
    · exact h.ne (by rw [hM.t115]; decide) e
    · exact h.ne (by rw [hM.t116]; decide) e
    · exact h.ne (by rw [hM.t117]; decide) e
    · exact h.ne (by rw [hM.t118]; decide) e
  · rcases wrow hM (Or.inr q) with g | g <;> exact h.ne (b := x) (by omega) rfl
  · have : x = t ∨ x = t + 1 ∨ x = t + 2 ∨ x = t + 3 ∨ x = t + 4 ∨ x = t + 5 ∨ x = t + 6 := by omega
    rcases this with e | e | e | e | e | e | e
    · exact h.ne (by rw [k1]; decide) e
    · exact h.ne (by rw [k2]; decide) e
    · exact h.ne (by rw [k3]; decide) e
    · exact h.ne (by rw [k4]; decide) e
    · exact h.ne (by rw [k5]; decide) e
    · exact h.ne (by rw [k6]; decide) e
    · exact h.ne (by rw [k7]; decide) e
theorem cS_v (hM : cM T R) (h : cS T R J t cs S) (hT : oT S) {x : Nat} {p : Int} (hx : pc1 T J x S p) (hxr : R 106 p.toNat = some x) (hp : 0 ≤ p ∧ p < 6) (h15 : S 15 ≤ 6) (v : Int) : cS T R (ur J x (up (J x) 4 v)) t cs (up S (156 + p) v) := by
  obtain ⟨⟨h1, h2, h3, h4, h5, h6, h7⟩, ⟨n1, n2, n3, n4, n5⟩, hz⟩ := h
  obtain ⟨l1, l2, l3, l4⟩ := hx.pl hM h1.1
  have f : ∀ b, ¬ b = x → (ur J x (up (J x) 4 v)) b = J b := fun b hb => ur_o hb
  have tl : ∀ a b, 200 ≤ a → tlS (up S (156 + p) v) a b = tlS S a b := by
    intro a b ha
    unfold tlS
    rw [up_o (by omega)]
    split
    · rfl
    · have := hT.1
      rw [up_o (by omega)]
  obtain ⟨X, hX⟩ : ∃ X, X = ur J x (up (J x) 4 v) := ⟨_, rfl⟩
  rw [← hX] at f ⊢
  refine ⟨⟨?_, h2, ?_, ?_, ?_, ?_, h7⟩, ⟨fun j hj => ?_, fun q hq => ?_, ?_, ?_, fun j hj => ?_⟩, fun k hk j hj => ?_⟩
  · obtain ⟨f1, f2, f3, f4, f5, f6, f7⟩ := h1
    have ht : ∀ b, t ≤ b → b ≤ t + 6 → X b = J b := fun b b1 b2 => f b (by omega)
    refine ⟨f1, f2, fun h s a1 a2 a3 a4 => ?_, loR_x (ht t (by omega) (by omega)) (ht (t + 2) (by omega) (by omega)) (ht (t + 3) (by omega) (by omega)) (ht (t + 4) (by omega) (by omega)) (ht (t + 5) (by omega) (by omega)) cs 0 0 f4, ?_, ?_, fun j j0 j5 => ?_⟩
    · rw [ht (t + 1) (by omega) (by omega)]; exact f3 h s a1 a2 a3 a4
    · rw [ht t (by omega) (by omega)]; exact f5
    · rw [ht t (by omega) (by omega)]; exact f6
    · rw [ht (t + 6) (by omega) (by omega)]; exact f7 j j0 j5
  · refine ⟨fun q hq => ?_, ?_⟩
    · rw [up_o (by omega)] at hq
      obtain ⟨⟨y, y1, y2⟩, y3, y4⟩ := h3.1 q hq
      refine ⟨⟨y, y1, ?_⟩, ?_, ?_⟩
      · obtain ⟨q1, q2, q3, q4, q5, q6⟩ := id y2
        unfold pc1
        by_cases e : y = x
        · subst e
          have epq : p = q := by rw [← hx.2.2.1, q3]
          subst epq
          rw [hX, ur_r]
          simp (disch := omega) only [up_o, up_r]
          exact ⟨q1, q2, q3, q4, q5, trivial⟩
        · rw [f y e]
          have hpq : ¬ p = q := by
            intro epq
            subst epq
            rw [Int.toNat_natCast, y1] at hxr
            exact e (Option.some.inj hxr)
          simp (disch := omega) only [up_o]
          exact ⟨q1, q2, q3, q4, q5, q6⟩
      · rw [f 107 (by omega), up_o (by omega)]; exact y3
      · rw [up_o (by omega), up_o (by omega)]; exact y4
    · rw [f 101 (by omega), up_o (by omega)]; exact h3.2
  · rw [f t (by omega), tl _ _ (by omega)]; exact h4
  · rw [f t (by omega), tl _ _ (by omega)]; exact h5
  · rw [f t (by omega), tl _ _ (by omega)]; exact h6
  · rw [f 103 (by omega), up_o (by omega)]; exact n1 j hj
  · rw [f 104 (by omega)]
    rw [n2 q hq]; unfold dOf; simp (disch := omega) only [up_o]
  · rw [f 102 (by omega), up_o (by omega)]; exact n3
  · rw [f 102 (by omega), up_o (by omega)]; exact n4
  · rw [f 105 (by omega)]; exact n5 j hj
  · rw [f _ (by omega)]; exact hz k hk j hj
theorem qF.u {J1 : mR} {x : Nat} {V V' : Int → Int} (f : qF t (ur J x V) J1) (hx : xpl t x) : qF t (ur J x V') (ur J1 x V') := by
  obtain ⟨l1, l2, l3, l4⟩ := hx
  refine ⟨fun b b1 b2 => ?_, fun j j0 j5 => ?_, fun k hk j hj => ?_⟩
  · by_cases e : b = x
    · subst e; rw [ur_r, ur_r]
    · have := f.1 b b1 b2
      rw [ur_o e] at this
      rw [ur_o e, ur_o e]; exact this
  · rw [ur_o (by omega)]; exact f.2.1 j j0 j5
  · rw [ur_o (by omega)]; exact f.2.2 k hk j hj
theorem rl_loop (hM : cM T R) (ho : oR (tokL cs) S) (h : cS T R J t cs S) {x : Nat} (p : Int) (hx : pc1 T J x S p) (hxr : R 106 p.toNat = some x) (hp : 0 ≤ p ∧ p < 6) (n : Nat) (hn : n ≤ 6) : ∀ (m : Nat) (v b l : Int) (J0 Q : mR), v + m = 10 → 1 ≤ v → 0 ≤ b ∧ b ≤ 9 → 0 ≤ l ∧ l ≤ 500000000000 → (∃ v0, qF t (ur J x (up (J x) 4 v0)) J0) → ∃ J' Q' : mR, rn_r (d + 20) 76 41 [some (.ref 100), some (.int (iI p)), some (.int (iI n)), some (.ref x), some (.int (iI (S (156 + p)))), some (.int (iI b)), some (.long (jI l)), none, some (.int (iI v))] [] (T, oI J0, oL Q, R, z, w) = some (some (.int (iI (ruF (tokL cs) S p n m v b l))), (T, oI J', oL Q', R, z, w)) ∧ qF t J J' ∧ cF Q Q' := by
  have h15 := ho.1.2.2.2.2
  have hpl := hx.pl hM h.1.1.1
  have tg := hx.tg
  have x5 := hx.nz
  obtain ⟨l1, l2, l3, l4⟩ := id hpl
  intro m
  induction m with
  | zero =>
    intro v b l J0 Q hv hv1 hb hl ⟨v0, g⟩
    have ex : J0 x = up (J x) 4 v0 := by rw [g.1 x l3 (by omega), ur_r]
    have e1 : up (J0 x) 4 (S (156 + p)) = J x := by rw [ex, up_s, ← hx.2.2.2.2.2, up_e]
    have gu := g.u hpl (V' := J x)
    rw [ur_e] at gu
    refine ⟨ur J0 x (J x), Q, ?_, gu, cF.i⟩
    simp only [ruF]
    have hvr := (ho.1.1 p hp).2.2.2.2.2
    simp (disch := first | omega | exact hJ _ _ | exact rJ_g hJ _ _ | (simp (disch := omega) only [ur_r, ur_o, up_r, up_o]; omega) | assumption) only [s76_41, s76_43, b76_45, s76_97, s76_97v, s76_98, s76_100, s76_103, s76_105, tg, x5, e1, kl_i, kl_r, kl_l, kl_n, kl_z, bd_s, tl_s, tl_n, ap_c, ap_n, v_s, v_n, nd_1, nd_0, ct13, eq_self, iI_add, iI_sub, iI_mul, iI_nat, iI_eq, iI_lt, iI_le, iI_eq0, iI_lt0, ↓reduceIte, if_true, if_false, not_true_eq_false, not_false_eq_true, true_and, and_true, false_and, and_false, true_or, or_true, false_or, or_false, Int.reduceLT, Int.reduceLE, Int.reduceEq, Int.reduceAdd, Int.reduceSub, Int.reduceMul, Nat.reduceAdd, Nat.reduceLT, Nat.reduceEqDiff, Int.reduceNeg, nc_s, nc_0, Int.zero_add, Int.add_zero, oI_r, oI_w, oI_f0, oI_g0, oI_f1, oI_g1, oI_f2, oI_g2, oI_f3, oI_g3, oI_f4, oI_g4, oI_f5, oI_g5, oI_f6, oI_g6, oI_f7, oI_g7, oI_f8, oI_g8, oI_f9, oI_g9, oI_f10, oI_g10, oI_f11, oI_g11, oI_f12, oI_g12, oI_f13, oI_g13, oI_f14, oI_g14, oI_f15, oI_g15, oI_f16, oI_g16, oI_f17, oI_g17, oI_f18, oI_g18, oI_f19, oI_g19, oI_f20, oI_g20, oI_f21, oI_g21, oI_f22, oI_g22, oI_f23, oI_g23, oI_f24, oI_g24, oI_f25, oI_g25, ur_r, ur_o, ur_s, up_r, up_o, up_s, jI_add, jI_sub, jI_mul, jI_neg, jI_i, jI_n, lgc_j, cj_lt, cj_ge, cj_gt, cj_le, cj_eq, oL_r, oL_w, oL_f6, oL_g6, oL_f7, oL_g7, oL_f17, oL_g17, oL_f18, oL_g18, dl_T, dl_F, de_T, de_F, dle_T, dle_F, iI_divn, rem_n, nd_v, ct_s, Bool.false_eq_true]
  | succ m ih =>
    intro v b l J0 Q hv hv1 hb hl ⟨v0, g⟩
    have hv9 : 0 ≤ v ∧ v ≤ 9 := by omega
    obtain ⟨K, hK⟩ : ∃ K, K = ur J0 x (up (J0 x) 4 v) := ⟨_, rfl⟩
    have ex : J0 x = up (J x) 4 v0 := by rw [g.1 x l3 (by omega), ur_r]
    have gK : qF t (ur J x (up (J x) 4 v)) K := by
      have := g.u hpl (V' := up (J x) 4 v)
      rw [hK, ex, up_s]; exact this
    have hoV := oR_v (v := v) ho hp hv9
    have hSV := cS_v hM h ho.2.2.2.1 hx hxr hp h15.2 v
    have hSK := hSV.x hM hoV.2.2.2.1 gK
    have bg := c_begin (d := d + 18) (J := K) (Q := Q) (z := z) (w := w) hM
    obtain ⟨J2, Q2, hrun, hf, e6, e7, e8, hQ⟩ := c_think (d := d + 19) (Q := Q) (z := z) (w := w) hM hoV n (by omega) hSK (by omega)
    obtain ⟨r2, _⟩ := mnS_r hoV (n := n) (by omega)
    have g2 := gK.tr hf
    simp only [ruF]
    rw [hK] at bg hrun
    by_cases c : (mnS (tokL cs) n (up S (156 + p) v)).1 < l
    · obtain ⟨J3, Q3, hrun3, hf3, hQ3⟩ := ih (v + 1) v (mnS (tokL cs) n (up S (156 + p) v)).1 J2 Q2 (by omega) (by omega) (by omega) (by omega) ⟨_, g2⟩
      rw [if_pos c]
      refine ⟨J3, Q3, ?_, hf3, hQ.tr hQ3⟩
      refine Eq.trans ?_ ((s76_94 ..).trans hrun3)
      simp (disch := first | omega | exact hJ _ _ | exact rJ_g hJ _ _ | (simp (disch := omega) only [ur_r, ur_o, up_r, up_o]; omega) | assumption) only [s76_41, s76_43, b76_45, s76_48, s76_48v, s76_49, s76_51, s76_54, s76_54v, s76_55, s76_58, s76_59, s76_59v, s76_60, s76_61, s76_62, s76_63, s76_66, b76_68, s76_71, s76_71v, s76_72, s76_75, s76_77, s76_78, s76_81, s76_83, s76_85, s76_85v, s76_86, s76_89, s76_91, hM.t100, tg, x5, bg, hrun, e6, kl_i, kl_r, kl_l, kl_n, kl_z, bd_s, tl_s, tl_n, ap_c, ap_n, v_s, v_n, nd_1, nd_0, ct13, eq_self, iI_add, iI_sub, iI_mul, iI_nat, iI_eq, iI_lt, iI_le, iI_eq0, iI_lt0, ↓reduceIte, if_true, if_false, not_true_eq_false, not_false_eq_true, true_and, and_true, false_and, and_false, true_or, or_true, false_or, or_false, Int.reduceLT, Int.reduceLE, Int.reduceEq, Int.reduceAdd, Int.reduceSub, Int.reduceMul, Nat.reduceAdd, Nat.reduceLT, Nat.reduceEqDiff, Int.reduceNeg, nc_s, nc_0, Int.zero_add, Int.add_zero, oI_r, oI_w, oI_f0, oI_g0, oI_f1, oI_g1, oI_f2, oI_g2, oI_f3, oI_g3, oI_f4, oI_g4, oI_f5, oI_g5, oI_f6, oI_g6, oI_f7, oI_g7, oI_f8, oI_g8, oI_f9, oI_g9, oI_f10, oI_g10, oI_f11, oI_g11, oI_f12, oI_g12, oI_f13, oI_g13, oI_f14, oI_g14, oI_f15, oI_g15, oI_f16, oI_g16, oI_f17, oI_g17, oI_f18, oI_g18, oI_f19, oI_g19, oI_f20, oI_g20, oI_f21, oI_g21, oI_f22, oI_g22, oI_f23, oI_g23, oI_f24, oI_g24, oI_f25, oI_g25, ur_r, ur_o, ur_s, up_r, up_o, up_s, jI_add, jI_sub, jI_mul, jI_neg, jI_i, jI_n, lgc_j, cj_lt, cj_ge, cj_gt, cj_le, cj_eq, oL_r, oL_w, oL_f6, oL_g6, oL_f7, oL_g7, oL_f17, oL_g17, oL_f18, oL_g18, dl_T, dl_F, de_T, de_F, dle_T, dle_F, iI_divn, rem_n, nd_v, ct_s, Bool.false_eq_true]
    · obtain ⟨J3, Q3, hrun3, hf3, hQ3⟩ := ih (v + 1) b l J2 Q2 (by omega) (by omega) (by omega) (by omega) ⟨_, g2⟩
      rw [if_neg c]
      refine ⟨J3, Q3, ?_, hf3, hQ.tr hQ3⟩
      refine Eq.trans ?_ ((s76_94 ..).trans hrun3)
      simp (disch := first | omega | exact hJ _ _ | exact rJ_g hJ _ _ | (simp (disch := omega) only [ur_r, ur_o, up_r, up_o]; omega) | assumption) only [s76_41, s76_43, b76_45, s76_48, s76_48v, s76_49, s76_51, s76_54, s76_54v, s76_55, s76_58, s76_59, s76_59v, s76_60, s76_61, s76_62, s76_63, s76_66, b76_68, s76_71, s76_71v, s76_72, s76_75, s76_77, s76_78, s76_81, s76_83, s76_85, s76_85v, s76_86, s76_89, s76_91, hM.t100, tg, x5, bg, hrun, e6, kl_i, kl_r, kl_l, kl_n, kl_z, bd_s, tl_s, tl_n, ap_c, ap_n, v_s, v_n, nd_1, nd_0, ct13, eq_self, iI_add, iI_sub, iI_mul, iI_nat, iI_eq, iI_lt, iI_le, iI_eq0, iI_lt0, ↓reduceIte, if_true, if_false, not_true_eq_false, not_false_eq_true, true_and, and_true, false_and, and_false, true_or, or_true, false_or, or_false, Int.reduceLT, Int.reduceLE, Int.reduceEq, Int.reduceAdd, Int.reduceSub, Int.reduceMul, Nat.reduceAdd, Nat.reduceLT, Nat.reduceEqDiff, Int.reduceNeg, nc_s, nc_0, Int.zero_add, Int.add_zero, oI_r, oI_w, oI_f0, oI_g0, oI_f1, oI_g1, oI_f2, oI_g2, oI_f3, oI_g3, oI_f4, oI_g4, oI_f5, oI_g5, oI_f6, oI_g6, oI_f7, oI_g7, oI_f8, oI_g8, oI_f9, oI_g9, oI_f10, oI_g10, oI_f11, oI_g11, oI_f12, oI_g12, oI_f13, oI_g13, oI_f14, oI_g14, oI_f15, oI_g15, oI_f16, oI_g16, oI_f17, oI_g17, oI_f18, oI_g18, oI_f19, oI_g19, oI_f20, oI_g20, oI_f21, oI_g21, oI_f22, oI_g22, oI_f23, oI_g23, oI_f24, oI_g24, oI_f25, oI_g25, ur_r, ur_o, ur_s, up_r, up_o, up_s, jI_add, jI_sub, jI_mul, jI_neg, jI_i, jI_n, lgc_j, cj_lt, cj_ge, cj_gt, cj_le, cj_eq, oL_r, oL_w, oL_f6, oL_g6, oL_f7, oL_g7, oL_f17, oL_g17, oL_f18, oL_g18, dl_T, dl_F, de_T, de_F, dle_T, dle_F, iI_divn, rem_n, nd_v, ct_s, Bool.false_eq_true]
theorem rule_6z (l0 l1 l2 l4 l5 l6 l7 l8 : Option Value) (st : List Value) (I : Nat → Nat → Int32) (L : Nat → Nat → Int64) : rn_r d 76 6 [l0, l1, l2, some .null, l4, l5, l6, l7, l8] st (T, I, L, R, z, w) = rn_r d 76 7 [l0, l1, l2, some .null, l4, l5, l6, l7, l8] (.null :: st) (T, I, L, R, z, w) := s76_6v d l0 l1 l2 l4 l5 l6 l7 l8 none st T I L R z w
theorem c_rule (hM : cM T R) (ho : oR (tokL cs) S) (h : cS T R J t cs S) (p n : Int) (hp : i32 p) (hn : i32 n) : ∃ J' Q' : mR, rn_c (d + 21) 76 [.ref 100, .int (iI p), .int (iI n)] (T, oI J, oL Q, R, z, w) = some (some (.int (iI (ruleV (tokL cs) S p n))), (T, oI J', oL Q', R, z, w)) ∧ qF t J J' ∧ cF Q Q' := by
  have h15 := ho.1.2.2.2.2
  have pa := c_personAt (d := d + 20) (J := J) (L := oL Q) (z := z) (w := w) hM h.1.2.2.1 p hp h15
  by_cases c : 0 ≤ p ∧ p < S 15
  · obtain ⟨x, y1, hx, y3, y4, y5⟩ := cP1 hM h.1.2.2.1 p c h15.2
    rw [if_neg (by omega), if_neg (by omega), y1, v_s] at pa
    have tg := hx.tg
    have hp6 : 0 ≤ p ∧ p < 6 := by omega
    by_cases cn : 1 ≤ n ∧ n ≤ 6
    · have hnn : (n.toNat : Int) = n := by omega
      have hpl := hx.pl hM h.1.1.1
      obtain ⟨K, hK⟩ : ∃ K, K = ur J x (up (J x) 4 0) := ⟨_, rfl⟩
      have hoV := oR_v (v := 0) ho hp6 (by omega)
      have hSK := cS_v hM h ho.2.2.2.1 hx y1 hp6 h15.2 0
      rw [← hK] at hSK
      have bg := c_begin (d := d + 19) (J := K) (Q := Q) (z := z) (w := w) hM
      obtain ⟨J2, Q2, hrun, hf, e6, e7, e8, hQ⟩ := c_think (d := d + 20) (Q := Q) (z := z) (w := w) hM hoV n.toNat (by omega) hSK (by omega)
      obtain ⟨r2, _⟩ := mnS_r hoV (n := n.toNat) (by omega)
      rw [hK] at bg hrun hf
      rw [hnn] at hrun
      obtain ⟨J3, Q3, hrun3, hf3, hQ3⟩ := rl_loop (d := d + 1) (z := z) (w := w) hM ho h p hx y1 hp6 n.toNat (by omega) 9 1 0 (mnS (tokL cs) n.toNat (up S (156 + p) 0)).1 J2 Q2 (by omega) (by omega) (by omega) (by omega) ⟨0, hf⟩
      rw [hnn] at hrun3
      have hv := hx.2.2.2.2.2
      refine ⟨J3, Q3, ?_, hf3, hQ.tr hQ3⟩
      unfold ruleV
      rw [if_neg (by omega), if_neg (by omega), if_neg (by omega), if_neg (by omega)]
      refine Eq.trans ?_ ((s76_94 ..).trans hrun3)
      simp (disch := first | omega | exact hJ _ _ | exact rJ_g hJ _ _ | (simp (disch := omega) only [ur_r, ur_o, up_r, up_o]; omega) | assumption) only [c76, s76_0, s76_0v, s76_1, s76_2, s76_5, s76_5n, s76_5v, s76_6, s76_6v, s76_7, s76_7n, s76_10, s76_11, s76_12, s76_13, b76_14, s76_17, s76_18, b76_20, s76_23, s76_25, s76_26, s76_26v, s76_27, s76_30, s76_32, s76_33, s76_35, s76_36, s76_38, s76_39, s76_41, s76_43, b76_45, s76_48, s76_48v, s76_49, s76_51, s76_54, s76_54v, s76_55, s76_58, s76_59, s76_59v, s76_60, s76_61, s76_62, s76_63, s76_66, b76_68, s76_71, s76_71v, s76_72, s76_75, s76_77, s76_78, s76_81, s76_83, s76_85, s76_85v, s76_86, s76_89, s76_91, hM.t100, pa, tg, y5, bg, hrun, e6, hv, kl_i, kl_r, kl_l, kl_n, kl_z, bd_s, tl_s, tl_n, ap_c, ap_n, v_s, v_n, nd_1, nd_0, ct13, eq_self, iI_add, iI_sub, iI_mul, iI_nat, iI_eq, iI_lt, iI_le, iI_eq0, iI_lt0, ↓reduceIte, if_true, if_false, not_true_eq_false, not_false_eq_true, true_and, and_true, false_and, and_false, true_or, or_true, false_or, or_false, Int.reduceLT, Int.reduceLE, Int.reduceEq, Int.reduceAdd, Int.reduceSub, Int.reduceMul, Nat.reduceAdd, Nat.reduceLT, Nat.reduceEqDiff, Int.reduceNeg, nc_s, nc_0, Int.zero_add, Int.add_zero, oI_r, oI_w, oI_f0, oI_g0, oI_f1, oI_g1, oI_f2, oI_g2, oI_f3, oI_g3, oI_f4, oI_g4, oI_f5, oI_g5, oI_f6, oI_g6, oI_f7, oI_g7, oI_f8, oI_g8, oI_f9, oI_g9, oI_f10, oI_g10, oI_f11, oI_g11, oI_f12, oI_g12, oI_f13, oI_g13, oI_f14, oI_g14, oI_f15, oI_g15, oI_f16, oI_g16, oI_f17, oI_g17, oI_f18, oI_g18, oI_f19, oI_g19, oI_f20, oI_g20, oI_f21, oI_g21, oI_f22, oI_g22, oI_f23, oI_g23, oI_f24, oI_g24, oI_f25, oI_g25, ur_r, ur_o, ur_s, up_r, up_o, up_s, jI_add, jI_sub, jI_mul, jI_neg, jI_i, jI_n, lgc_j, cj_lt, cj_ge, cj_gt, cj_le, cj_eq, oL_r, oL_w, oL_f6, oL_g6, oL_f7, oL_g7, oL_f17, oL_g17, oL_f18, oL_g18, dl_T, dl_F, de_T, de_F, dle_T, dle_F, iI_divn, rem_n, nd_v, ct_s, Bool.false_eq_true]
    · refine ⟨J, Q, ?_, qF.i h, cF.i⟩
      unfold ruleV
      (simp (disch := first | omega | exact hJ _ _ | exact rJ_g hJ _ _ | (simp (disch := omega) only [ur_r, ur_o, up_r, up_o]; omega) | assumption) only [c76, s76_0, s76_0v, s76_1, s76_2, s76_5, s76_5n, s76_5v, s76_6, s76_6v, s76_7, s76_7n, s76_10, s76_11, s76_12, s76_13, b76_14, s76_17, s76_18, b76_20, s76_23, s76_25, hM.t100, pa, tg, y5, kl_i, kl_r, kl_l, kl_n, kl_z, bd_s, tl_s, tl_n, ap_c, ap_n, v_s, v_n, nd_1, nd_0, ct13, eq_self, iI_add, iI_sub, iI_mul, iI_nat, iI_eq, iI_lt, iI_le, iI_eq0, iI_lt0, ↓reduceIte, if_true, if_false, not_true_eq_false, not_false_eq_true, true_and, and_true, false_and, and_false, true_or, or_true, false_or, or_false, Int.reduceLT, Int.reduceLE, Int.reduceEq, Int.reduceAdd, Int.reduceSub, Int.reduceMul, Nat.reduceAdd, Nat.reduceLT, Nat.reduceEqDiff, Int.reduceNeg, nc_s, nc_0, Int.zero_add, Int.add_zero, oI_r, oI_w, oI_f0, oI_g0, oI_f1, oI_g1, oI_f2, oI_g2, oI_f3, oI_g3, oI_f4, oI_g4, oI_f5, oI_g5, oI_f6, oI_g6, oI_f7, oI_g7, oI_f8, oI_g8, oI_f9, oI_g9, oI_f10, oI_g10, oI_f11, oI_g11, oI_f12, oI_g12, oI_f13, oI_g13, oI_f14, oI_g14, oI_f15, oI_g15, oI_f16, oI_g16, oI_f17, oI_g17, oI_f18, oI_g18, oI_f19, oI_g19, oI_f20, oI_g20, oI_f21, oI_g21, oI_f22, oI_g22, oI_f23, oI_g23, oI_f24, oI_g24, oI_f25, oI_g25, ur_r, ur_o, ur_s, up_r, up_o, up_s, jI_add, jI_sub, jI_mul, jI_neg, jI_i, jI_n, lgc_j, cj_lt, cj_ge, cj_gt, cj_le, cj_eq, oL_r, oL_w, oL_f6, oL_g6, oL_f7, oL_g7, oL_f17, oL_g17, oL_f18, oL_g18, dl_T, dl_F, de_T, de_F, dle_T, dle_F, iI_divn, rem_n, nd_v, ct_s, Bool.false_eq_true]; repeat' (split <;> (try simp (disch := first | omega | exact hJ _ _ | exact rJ_g hJ _ _ | (simp (disch := omega) only [ur_r, ur_o, up_r, up_o]; omega) | assumption) only [c76, s76_0, s76_0v, s76_1, s76_2, s76_5, s76_5n, s76_5v, s76_6, s76_6v, s76_7, s76_7n, s76_10, s76_11, s76_12, s76_13, b76_14, s76_17, s76_18, b76_20, s76_23, s76_25, hM.t100, pa, tg, y5, kl_i, kl_r, kl_l, kl_n, kl_z, bd_s, tl_s, tl_n, ap_c, ap_n, v_s, v_n, nd_1, nd_0, ct13, eq_self, iI_add, iI_sub, iI_mul, iI_nat, iI_eq, iI_lt, iI_le, iI_eq0, iI_lt0, ↓reduceIte, if_true, if_false, not_true_eq_false, not_false_eq_true, true_and, and_true, false_and, and_false, true_or, or_true, false_or, or_false, Int.reduceLT, Int.reduceLE, Int.reduceEq, Int.reduceAdd, Int.reduceSub, Int.reduceMul, Nat.reduceAdd, Nat.reduceLT, Nat.reduceEqDiff, Int.reduceNeg, nc_s, nc_0, Int.zero_add, Int.add_zero, oI_r, oI_w, oI_f0, oI_g0, oI_f1, oI_g1, oI_f2, oI_g2, oI_f3, oI_g3, oI_f4, oI_g4, oI_f5, oI_g5, oI_f6, oI_g6, oI_f7, oI_g7, oI_f8, oI_g8, oI_f9, oI_g9, oI_f10, oI_g10, oI_f11, oI_g11, oI_f12, oI_g12, oI_f13, oI_g13, oI_f14, oI_g14, oI_f15, oI_g15, oI_f16, oI_g16, oI_f17, oI_g17, oI_f18, oI_g18, oI_f19, oI_g19, oI_f20, oI_g20, oI_f21, oI_g21, oI_f22, oI_g22, oI_f23, oI_g23, oI_f24, oI_g24, oI_f25, oI_g25, ur_r, ur_o, ur_s, up_r, up_o, up_s, jI_add, jI_sub, jI_mul, jI_neg, jI_i, jI_n, lgc_j, cj_lt, cj_ge, cj_gt, cj_le, cj_eq, oL_r, oL_w, oL_f6, oL_g6, oL_f7, oL_g7, oL_f17, oL_g17, oL_f18, oL_g18, dl_T, dl_F, de_T, de_F, dle_T, dle_F, iI_divn, rem_n, nd_v, ct_s, Bool.false_eq_true])))
  · refine ⟨J, Q, ?_, qF.i h, cF.i⟩
    have pa' : rn_c (d + 20) 90 [.ref 100, .int (iI p)] (T, oI J, oL Q, R, z, w) = some (some .null, (T, oI J, oL Q, R, z, w)) := by
      rw [pa]
      by_cases c0 : p < 0
      · rw [if_pos c0]
      · rw [if_neg c0, if_pos (by omega)]
    unfold ruleV
    by_cases c0 : p < 0
    · rw [if_pos c0]
      simp (disch := first | omega | exact hJ _ _ | exact rJ_g hJ _ _ | (simp (disch := omega) only [ur_r, ur_o, up_r, up_o]; omega) | assumption) only [s76_0, s76_0v, s76_1, s76_2, s76_5, s76_5n, s76_5v, s76_6, s76_6v, s76_7, s76_7n, s76_10, s76_11, c76, rule_6z, hM.t100, pa', kl_i, kl_r, kl_l, kl_n, kl_z, bd_s, tl_s, tl_n, ap_c, ap_n, v_s, v_n, nd_1, nd_0, ct13, eq_self, iI_add, iI_sub, iI_mul, iI_nat, iI_eq, iI_lt, iI_le, iI_eq0, iI_lt0, ↓reduceIte, if_true, if_false, not_true_eq_false, not_false_eq_true, true_and, and_true, false_and, and_false, true_or, or_true, false_or, or_false, Int.reduceLT, Int.reduceLE, Int.reduceEq, Int.reduceAdd, Int.reduceSub, Int.reduceMul, Nat.reduceAdd, Nat.reduceLT, Nat.reduceEqDiff, Int.reduceNeg, nc_s, nc_0, Int.zero_add, Int.add_zero, oI_r, oI_w, oI_f0, oI_g0, oI_f1, oI_g1, oI_f2, oI_g2, oI_f3, oI_g3, oI_f4, oI_g4, oI_f5, oI_g5, oI_f6, oI_g6, oI_f7, oI_g7, oI_f8, oI_g8, oI_f9, oI_g9, oI_f10, oI_g10, oI_f11, oI_g11, oI_f12, oI_g12, oI_f13, oI_g13, oI_f14, oI_g14, oI_f15, oI_g15, oI_f16, oI_g16, oI_f17, oI_g17, oI_f18, oI_g18, oI_f19, oI_g19, oI_f20, oI_g20, oI_f21, oI_g21, oI_f22, oI_g22, oI_f23, oI_g23, oI_f24, oI_g24, oI_f25, oI_g25, ur_r, ur_o, ur_s, up_r, up_o, up_s, jI_add, jI_sub, jI_mul, jI_neg, jI_i, jI_n, lgc_j, cj_lt, cj_ge, cj_gt, cj_le, cj_eq, oL_r, oL_w, oL_f6, oL_g6, oL_f7, oL_g7, oL_f17, oL_g17, oL_f18, oL_g18, dl_T, dl_F, de_T, de_F, dle_T, dle_F, iI_divn, rem_n, nd_v, ct_s, Bool.false_eq_true]
    · rw [if_neg c0, if_pos (by omega)]
      simp (disch := first | omega | exact hJ _ _ | exact rJ_g hJ _ _ | (simp (disch := omega) only [ur_r, ur_o, up_r, up_o]; omega) | assumption) only [s76_0, s76_0v, s76_1, s76_2, s76_5, s76_5n, s76_5v, s76_6, s76_6v, s76_7, s76_7n, s76_10, s76_11, c76, rule_6z, hM.t100, pa', kl_i, kl_r, kl_l, kl_n, kl_z, bd_s, tl_s, tl_n, ap_c, ap_n, v_s, v_n, nd_1, nd_0, ct13, eq_self, iI_add, iI_sub, iI_mul, iI_nat, iI_eq, iI_lt, iI_le, iI_eq0, iI_lt0, ↓reduceIte, if_true, if_false, not_true_eq_false, not_false_eq_true, true_and, and_true, false_and, and_false, true_or, or_true, false_or, or_false, Int.reduceLT, Int.reduceLE, Int.reduceEq, Int.reduceAdd, Int.reduceSub, Int.reduceMul, Nat.reduceAdd, Nat.reduceLT, Nat.reduceEqDiff, Int.reduceNeg, nc_s, nc_0, Int.zero_add, Int.add_zero, oI_r, oI_w, oI_f0, oI_g0, oI_f1, oI_g1, oI_f2, oI_g2, oI_f3, oI_g3, oI_f4, oI_g4, oI_f5, oI_g5, oI_f6, oI_g6, oI_f7, oI_g7, oI_f8, oI_g8, oI_f9, oI_g9, oI_f10, oI_g10, oI_f11, oI_g11, oI_f12, oI_g12, oI_f13, oI_g13, oI_f14, oI_g14, oI_f15, oI_g15, oI_f16, oI_g16, oI_f17, oI_g17, oI_f18, oI_g18, oI_f19, oI_g19, oI_f20, oI_g20, oI_f21, oI_g21, oI_f22, oI_g22, oI_f23, oI_g23, oI_f24, oI_g24, oI_f25, oI_g25, ur_r, ur_o, ur_s, up_r, up_o, up_s, jI_add, jI_sub, jI_mul, jI_neg, jI_i, jI_n, lgc_j, cj_lt, cj_ge, cj_gt, cj_le, cj_eq, oL_r, oL_w, oL_f6, oL_g6, oL_f7, oL_g7, oL_f17, oL_g17, oL_f18, oL_g18, dl_T, dl_F, de_T, de_F, dle_T, dle_F, iI_divn, rem_n, nd_v, ct_s, Bool.false_eq_true]
end RU
