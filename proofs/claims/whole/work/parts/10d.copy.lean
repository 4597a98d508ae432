/-! the class: a state copied from another -/
section CC
variable {d : Nat} {T : Nat → Nat × Nat} {I : Nat → Nat → Int32} {L : Nat → Nat → Int64} {R : Nat → Nat → Option Nat} {z w : Nat} {J Q : mR} {t b c : Nat} {S : Int → Int} {cs : List CL}
/-- a state's cells -/
def stc (T : Nat → Nat × Nat) (R : Nat → Nat → Option Nat) (b : Nat) : Prop := T b = (7, 0) ∧ T (b + 5) = (25, 6) ∧ T (b + 6) = (20, 6) ∧ T (b + 14) = (22, 120) ∧ T (b + 15) = (20, 20) ∧ T (b + 16) = (20, 10) ∧ T (b + 17) = (20, 10) ∧ R b 0 = some (b + 1) ∧ R b 1 = some (b + 5) ∧ R b 2 = some (b + 6) ∧ R b 6 = some (b + 14) ∧ R b 8 = some (b + 15) ∧ R b 10 = some (b + 16) ∧ R b 11 = some (b + 17) ∧ wc T R (b + 1)
theorem cM.s101 (h : cM T R) : stc T R 101 := ⟨h.t101, h.t106, h.t107, h.t115, h.t116, h.t117, h.t118, h.r101_0, h.r101_1, h.r101_2, h.r101_6, h.r101_8, h.r101_10, h.r101_11, h.w102⟩
theorem cM.s119 (h : cM T R) : stc T R 119 := ⟨h.t119, h.t124, h.t125, h.t133, h.t134, h.t135, h.t136, h.r119_0, h.r119_1, h.r119_2, h.r119_6, h.r119_8, h.r119_10, h.r119_11, h.w120⟩
theorem stc.t0 (h : stc T R b) : T b = (7, 0) := h.1
theorem stc.t5 (h : stc T R b) : T (b + 5) = (25, 6) := h.2.1
theorem stc.t6 (h : stc T R b) : T (b + 6) = (20, 6) := h.2.2.1
theorem stc.t14 (h : stc T R b) : T (b + 14) = (22, 120) := h.2.2.2.1
theorem stc.t15 (h : stc T R b) : T (b + 15) = (20, 20) := h.2.2.2.2.1
theorem stc.t16 (h : stc T R b) : T (b + 16) = (20, 10) := h.2.2.2.2.2.1
theorem stc.t17 (h : stc T R b) : T (b + 17) = (20, 10) := h.2.2.2.2.2.2.1
theorem stc.r0 (h : stc T R b) : R b 0 = some (b + 1) := h.2.2.2.2.2.2.2.1
theorem stc.r1 (h : stc T R b) : R b 1 = some (b + 5) := h.2.2.2.2.2.2.2.2.1
theorem stc.r2 (h : stc T R b) : R b 2 = some (b + 6) := h.2.2.2.2.2.2.2.2.2.1
theorem stc.r6 (h : stc T R b) : R b 6 = some (b + 14) := h.2.2.2.2.2.2.2.2.2.2.1
theorem stc.r8 (h : stc T R b) : R b 8 = some (b + 15) := h.2.2.2.2.2.2.2.2.2.2.2.1
theorem stc.r10 (h : stc T R b) : R b 10 = some (b + 16) := h.2.2.2.2.2.2.2.2.2.2.2.2.1
theorem stc.r11 (h : stc T R b) : R b 11 = some (b + 17) := h.2.2.2.2.2.2.2.2.2.2.2.2.2.1
theorem stc.wd (h : stc T R b) : wc T R (b + 1) := h.2.2.2.2.2.2.2.2.2.2.2.2.2.2
/-- a null put into a row of references -/
theorem cf_30n (l0 l1 l2 : Option Value) (x0 : Int32) (a0 : Nat) (st : List Value) : rn_r d 19 30 [l0, l1, l2] (.null :: .int x0 :: .ref a0 :: st) (T, I, L, R, z, w) = if am_arr T [24, 25] a0 x0 = true then rn_r d 19 31 [l0, l1, l2] st (T, I, L, am_u R a0 x0.toNatClampNeg none, z, w) else none := rn_nextIf (p := am_arr T [24, 25] a0 x0 = true) (dp := inferInstance) m19 dX6_copyFrom_30 (Or.inl rfl) rfl
def crR (R : Nat → Nat → Option Nat) (b c n : Nat) : Nat → Nat → Option Nat := fun a k => if a = b + 5 ∧ k < n then R (c + 5) k else R a k
theorem crR_0 : crR R b c 0 = R := by funext a k; unfold crR; rw [if_neg (by omega)]
theorem crR_s {n : Nat} (h : ¬ b = c) : am_u (crR R b c n) (b + 5) n (R (c + 5) n) = crR R b c (n + 1) := by
  funext a k
  unfold am_u crR
  by_cases e : a = b + 5 ∧ k = n
  · obtain ⟨rfl, rfl⟩ := e
    rw [if_pos ⟨rfl, rfl⟩, if_pos ⟨rfl, by omega⟩]
  · rw [if_neg e]
    by_cases e2 : a = b + 5 ∧ k < n
    · rw [if_pos e2, if_pos ⟨e2.1, by omega⟩]
    · rw [if_neg e2, if_neg (by omega)]
theorem crR_o {n a k : Nat} (h : ¬ a = b + 5) : crR R b c n a k = R a k := by unfold crR; rw [if_neg (by omega)]
theorem cpy_J {J : mR} {s t n : Nat} : am_cpy (oI J) s 0 t 0 n = oI (ur J t (cp9 (J t) (J s) (n : Int))) := by
  funext a j
  unfold am_cpy oI ur cp9
  by_cases e : a = t
  · subst e
    rw [if_pos rfl]
    by_cases e2 : j < n
    · rw [if_pos ⟨rfl, by omega, by omega⟩, if_pos ⟨by omega, by omega⟩]
      congr 2
      omega
    · rw [if_neg (by omega), if_neg (by omega)]
  · rw [if_neg (fun q => e q.1), if_neg e]
/-- one of the people, or none, goes over -/
theorem cf_step (h : stc T R b) (g : stc T R c) (hbc : b + 17 < c ∨ c + 17 < b) (hq : ∀ k x, k < 6 → R (c + 5) k = some x → [1, 2, 3, 4, 5, 6, 10].contains (T x).1 = true) (n : Nat) (hn : n < 6) : rn_r d 19 13 [some (.ref b), some (.ref c), some (.int (iI n))] [] (T, oI J, L, crR R b c n, z, w) = rn_r d 19 13 [some (.ref b), some (.ref c), some (.int (iI (n + 1 : Nat)))] [] (T, oI (ur J (b + 6) (up (J (b + 6)) n (J (c + 6) n))), L, crR R b c (n + 1), z, w) := by
  have e1 : crR R b c n b 1 = some (b + 5) := (crR_o (by omega)).trans h.r1
  have e2 : crR R b c n b 2 = some (b + 6) := (crR_o (by omega)).trans h.r2
  have f1 : crR R b c n c 1 = some (c + 5) := (crR_o (by omega)).trans g.r1
  have f2 : crR R b c n c 2 = some (c + 6) := (crR_o (by omega)).trans g.r2
  have f5 : crR R b c n (c + 5) n = R (c + 5) n := crR_o (by omega)
  have a5 : am_arr T [24, 25] (c + 5) (iI n) = true := ar_ok g.t5 rfl (by decide) (by omega)
  have a5' : am_arr T [24, 25] (b + 5) (iI n) = true := ar_ok h.t5 rfl (by decide) (by omega)
  have b5 : am_arr T [25] (b + 5) (iI n) = true := ar_ok h.t5 rfl (by decide) (by omega)
  have n24 : am_arr T [24] (b + 5) (iI n) = false := by unfold am_arr; rw [h.t5]; rfl
  have a6 : am_arr T [20, 30] (c + 6) (iI n) = true := ar_ok g.t6 rfl (by decide) (by omega)
  have b6 : am_arr T [20] (b + 6) (iI n) = true := ar_ok h.t6 rfl (by decide) (by omega)
  have tn : (iI (n : Int)).toNatClampNeg = n := by rw [iI_nat ⟨by omega, by omega⟩]; omega
  have s1 := crR_s (R := R) (n := n) (show ¬ b = c by omega)
  have en : (n : Int) + 1 = ((n + 1 : Nat) : Int) := by omega
  refine Eq.trans ?_ (s19_46 ..)
  rw [← en]
  cases ho : R (c + 5) n with
  | none =>
    rw [ho] at f5 s1
    have s1' : am_u (crR R b c n) (b + 5) n none = crR R b c (n + 1) := s1
    have e2' : crR R b c (n + 1) b 2 = some (b + 6) := (crR_o (by omega)).trans h.r2
    have f2' : crR R b c (n + 1) c 2 = some (c + 6) := (crR_o (by omega)).trans g.r2
    simp only [← nc_s] at en
    have tn' : (n : Int).toNat = n := by omega
    simp (disch := first | omega | exact hJ _ _ | exact rJ_g hJ _ _ | (simp (disch := omega) only [ur_r, ur_o, up_r, up_o]; omega) | assumption) only [s19_13, s19_14, b19_16, s19_19, s19_19v, s19_20, s19_23, s19_24, s19_24v, s19_25, s19_28, s19_29, s19_30, s19_31, s19_31v, s19_32, s19_35, s19_36, s19_36v, s19_37, s19_40, s19_41, s19_42, s19_43, cf_30n, h.t0, g.t0, e1, e2, f1, f2, e2', f2', f5, a5, a5', a6, b6, tn', oI_f, oI_g, v_s, v_n, s1', kl_i, kl_r, kl_l, kl_n, kl_z, bd_s, tl_s, tl_n, ap_c, ap_n, v_s, v_n, nd_1, nd_0, ct13, eq_self, iI_add, iI_sub, iI_mul, iI_nat, iI_eq, iI_lt, iI_le, iI_eq0, iI_lt0, ↓reduceIte, if_true, if_false, not_true_eq_false, not_false_eq_true, true_and, and_true, false_and, and_false, true_or, or_true, false_or, or_false, Int.reduceLT, Int.reduceLE, Int.reduceEq, Int.reduceAdd, Int.reduceSub, Int.reduceMul, Nat.reduceAdd, Nat.reduceLT, Nat.reduceEqDiff, Int.reduceNeg, nc_s, nc_0, Int.zero_add, Int.add_zero, oI_r, oI_w, oI_f0, oI_g0, oI_f1, oI_g1, oI_f2, oI_g2, oI_f3, oI_g3, oI_f4, oI_g4, oI_f5, oI_g5, oI_f6, oI_g6, oI_f7, oI_g7, oI_f8, oI_g8, oI_f9, oI_g9, oI_f10, oI_g10, oI_f11, oI_g11, oI_f12, oI_g12, oI_f13, oI_g13, oI_f14, oI_g14, oI_f15, oI_g15, oI_f16, oI_g16, oI_f17, oI_g17, oI_f18, oI_g18, oI_f19, oI_g19, oI_f20, oI_g20, oI_f21, oI_g21, oI_f22, oI_g22, oI_f23, oI_g23, oI_f24, oI_g24, oI_f25, oI_g25, ur_r, ur_o, ur_s, up_r, up_o, up_s, jI_add, jI_sub, jI_mul, jI_neg, jI_i, jI_n, lgc_j, cj_lt, cj_ge, cj_gt, cj_le, cj_eq, oL_r, oL_w, oL_f6, oL_g6, oL_f7, oL_g7, oL_f17, oL_g17, oL_f18, oL_g18, dl_T, dl_F, de_T, de_F, dle_T, dle_F, iI_divn, rem_n, nd_v, ct_s, Bool.false_eq_true]
  | some x =>
    rw [ho] at f5 s1
    have tg := hq n x hn ho
    have e2' : crR R b c (n + 1) b 2 = some (b + 6) := (crR_o (by omega)).trans h.r2
    have f2' : crR R b c (n + 1) c 2 = some (c + 6) := (crR_o (by omega)).trans g.r2
    have tn' : (n : Int).toNat = n := by omega
    simp (disch := first | omega | exact hJ _ _ | exact rJ_g hJ _ _ | (simp (disch := omega) only [ur_r, ur_o, up_r, up_o]; omega) | assumption) only [s19_13, s19_14, b19_16, s19_19, s19_19v, s19_20, s19_23, s19_24, s19_24v, s19_25, s19_28, s19_29, s19_30, s19_31, s19_31v, s19_32, s19_35, s19_36, s19_36v, s19_37, s19_40, s19_41, s19_42, s19_43, h.t0, g.t0, e1, e2, f1, f2, e2', f2', f5, a5, a5', b5, n24, tg, a6, b6, tn', oI_f, oI_g, v_s, v_n, s1, Bool.false_and, Bool.true_and, Bool.false_or, Bool.or_true, kl_i, kl_r, kl_l, kl_n, kl_z, bd_s, tl_s, tl_n, ap_c, ap_n, v_s, v_n, nd_1, nd_0, ct13, eq_self, iI_add, iI_sub, iI_mul, iI_nat, iI_eq, iI_lt, iI_le, iI_eq0, iI_lt0, ↓reduceIte, if_true, if_false, not_true_eq_false, not_false_eq_true, true_and, and_true, false_and, and_false, true_or, or_true, false_or, or_false, Int.reduceLT, Int.reduceLE, Int.reduceEq, Int.reduceAdd, Int.reduceSub, Int.reduceMul, Nat.reduceAdd, Nat.reduceLT, Nat.reduceEqDiff, Int.reduceNeg, nc_s, nc_0, Int.zero_add, Int.add_zero, oI_r, oI_w, oI_f0, oI_g0, oI_f1, oI_g1, oI_f2, oI_g2, oI_f3, oI_g3, oI_f4, oI_g4, oI_f5, oI_g5, oI_f6, oI_g6, oI_f7, oI_g7, oI_f8, oI_g8, oI_f9, oI_g9, oI_f10, oI_g10, oI_f11, oI_g11, oI_f12, oI_g12, oI_f13, oI_g13, oI_f14, oI_g14, oI_f15, oI_g15, oI_f16, oI_g16, oI_f17, oI_g17, oI_f18, oI_g18, oI_f19, oI_g19, oI_f20, oI_g20, oI_f21, oI_g21, oI_f22, oI_g22, oI_f23, oI_g23, oI_f24, oI_g24, oI_f25, oI_g25, ur_r, ur_o, ur_s, up_r, up_o, up_s, jI_add, jI_sub, jI_mul, jI_neg, jI_i, jI_n, lgc_j, cj_lt, cj_ge, cj_gt, cj_le, cj_eq, oL_r, oL_w, oL_f6, oL_g6, oL_f7, oL_g7, oL_f17, oL_g17, oL_f18, oL_g18, dl_T, dl_F, de_T, de_F, dle_T, dle_F, iI_divn, rem_n, nd_v, ct_s, Bool.false_eq_true]
theorem cf_loop (h : stc T R b) (g : stc T R c) (hbc : b + 17 < c ∨ c + 17 < b) (hq : ∀ k x, k < 6 → R (c + 5) k = some x → [1, 2, 3, 4, 5, 6, 10].contains (T x).1 = true) : ∀ n : Nat, n ≤ 6 → rn_r d 19 13 [some (.ref b), some (.ref c), some (.int (iI 0))] [] (T, oI J, L, R, z, w) = rn_r d 19 13 [some (.ref b), some (.ref c), some (.int (iI n))] [] (T, oI (ur J (b + 6) (cp9 (J (b + 6)) (J (c + 6)) n)), L, crR R b c n, z, w) := by
  intro n
  induction n with
  | zero => intro _; rw [crR_0]; simp only [nc_0]; rw [cp9_0, ur_e]
  | succ n ih =>
    intro hn
    rw [ih (by omega), cf_step h g hbc hq n (by omega), ur_r, ur_o (show ¬ c + 6 = b + 6 by omega), ur_s, cp9_s _ _ _ (by omega), nc_s]
/-- the rest of it -/
def c2J (J : mR) (b c : Nat) : mR := ur (ur (ur (ur (ur J b (up (up (up (up (up (J b) 3 (J c 3)) 5 (J c 5)) 7 (J c 7)) 9 (J c 9)) 12 (J c 12))) (b + 14) (cp9 (J (b + 14)) (J (c + 14)) 120)) (b + 15) (cp9 (J (b + 15)) (J (c + 15)) 20)) (b + 16) (cp9 (J (b + 16)) (J (c + 16)) 10)) (b + 17) (cp9 (J (b + 17)) (J (c + 17)) 10)
theorem cf_fit {J : mR} (hf : ∀ k, 0 ≤ k → k < 120 → fits .byte (.int (iI (J c k))) = true) {J' : mR} (e : J' c = J c) : ((List.range 120).all fun i => fits .byte (.int (oI J' c (0 + i)))) = true := by
  rw [List.all_eq_true]
  intro i hi
  have := List.mem_range.mp hi
  unfold oI
  rw [e]
  exact hf ((0 + i : Nat) : Int) (by omega) (by omega)
theorem i2n (n : Nat) (h : n < 1000) : (iI (n : Int)).toNatClampNeg = n := by rw [iI_nat ⟨by omega, by omega⟩]; omega
theorem cf_rest (h : stc T R b) (g : stc T R c) (hbc : b + 17 < c ∨ c + 17 < b) (hf : ∀ k, 0 ≤ k → k < 120 → fits .byte (.int (iI (J (c + 14) k))) = true) (ht : R c 4 = some t) (hT : 1 ≤ (T t).1 ∧ (T t).1 < 30) : rn_r (d + 1) 19 49 [some (.ref b), some (.ref c), some (.int (iI 6))] [] (T, oI J, L, R, z, w) = some (none, (T, oI (c2J J b c), L, am_u R b 4 (some t), z, w)) := by
  have n0 : (iI 0).toNatClampNeg = 0 := i2n 0 (by decide)
  have n120 : (iI 120).toNatClampNeg = 120 := i2n 120 (by decide)
  have n20 : (iI 20).toNatClampNeg = 20 := i2n 20 (by decide)
  have n10 : (iI 10).toNatClampNeg = 10 := i2n 10 (by decide)
  have ft : ∀ J' : mR, J' (c + 14) = J (c + 14) → ((List.range 120).all fun i => fits .byte (.int (oI J' (c + 14) (0 + i)))) = true := fun J' e => cf_fit hf e
  have q : ∀ a k, ¬ (a = b ∧ k = 4) → am_u R b 4 (some t) a k = R a k := fun a k e => by unfold am_u; rw [if_neg e]
  have q0 : am_u R b 4 (some t) b 6 = some (b + 14) := (q b 6 (by omega)).trans h.r6
  have q1 : am_u R b 4 (some t) b 8 = some (b + 15) := (q b 8 (by omega)).trans h.r8
  have q2 : am_u R b 4 (some t) b 10 = some (b + 16) := (q b 10 (by omega)).trans h.r10
  have q3 : am_u R b 4 (some t) b 11 = some (b + 17) := (q b 11 (by omega)).trans h.r11
  have p0 : am_u R b 4 (some t) c 6 = some (c + 14) := (q c 6 (by omega)).trans g.r6
  have p1 : am_u R b 4 (some t) c 8 = some (c + 15) := (q c 8 (by omega)).trans g.r8
  have p2 : am_u R b 4 (some t) c 10 = some (c + 16) := (q c 10 (by omega)).trans g.r10
  have p3 : am_u R b 4 (some t) c 11 = some (c + 17) := (q c 11 (by omega)).trans g.r11
  have ft1 := ft (ur J b (up (up (J b) 3 (J c 3)) 5 (J c 5))) (ur_o (by omega))
  have c120 : ((120 : Nat) : Int) = 120 := rfl
  have c20 : ((20 : Nat) : Int) = 20 := rfl
  have c10 : ((10 : Nat) : Int) = 10 := rfl
  have m0 : Int.toNat 0 = 0 := rfl
  have m120 : Int.toNat 120 = 120 := rfl
  have m20 : Int.toNat 20 = 20 := rfl
  have m10 : Int.toNat 10 = 10 := rfl
  unfold c2J
  simp (disch := first | omega | exact hJ _ _ | exact rJ_g hJ _ _ | (simp (disch := omega) only [ur_r, ur_o, up_r, up_o]; omega) | assumption) only [m0, m120, m20, m10, Nat.reduceLeDiff, Nat.le_refl, s19_49, s19_49v, s19_50, s19_50v, s19_51, s19_54, s19_57, s19_57v, s19_58, s19_58v, s19_59, s19_62, s19_62n, s19_65, s19_65v, s19_66, s19_66v, s19_67, s19_70, s19_73, s19_73v, s19_74, s19_77, s19_78, s19_78v, s19_79, s19_82, s19_83, s19_85, s19_88, s19_88v, s19_89, s19_89v, s19_90, s19_93, s19_96, s19_96v, s19_97, s19_100, s19_101, s19_101v, s19_102, s19_105, s19_106, s19_108, s19_111, s19_111v, s19_112, s19_112v, s19_113, s19_116, s19_119, s19_119v, s19_120, s19_123, s19_124, s19_124v, s19_125, s19_128, s19_129, s19_131, s19_134, s19_134v, s19_135, s19_138, s19_139, s19_139v, s19_140, s19_143, s19_144, s19_146, s19_149, s19_149v, s19_150, s19_150v, s19_151, s19_154, s19_157, h.t0, g.t0, h.r0, g.r0, ht, hT, q0, q1, q2, q3, p0, p1, p2, p3, h.t14, h.t15, h.t16, h.t17, g.t14, g.t15, g.t16, g.t17, v_s, ft1, cpy_J, c120, c20, c10, up_c, ur_c, kl_i, kl_r, kl_l, kl_n, kl_z, bd_s, tl_s, tl_n, ap_c, ap_n, v_s, v_n, nd_1, nd_0, ct13, eq_self, iI_add, iI_sub, iI_mul, iI_nat, iI_eq, iI_lt, iI_le, iI_eq0, iI_lt0, ↓reduceIte, if_true, if_false, not_true_eq_false, not_false_eq_true, true_and, and_true, false_and, and_false, true_or, or_true, false_or, or_false, Int.reduceLT, Int.reduceLE, Int.reduceEq, Int.reduceAdd, Int.reduceSub, Int.reduceMul, Nat.reduceAdd, Nat.reduceLT, Nat.reduceEqDiff, Int.reduceNeg, nc_s, nc_0, Int.zero_add, Int.add_zero, oI_r, oI_w, oI_f0, oI_g0, oI_f1, oI_g1, oI_f2, oI_g2, oI_f3, oI_g3, oI_f4, oI_g4, oI_f5, oI_g5, oI_f6, oI_g6, oI_f7, oI_g7, oI_f8, oI_g8, oI_f9, oI_g9, oI_f10, oI_g10, oI_f11, oI_g11, oI_f12, oI_g12, oI_f13, oI_g13, oI_f14, oI_g14, oI_f15, oI_g15, oI_f16, oI_g16, oI_f17, oI_g17, oI_f18, oI_g18, oI_f19, oI_g19, oI_f20, oI_g20, oI_f21, oI_g21, oI_f22, oI_g22, oI_f23, oI_g23, oI_f24, oI_g24, oI_f25, oI_g25, ur_r, ur_o, ur_s, up_r, up_o, up_s, jI_add, jI_sub, jI_mul, jI_neg, jI_i, jI_n, lgc_j, cj_lt, cj_ge, cj_gt, cj_le, cj_eq, oL_r, oL_w, oL_f6, oL_g6, oL_f7, oL_g7, oL_f17, oL_g17, oL_f18, oL_g18, dl_T, dl_F, de_T, de_F, dle_T, dle_F, iI_divn, rem_n, nd_v, ct_s, Bool.false_eq_true]
end CC
