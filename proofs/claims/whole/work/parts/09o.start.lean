/-! the class: start -/
section CS
variable {d : Nat} {T : Nat → Nat × Nat} {I : Nat → Nat → Int32} {L : Nat → Nat → Int64} {R : Nat → Nat → Option Nat} {z w : Nat} {J Q : mR} {t : Nat} {S : Int → Int} {cs : List CL} {sky : Int}
abbrev X4 : Type := Int × Int × Int × Int
def g4 (ts : List Int) (S : Int → Int) (n : Nat) (x : X4) : Int := (mnS ts n (s4 S x.1 x.2.1 x.2.2.1 x.2.2.2)).1
def st4 (g e : X4 → Int) (q : Int × Int) (x : X4) : Int × Int := if q.1 = -5 then (e x, g x) else if g x < q.2 then (e x, g x) else q
def e7 (x : X4) : Int := 343 * x.1 + 49 * x.2.1 + 7 * x.2.2.1 + x.2.2.2
def e10 (x : X4) : Int := x.1 * 1000 + x.2.1 * 100 + x.2.2.1 * 10 + x.2.2.2
def LR (a : Int) : Nat → Int → List X4
  | 0, _ => []
  | m + 1, r => if r / 343 + r / 49 % 7 + r / 7 % 7 + r % 7 = a then (r / 343, r / 49 % 7, r / 7 % 7, r % 7) :: LR a m (r + 1) else LR a m (r + 1)
def L2 (a s0 s1 : Int) : Nat → Int → List X4
  | 0, _ => []
  | m + 1, s2 => (s0, s1, s2, a - s0 - s1 - s2) :: L2 a s0 s1 m (s2 + 1)
def L1 (a s0 : Int) : Nat → Int → List X4
  | 0, _ => []
  | m + 1, s1 => L2 a s0 s1 (a - s0 - s1 + 1).toNat 0 ++ L1 a s0 m (s1 + 1)
def L0 (a : Int) : Nat → Int → List X4
  | 0, _ => []
  | m + 1, s0 => L1 a s0 (a - s0 + 1).toNat 0 ++ L0 a m (s0 + 1)
theorem L_eq : ∀ a : Nat, a ≤ 6 → L0 a (a + 1) 0 = LR a 2401 0 := by decide +kernel
theorem stF_l (ts : List Int) (S : Int → Int) (a : Int) (n : Nat) : ∀ (m : Nat) (r b l : Int), 0 ≤ r → r + m ≤ 2401 → stF ts S a n m r b l = ((LR a m r).foldl (st4 (g4 ts S n) e7) (b, l)).1 := by
  intro m
  induction m with
  | zero => intro r b l _ _; rfl
  | succ m ih =>
    intro r b l h0 h1
    simp only [stF, LR]
    by_cases c : r / 343 + r / 49 % 7 + r / 7 % 7 + r % 7 = a
    · rw [if_pos c, if_pos c, List.foldl_cons]
      have er : e7 (r / 343, r / 49 % 7, r / 7 % 7, r % 7) = r := by unfold e7; simp only []; omega
      have eg : g4 ts S n (r / 343, r / 49 % 7, r / 7 % 7, r % 7) = (mnS ts n (s7 S r)).1 := rfl
      unfold st4
      simp only [er, eg]
      by_cases c5 : b = -5
      · rw [if_pos c5, if_pos c5]; exact ih _ _ _ (by omega) (by omega)
      · rw [if_neg c5, if_neg c5]
        by_cases c6 : (mnS ts n (s7 S r)).1 < l
        · rw [if_pos c6, if_pos c6]; exact ih _ _ _ (by omega) (by omega)
        · rw [if_neg c6, if_neg c6]; exact ih _ _ _ (by omega) (by omega)
    · rw [if_neg c, if_neg c]; exact ih _ _ _ (by omega) (by omega)
def ok6 (x : X4) : Prop := (0 ≤ x.1 ∧ x.1 ≤ 6) ∧ (0 ≤ x.2.1 ∧ x.2.1 ≤ 6) ∧ (0 ≤ x.2.2.1 ∧ x.2.2.1 ≤ 6) ∧ (0 ≤ x.2.2.2 ∧ x.2.2.2 ≤ 6)
theorem st4_rel (g : X4 → Int) : ∀ (l : List X4) (q q' : Int × Int), (∀ x, x ∈ l → ok6 x) → (q.2 = q'.2 ∧ ((q.1 = -5 ∧ q'.1 = -5) ∨ ∃ x, ok6 x ∧ q.1 = e7 x ∧ q'.1 = e10 x)) → ((l.foldl (st4 g e7) q).1 = -5 ∧ (l.foldl (st4 g e10) q').1 = -5) ∨ ∃ x, ok6 x ∧ (l.foldl (st4 g e7) q).1 = e7 x ∧ (l.foldl (st4 g e10) q').1 = e10 x := by
  intro l
  induction l with
  | nil => intro q q' _ h; exact h.2
  | cons x l ih =>
    intro q q' hl h
    rw [List.foldl_cons, List.foldl_cons]
    have hx := hl x (List.mem_cons_self ..)
    refine ih _ _ (fun y hy => hl y (List.mem_cons_of_mem _ hy)) ?_
    obtain ⟨h2, h3⟩ := h
    unfold st4
    rcases h3 with ⟨a1, a2⟩ | ⟨y, y1, y2, y3⟩
    · rw [if_pos a1, if_pos a2]
      exact ⟨rfl, Or.inr ⟨x, hx, rfl, rfl⟩⟩
    · obtain ⟨o1, o2, o3, o4⟩ := y1
      have n1 : ¬ q.1 = -5 := by rw [y2]; unfold e7; omega
      have n2 : ¬ q'.1 = -5 := by rw [y3]; unfold e10; omega
      rw [if_neg n1, if_neg n2, h2]
      by_cases c : g x < q'.2
      · rw [if_pos c, if_pos c]; exact ⟨rfl, Or.inr ⟨x, hx, rfl, rfl⟩⟩
      · rw [if_neg c, if_neg c]; exact ⟨h2, Or.inr ⟨y, ⟨o1, o2, o3, o4⟩, y2, y3⟩⟩
theorem LR_ok (a : Int) (ha : 0 ≤ a ∧ a ≤ 6) : ∀ (m : Nat) (r : Int), 0 ≤ r → ∀ x, x ∈ LR a m r → ok6 x := by
  intro m
  induction m with
  | zero => intro r _ x hx; exact absurd hx (List.not_mem_nil)
  | succ m ih =>
    intro r h0 x hx
    simp only [LR] at hx
    split at hx
    · rename_i c
      rcases List.mem_cons.mp hx with rfl | hx
      · unfold ok6; simp only []; omega
      · exact ih (r + 1) (by omega) x hx
    · exact ih (r + 1) (by omega) x hx
def stnS (v k : Int) : Int := if k = 0 then v / 1000 else if k = 1 then v / 100 % 10 else if k = 2 then v / 10 % 10 else v % 10
theorem dg_eq {x : X4} (h : ok6 x) (k : Int) : dgS k (e7 x) = stnS (e10 x) k := by
  obtain ⟨a, b, c, e⟩ := x
  obtain ⟨h1, h2, h3, h4⟩ := h
  simp only [] at h1 h2 h3 h4
  have q1 : (343 * a + 49 * b + 7 * c + e) / 49 = 7 * a + b := by omega
  have q2 : (343 * a + 49 * b + 7 * c + e) / 7 = 49 * a + 7 * b + c := by omega
  have q3 : (343 * a + 49 * b + 7 * c + e) / 343 = a := by omega
  have q4 : (a * 1000 + b * 100 + c * 10 + e) / 100 = 10 * a + b := by omega
  have q5 : (a * 1000 + b * 100 + c * 10 + e) / 10 = 100 * a + 10 * b + c := by omega
  have q6 : (a * 1000 + b * 100 + c * 10 + e) / 1000 = a := by omega
  unfold dgS stnS e7 e10
  simp only []
  rw [q1, q2, q3, q4, q5, q6]
  clear q1 q2 q3 q4 q5 q6
  have r1 : (7 * a + b) % 7 = b := by omega
  have r2 : (49 * a + 7 * b + c) % 7 = c := by omega
  have r3 : (343 * a + 49 * b + 7 * c + e) % 7 = e := by omega
  have r4 : (10 * a + b) % 10 = b := by omega
  have r5 : (100 * a + 10 * b + c) % 10 = c := by omega
  have r6 : (a * 1000 + b * 100 + c * 10 + e) % 10 = e := by omega
  rw [r1, r2, r3, r4, r5, r6]
theorem c_standIn (v k : Int) (hv : 0 ≤ v ∧ v < 10000) (hk : 0 ≤ k ∧ k ≤ 3) : rn_c d 97 [.int (iI v), .int (iI k)] (T, I, L, R, z, w) = some (some (.int (iI (stnS v k))), (T, I, L, R, z, w)) := by
  unfold stnS
  (simp (disch := first | omega | exact hJ _ _ | exact rJ_g hJ _ _ | (simp (disch := omega) only [ur_r, ur_o, up_r, up_o]; omega) | assumption) only [c97, s97_0, b97_1, s97_28, s97_29, s97_32, s97_33, s97_34, s97_35, s97_37, s97_38, s97_40, s97_41, s97_42, s97_43, s97_45, s97_46, s97_48, s97_49, s97_50, s97_51, s97_53, s97_54, kl_i, kl_r, kl_l, kl_n, kl_z, bd_s, tl_s, tl_n, ap_c, ap_n, v_s, v_n, nd_1, nd_0, ct13, eq_self, iI_add, iI_sub, iI_mul, iI_nat, iI_eq, iI_lt, iI_le, iI_eq0, iI_lt0, ↓reduceIte, if_true, if_false, not_true_eq_false, not_false_eq_true, true_and, and_true, false_and, and_false, true_or, or_true, false_or, or_false, Int.reduceLT, Int.reduceLE, Int.reduceEq, Int.reduceAdd, Int.reduceSub, Int.reduceMul, Nat.reduceAdd, Nat.reduceLT, Nat.reduceEqDiff, Int.reduceNeg, nc_s, nc_0, Int.zero_add, Int.add_zero, oI_r, oI_w, oI_f0, oI_g0, oI_f1, oI_g1, oI_f2, oI_g2, oI_f3, oI_g3, oI_f4, oI_g4, oI_f5, oI_g5, oI_f6, oI_g6, oI_f7, oI_g7, oI_f8, oI_g8, oI_f9, oI_g9, oI_f10, oI_g10, oI_f11, oI_g11, oI_f12, oI_g12, oI_f13, oI_g13, oI_f14, oI_g14, oI_f15, oI_g15, oI_f16, oI_g16, oI_f17, oI_g17, oI_f18, oI_g18, oI_f19, oI_g19, oI_f20, oI_g20, oI_f21, oI_g21, oI_f22, oI_g22, oI_f23, oI_g23, oI_f24, oI_g24, oI_f25, oI_g25, ur_r, ur_o, ur_s, up_r, up_o, up_s, jI_add, jI_sub, jI_mul, jI_neg, jI_i, jI_n, lgc_j, cj_lt, cj_ge, cj_gt, cj_le, cj_eq, oL_r, oL_w, oL_f6, oL_g6, oL_f7, oL_g7, oL_f17, oL_g17, oL_f18, oL_g18, dl_T, dl_F, de_T, de_F, dle_T, dle_F, iI_divn, rem_n, nd_v, ct_s, Bool.false_eq_true]; repeat' (split <;> (try simp (disch := first | omega | exact hJ _ _ | exact rJ_g hJ _ _ | (simp (disch := omega) only [ur_r, ur_o, up_r, up_o]; omega) | assumption) only [c97, s97_0, b97_1, s97_28, s97_29, s97_32, s97_33, s97_34, s97_35, s97_37, s97_38, s97_40, s97_41, s97_42, s97_43, s97_45, s97_46, s97_48, s97_49, s97_50, s97_51, s97_53, s97_54, kl_i, kl_r, kl_l, kl_n, kl_z, bd_s, tl_s, tl_n, ap_c, ap_n, v_s, v_n, nd_1, nd_0, ct13, eq_self, iI_add, iI_sub, iI_mul, iI_nat, iI_eq, iI_lt, iI_le, iI_eq0, iI_lt0, ↓reduceIte, if_true, if_false, not_true_eq_false, not_false_eq_true, true_and, and_true, false_and, and_false, true_or, or_true, false_or, or_false, Int.reduceLT, Int.reduceLE, Int.reduceEq, Int.reduceAdd, Int.reduceSub, Int.reduceMul, Nat.reduceAdd, Nat.reduceLT, Nat.reduceEqDiff, Int.reduceNeg, nc_s, nc_0, Int.zero_add, Int.add_zero, oI_r, oI_w, oI_f0, oI_g0, oI_f1, oI_g1, oI_f2, oI_g2, oI_f3, oI_g3, oI_f4, oI_g4, oI_f5, oI_g5, oI_f6, oI_g6, oI_f7, oI_g7, oI_f8, oI_g8, oI_f9, oI_g9, oI_f10, oI_g10, oI_f11, oI_g11, oI_f12, oI_g12, oI_f13, oI_g13, oI_f14, oI_g14, oI_f15, oI_g15, oI_f16, oI_g16, oI_f17, oI_g17, oI_f18, oI_g18, oI_f19, oI_g19, oI_f20, oI_g20, oI_f21, oI_g21, oI_f22, oI_g22, oI_f23, oI_g23, oI_f24, oI_g24, oI_f25, oI_g25, ur_r, ur_o, ur_s, up_r, up_o, up_s, jI_add, jI_sub, jI_mul, jI_neg, jI_i, jI_n, lgc_j, cj_lt, cj_ge, cj_gt, cj_le, cj_eq, oL_r, oL_w, oL_f6, oL_g6, oL_f7, oL_g7, oL_f17, oL_g17, oL_f18, oL_g18, dl_T, dl_F, de_T, de_F, dle_T, dle_F, iI_divn, rem_n, nd_v, ct_s, Bool.false_eq_true])))
theorem b2_loop (hM : cM T R) (ho : oR (tokL cs) S) (n : Nat) (hn : n ≤ 5) (a s0 s1 : Int) (ha : 0 ≤ a ∧ a ≤ 6) (h0 : 0 ≤ s0) (h1 : 0 ≤ s1) (h01 : s0 + s1 ≤ a) : ∀ (m : Nat) (s2 b l : Int) (J Q : mR) (g9 : Option Value), s2 + m = a - s0 - s1 + 1 → 0 ≤ s2 → -5 ≤ b ∧ b < 10000 → 0 ≤ l ∧ l ≤ 500000000000 → cS T R J t cs S → ∃ (J' Q' : mR) (g : Option Value), rn_r (d + 19) 96 30 [some (.ref 100), some (.int (iI n)), some (.int (iI a)), some (.int (iI b)), some (.long (jI l)), none, some (.int (iI s0)), some (.int (iI s1)), some (.int (iI s2)), g9] [] (T, oI J, oL Q, R, z, w) = rn_r (d + 19) 96 126 [some (.ref 100), some (.int (iI n)), some (.int (iI a)), some (.int (iI ((L2 a s0 s1 m s2).foldl (st4 (g4 (tokL cs) S n) e10) (b, l)).1)), some (.long (jI ((L2 a s0 s1 m s2).foldl (st4 (g4 (tokL cs) S n) e10) (b, l)).2)), none, some (.int (iI s0)), some (.int (iI s1)), some (.int (iI (a - s0 - s1 + 1))), g] [] (T, oI J', oL Q', R, z, w) ∧ qF t J J' ∧ cF Q Q' ∧ (-5 ≤ ((L2 a s0 s1 m s2).foldl (st4 (g4 (tokL cs) S n) e10) (b, l)).1 ∧ ((L2 a s0 s1 m s2).foldl (st4 (g4 (tokL cs) S n) e10) (b, l)).1 < 10000) ∧ (0 ≤ ((L2 a s0 s1 m s2).foldl (st4 (g4 (tokL cs) S n) e10) (b, l)).2 ∧ ((L2 a s0 s1 m s2).foldl (st4 (g4 (tokL cs) S n) e10) (b, l)).2 ≤ 500000000000) := by
  intro m
  induction m with
  | zero =>
    intro s2 b l J Q g9 hs h2 hb hl h
    have es : a - s0 - s1 + 1 = s2 := by omega
    refine ⟨J, Q, g9, ?_, qF.i h, cF.i, hb, hl⟩
    simp only [L2, List.foldl_nil]
    rw [es]
    simp (disch := first | omega | exact hJ _ _ | exact rJ_g hJ _ _ | (simp (disch := omega) only [ur_r, ur_o, up_r, up_o]; omega) | assumption) only [s96_30, s96_32, s96_33, s96_35, s96_36, s96_38, b96_39, kl_i, kl_r, kl_l, kl_n, kl_z, bd_s, tl_s, tl_n, ap_c, ap_n, v_s, v_n, nd_1, nd_0, ct13, eq_self, iI_add, iI_sub, iI_mul, iI_nat, iI_eq, iI_lt, iI_le, iI_eq0, iI_lt0, ↓reduceIte, if_true, if_false, not_true_eq_false, not_false_eq_true, true_and, and_true, false_and, and_false, true_or, or_true, false_or, or_false, Int.reduceLT, Int.reduceLE, Int.reduceEq, Int.reduceAdd, Int.reduceSub, Int.reduceMul, Nat.reduceAdd, Nat.reduceLT, Nat.reduceEqDiff, Int.reduceNeg, nc_s, nc_0, Int.zero_add, Int.add_zero, oI_r, oI_w, oI_f0, oI_g0, oI_f1, oI_g1, oI_f2, oI_g2, oI_f3, oI_g3, oI_f4, oI_g4, oI_f5, oI_g5, oI_f6, oI_g6, oI_f7, oI_g7, oI_f8, oI_g8, oI_f9, oI_g9, oI_f10, oI_g10, oI_f11, oI_g11, oI_f12, oI_g12, oI_f13, oI_g13, oI_f14, oI_g14, oI_f15, oI_g15, oI_f16, oI_g16, oI_f17, oI_g17, oI_f18, oI_g18, oI_f19, oI_g19, oI_f20, oI_g20, oI_f21, oI_g21, oI_f22, oI_g22, oI_f23, oI_g23, oI_f24, oI_g24, oI_f25, oI_g25, ur_r, ur_o, ur_s, up_r, up_o, up_s, jI_add, jI_sub, jI_mul, jI_neg, jI_i, jI_n, lgc_j, cj_lt, cj_ge, cj_gt, cj_le, cj_eq, oL_r, oL_w, oL_f6, oL_g6, oL_f7, oL_g7, oL_f17, oL_g17, oL_f18, oL_g18, dl_T, dl_F, de_T, de_F, dle_T, dle_F, iI_divn, rem_n, nd_v, ct_s, Bool.false_eq_true]
  | succ m ih =>
    intro s2 b l J Q g9 hs h2 hb hl h
    have ho4 := oR_4 ho (a := s0) (b := s1) (c := s2) (e := a - s0 - s1 - s2) (by omega) (by omega) (by omega) (by omega)
    have bg := c_begin (d := d + 17) (J := J) (Q := Q) (z := z) (w := w) hM
    have ly := w_lay (d := d + 18) (J := bgJ J) (L := oL (zQ Q)) (R := R) (z := z) (w := w) (hM.wt 0 (by omega)) s0 s1 s2 (a - s0 - s1 - s2)
    simp only [Nat.mul_zero, Nat.add_zero, Nat.reduceAdd] at ly
    obtain ⟨J2, Q2, hrun, hf, e6, e7', hQ⟩ := c_think4 (d := d + 18) (Q := Q) (z := z) (w := w) hM ho n (by omega) h s0 s1 s2 (a - s0 - s1 - s2) ho4 (by omega)
    obtain ⟨r1, r2, _⟩ := mnS_r ho4 (n := n) (by omega)
    have wt0 := hM.wt 0 (by omega)
    have w0 : T 141 = (11, 0) := wt0.t0
    simp only [L2, List.foldl_cons]
    have eg : g4 (tokL cs) S n (s0, s1, s2, a - s0 - s1 - s2) = (mnS (tokL cs) n (s4 S s0 s1 s2 (a - s0 - s1 - s2))).1 := rfl
    have ee : e10 (s0, s1, s2, a - s0 - s1 - s2) = s0 * 1000 + s1 * 100 + s2 * 10 + (a - s0 - s1 - s2) := rfl
    unfold st4
    simp only [eg, ee]
    have key : ∀ b' l' : Int, -5 ≤ b' ∧ b' < 10000 → 0 ≤ l' ∧ l' ≤ 500000000000 → rn_r (d + 19) 96 30 [some (.ref 100), some (.int (iI n)), some (.int (iI a)), some (.int (iI b)), some (.long (jI l)), none, some (.int (iI s0)), some (.int (iI s1)), some (.int (iI s2)), g9] [] (T, oI J, oL Q, R, z, w) = rn_r (d + 19) 96 123 [some (.ref 100), some (.int (iI n)), some (.int (iI a)), some (.int (iI b')), some (.long (jI l')), none, some (.int (iI s0)), some (.int (iI s1)), some (.int (iI (s2 + 1))), some (.int (iI (a - s0 - s1 - s2)))] [] (T, oI J2, oL Q2, R, z, w) → ∃ (J' Q' : mR) (g : Option Value), rn_r (d + 19) 96 30 [some (.ref 100), some (.int (iI n)), some (.int (iI a)), some (.int (iI b)), some (.long (jI l)), none, some (.int (iI s0)), some (.int (iI s1)), some (.int (iI s2)), g9] [] (T, oI J, oL Q, R, z, w) = rn_r (d + 19) 96 126 [some (.ref 100), some (.int (iI n)), some (.int (iI a)), some (.int (iI ((L2 a s0 s1 m (s2 + 1)).foldl (st4 (g4 (tokL cs) S n) e10) (b', l')).1)), some (.long (jI ((L2 a s0 s1 m (s2 + 1)).foldl (st4 (g4 (tokL cs) S n) e10) (b', l')).2)), none, some (.int (iI s0)), some (.int (iI s1)), some (.int (iI (a - s0 - s1 + 1))), g] [] (T, oI J', oL Q', R, z, w) ∧ qF t J J' ∧ cF Q Q' ∧ (-5 ≤ ((L2 a s0 s1 m (s2 + 1)).foldl (st4 (g4 (tokL cs) S n) e10) (b', l')).1 ∧ ((L2 a s0 s1 m (s2 + 1)).foldl (st4 (g4 (tokL cs) S n) e10) (b', l')).1 < 10000) ∧ (0 ≤ ((L2 a s0 s1 m (s2 + 1)).foldl (st4 (g4 (tokL cs) S n) e10) (b', l')).2 ∧ ((L2 a s0 s1 m (s2 + 1)).foldl (st4 (g4 (tokL cs) S n) e10) (b', l')).2 ≤ 500000000000) := by
      intro b' l' hb' hl' hr
      obtain ⟨J3, Q3, g, hrun3, hf3, hQ3, q1, q2⟩ := ih (s2 + 1) b' l' J2 Q2 (some (.int (iI (a - s0 - s1 - s2)))) (by omega) (by omega) hb' hl' (h.x hM ho.2.2.2.1 hf)
      refine ⟨J3, Q3, g, ?_, hf.tr hf3, hQ.tr hQ3, q1, q2⟩
      rw [hr]
      exact (s96_123 ..).trans hrun3
    by_cases c5 : b = -5
    · rw [if_pos c5]
      refine key _ _ (by omega) r1 ?_
      simp (disch := first | omega | exact hJ _ _ | exact rJ_g hJ _ _ | (simp (disch := omega) only [ur_r, ur_o, up_r, up_o]; omega) | assumption) only [s96_30, s96_32, s96_33, s96_35, s96_36, s96_38, b96_39, s96_42, s96_43, s96_45, s96_46, s96_48, s96_49, s96_51, s96_52, s96_54, s96_54v, s96_55, s96_58, s96_60, s96_62, s96_64, s96_66, s96_69, s96_69v, s96_70, s96_71, s96_72, s96_73, s96_76, s96_77, b96_79, s96_82, s96_82v, s96_83, s96_86, s96_88, s96_89, s96_92, s96_94, s96_97, s96_98, s96_100, s96_102, s96_103, s96_104, s96_106, s96_108, s96_109, s96_110, s96_112, s96_113, s96_114, s96_114v, s96_115, s96_118, s96_120, hM.t100, bg, ly, w0, hrun, e6, kl_i, kl_r, kl_l, kl_n, kl_z, bd_s, tl_s, tl_n, ap_c, ap_n, v_s, v_n, nd_1, nd_0, ct13, eq_self, iI_add, iI_sub, iI_mul, iI_nat, iI_eq, iI_lt, iI_le, iI_eq0, iI_lt0, ↓reduceIte, if_true, if_false, not_true_eq_false, not_false_eq_true, true_and, and_true, false_and, and_false, true_or, or_true, false_or, or_false, Int.reduceLT, Int.reduceLE, Int.reduceEq, Int.reduceAdd, Int.reduceSub, Int.reduceMul, Nat.reduceAdd, Nat.reduceLT, Nat.reduceEqDiff, Int.reduceNeg, nc_s, nc_0, Int.zero_add, Int.add_zero, oI_r, oI_w, oI_f0, oI_g0, oI_f1, oI_g1, oI_f2, oI_g2, oI_f3, oI_g3, oI_f4, oI_g4, oI_f5, oI_g5, oI_f6, oI_g6, oI_f7, oI_g7, oI_f8, oI_g8, oI_f9, oI_g9, oI_f10, oI_g10, oI_f11, oI_g11, oI_f12, oI_g12, oI_f13, oI_g13, oI_f14, oI_g14, oI_f15, oI_g15, oI_f16, oI_g16, oI_f17, oI_g17, oI_f18, oI_g18, oI_f19, oI_g19, oI_f20, oI_g20, oI_f21, oI_g21, oI_f22, oI_g22, oI_f23, oI_g23, oI_f24, oI_g24, oI_f25, oI_g25, ur_r, ur_o, ur_s, up_r, up_o, up_s, jI_add, jI_sub, jI_mul, jI_neg, jI_i, jI_n, lgc_j, cj_lt, cj_ge, cj_gt, cj_le, cj_eq, oL_r, oL_w, oL_f6, oL_g6, oL_f7, oL_g7, oL_f17, oL_g17, oL_f18, oL_g18, dl_T, dl_F, de_T, de_F, dle_T, dle_F, iI_divn, rem_n, nd_v, ct_s, Bool.false_eq_true]
    · rw [if_neg c5]
      by_cases c6 : (mnS (tokL cs) n (s4 S s0 s1 s2 (a - s0 - s1 - s2))).1 < l
      · rw [if_pos c6]
        refine key _ _ (by omega) r1 ?_
        simp (disch := first | omega | exact hJ _ _ | exact rJ_g hJ _ _ | (simp (disch := omega) only [ur_r, ur_o, up_r, up_o]; omega) | assumption) only [s96_30, s96_32, s96_33, s96_35, s96_36, s96_38, b96_39, s96_42, s96_43, s96_45, s96_46, s96_48, s96_49, s96_51, s96_52, s96_54, s96_54v, s96_55, s96_58, s96_60, s96_62, s96_64, s96_66, s96_69, s96_69v, s96_70, s96_71, s96_72, s96_73, s96_76, s96_77, b96_79, s96_82, s96_82v, s96_83, s96_86, s96_88, s96_89, s96_92, s96_94, s96_97, s96_98, s96_100, s96_102, s96_103, s96_104, s96_106, s96_108, s96_109, s96_110, s96_112, s96_113, s96_114, s96_114v, s96_115, s96_118, s96_120, hM.t100, bg, ly, w0, hrun, e6, kl_i, kl_r, kl_l, kl_n, kl_z, bd_s, tl_s, tl_n, ap_c, ap_n, v_s, v_n, nd_1, nd_0, ct13, eq_self, iI_add, iI_sub, iI_mul, iI_nat, iI_eq, iI_lt, iI_le, iI_eq0, iI_lt0, ↓reduceIte, if_true, if_false, not_true_eq_false, not_false_eq_true, true_and, and_true, false_and, and_false, true_or, or_true, false_or, or_false, Int.reduceLT, Int.reduceLE, Int.reduceEq, Int.reduceAdd, Int.reduceSub, Int.reduceMul, Nat.reduceAdd, Nat.reduceLT, Nat.reduceEqDiff, Int.reduceNeg, nc_s, nc_0, Int.zero_add, Int.add_zero, oI_r, oI_w, oI_f0, oI_g0, oI_f1, oI_g1, oI_f2, oI_g2, oI_f3, oI_g3, oI_f4, oI_g4, oI_f5, oI_g5, oI_f6, oI_g6, oI_f7, oI_g7, oI_f8, oI_g8, oI_f9, oI_g9, oI_f10, oI_g10, oI_f11, oI_g11, oI_f12, oI_g12, oI_f13, oI_g13, oI_f14, oI_g14, oI_f15, oI_g15, oI_f16, oI_g16, oI_f17, oI_g17, oI_f18, oI_g18, oI_f19, oI_g19, oI_f20, oI_g20, oI_f21, oI_g21, oI_f22, oI_g22, oI_f23, oI_g23, oI_f24, oI_g24, oI_f25, oI_g25, ur_r, ur_o, ur_s, up_r, up_o, up_s, jI_add, jI_sub, jI_mul, jI_neg, jI_i, jI_n, lgc_j, cj_lt, cj_ge, cj_gt, cj_le, cj_eq, oL_r, oL_w, oL_f6, oL_g6, oL_f7, oL_g7, oL_f17, oL_g17, oL_f18, oL_g18, dl_T, dl_F, de_T, de_F, dle_T, dle_F, iI_divn, rem_n, nd_v, ct_s, Bool.false_eq_true]
      · rw [if_neg c6]
        refine key _ _ hb hl ?_
        simp (disch := first | omega | exact hJ _ _ | exact rJ_g hJ _ _ | (simp (disch := omega) only [ur_r, ur_o, up_r, up_o]; omega) | assumption) only [s96_30, s96_32, s96_33, s96_35, s96_36, s96_38, b96_39, s96_42, s96_43, s96_45, s96_46, s96_48, s96_49, s96_51, s96_52, s96_54, s96_54v, s96_55, s96_58, s96_60, s96_62, s96_64, s96_66, s96_69, s96_69v, s96_70, s96_71, s96_72, s96_73, s96_76, s96_77, b96_79, s96_82, s96_82v, s96_83, s96_86, s96_88, s96_89, s96_92, s96_94, s96_97, s96_98, s96_100, s96_102, s96_103, s96_104, s96_106, s96_108, s96_109, s96_110, s96_112, s96_113, s96_114, s96_114v, s96_115, s96_118, s96_120, hM.t100, bg, ly, w0, hrun, e6, kl_i, kl_r, kl_l, kl_n, kl_z, bd_s, tl_s, tl_n, ap_c, ap_n, v_s, v_n, nd_1, nd_0, ct13, eq_self, iI_add, iI_sub, iI_mul, iI_nat, iI_eq, iI_lt, iI_le, iI_eq0, iI_lt0, ↓reduceIte, if_true, if_false, not_true_eq_false, not_false_eq_true, true_and, and_true, false_and, and_false, true_or, or_true, false_or, or_false, Int.reduceLT, Int.reduceLE, Int.reduceEq, Int.reduceAdd, Int.reduceSub, Int.reduceMul, Nat.reduceAdd, Nat.reduceLT, Nat.reduceEqDiff, Int.reduceNeg, nc_s, nc_0, Int.zero_add, Int.add_zero, oI_r, oI_w, oI_f0, oI_g0, oI_f1, oI_g1, oI_f2, oI_g2, oI_f3, oI_g3, oI_f4, oI_g4, oI_f5, oI_g5, oI_f6, oI_g6, oI_f7, oI_g7, oI_f8, oI_g8, oI_f9, oI_g9, oI_f10, oI_g10, oI_f11, oI_g11, oI_f12, oI_g12, oI_f13, oI_g13, oI_f14, oI_g14, oI_f15, oI_g15, oI_f16, oI_g16, oI_f17, oI_g17, oI_f18, oI_g18, oI_f19, oI_g19, oI_f20, oI_g20, oI_f21, oI_g21, oI_f22, oI_g22, oI_f23, oI_g23, oI_f24, oI_g24, oI_f25, oI_g25, ur_r, ur_o, ur_s, up_r, up_o, up_s, jI_add, jI_sub, jI_mul, jI_neg, jI_i, jI_n, lgc_j, cj_lt, cj_ge, cj_gt, cj_le, cj_eq, oL_r, oL_w, oL_f6, oL_g6, oL_f7, oL_g7, oL_f17, oL_g17, oL_f18, oL_g18, dl_T, dl_F, de_T, de_F, dle_T, dle_F, iI_divn, rem_n, nd_v, ct_s, Bool.false_eq_true]
theorem b1_loop (hM : cM T R) (ho : oR (tokL cs) S) (n : Nat) (hn : n ≤ 5) (a s0 : Int) (ha : 0 ≤ a ∧ a ≤ 6) (h0 : 0 ≤ s0) (h01 : s0 ≤ a) : ∀ (m : Nat) (s1 b l : Int) (J Q : mR) (g8 g9 : Option Value), s1 + m = a - s0 + 1 → 0 ≤ s1 → -5 ≤ b ∧ b < 10000 → 0 ≤ l ∧ l ≤ 500000000000 → cS T R J t cs S → ∃ (J' Q' : mR) (f8 f9 : Option Value), rn_r (d + 19) 96 18 [some (.ref 100), some (.int (iI n)), some (.int (iI a)), some (.int (iI b)), some (.long (jI l)), none, some (.int (iI s0)), some (.int (iI s1)), g8, g9] [] (T, oI J, oL Q, R, z, w) = rn_r (d + 19) 96 132 [some (.ref 100), some (.int (iI n)), some (.int (iI a)), some (.int (iI ((L1 a s0 m s1).foldl (st4 (g4 (tokL cs) S n) e10) (b, l)).1)), some (.long (jI ((L1 a s0 m s1).foldl (st4 (g4 (tokL cs) S n) e10) (b, l)).2)), none, some (.int (iI s0)), some (.int (iI (a - s0 + 1))), f8, f9] [] (T, oI J', oL Q', R, z, w) ∧ qF t J J' ∧ cF Q Q' ∧ (-5 ≤ ((L1 a s0 m s1).foldl (st4 (g4 (tokL cs) S n) e10) (b, l)).1 ∧ ((L1 a s0 m s1).foldl (st4 (g4 (tokL cs) S n) e10) (b, l)).1 < 10000) ∧ (0 ≤ ((L1 a s0 m s1).foldl (st4 (g4 (tokL cs) S n) e10) (b, l)).2 ∧ ((L1 a s0 m s1).foldl (st4 (g4 (tokL cs) S n) e10) (b, l)).2 ≤ 500000000000) := by
  intro m
  induction m with
  | zero =>
    intro s1 b l J Q g8 g9 hs h1 hb hl h
    have es : a - s0 + 1 = s1 := by omega
    refine ⟨J, Q, g8, g9, ?_, qF.i h, cF.i, hb, hl⟩
    simp only [L1, List.foldl_nil]
    rw [es]
    simp (disch := first | omega | exact hJ _ _ | exact rJ_g hJ _ _ | (simp (disch := omega) only [ur_r, ur_o, up_r, up_o]; omega) | assumption) only [s96_18, s96_20, s96_21, s96_23, b96_24, kl_i, kl_r, kl_l, kl_n, kl_z, bd_s, tl_s, tl_n, ap_c, ap_n, v_s, v_n, nd_1, nd_0, ct13, eq_self, iI_add, iI_sub, iI_mul, iI_nat, iI_eq, iI_lt, iI_le, iI_eq0, iI_lt0, ↓reduceIte, if_true, if_false, not_true_eq_false, not_false_eq_true, true_and, and_true, false_and, and_false, true_or, or_true, false_or, or_false, Int.reduceLT, Int.reduceLE, Int.reduceEq, Int.reduceAdd, Int.reduceSub, Int.reduceMul, Nat.reduceAdd, Nat.reduceLT, Nat.reduceEqDiff, Int.reduceNeg, nc_s, nc_0, Int.zero_add, Int.add_zero, oI_r, oI_w, oI_f0, oI_g0, oI_f1, oI_g1, oI_f2, oI_g2, oI_f3, oI_g3, oI_f4, oI_g4, oI_f5, oI_g5, oI_f6, oI_g6, oI_f7, oI_g7, oI_f8, oI_g8, oI_f9, oI_g9, oI_f10, oI_g10, oI_f11, oI_g11, oI_f12, oI_g12, oI_f13, oI_g13, oI_f14, oI_g14, oI_f15, oI_g15, oI_f16, oI_g16, oI_f17, oI_g17, oI_f18, oI_g18, oI_f19, oI_g19, oI_f20, oI_g20, oI_f21, oI_g21, oI_f22, oI_g22, oI_f23, oI_g23, oI_f24, oI_g24, oI_f25, oI_g25, ur_r, ur_o, ur_s, up_r, up_o, up_s, jI_add, jI_sub, jI_mul, jI_neg, jI_i, jI_n, lgc_j, cj_lt, cj_ge, cj_gt, cj_le, cj_eq, oL_r, oL_w, oL_f6, oL_g6, oL_f7, oL_g7, oL_f17, oL_g17, oL_f18, oL_g18, dl_T, dl_F, de_T, de_F, dle_T, dle_F, iI_divn, rem_n, nd_v, ct_s, Bool.false_eq_true]
  | succ m ih =>
    intro s1 b l J Q g8 g9 hs h1 hb hl h
    obtain ⟨J2, Q2, g, hrun, hf, hQ, q1, q2⟩ := b2_loop (d := d) (z := z) (w := w) hM ho n hn a s0 s1 ha h0 h1 (by omega) (a - s0 - s1 + 1).toNat 0 b l J Q g9 (by omega) (by omega) hb hl h
    simp only [L1, List.foldl_append]
    generalize (L2 a s0 s1 (a - s0 - s1 + 1).toNat 0).foldl (st4 (g4 (tokL cs) S n) e10) (b, l) = q at *
    obtain ⟨b', l'⟩ := q
    obtain ⟨J3, Q3, f8, f9, hrun3, hf3, hQ3, q3, q4⟩ := ih (s1 + 1) b' l' J2 Q2 (some (.int (iI (a - s0 - s1 + 1)))) g (by omega) (by omega) q1 q2 (h.x hM ho.2.2.2.1 hf)
    refine ⟨J3, Q3, f8, f9, ?_, hf.tr hf3, hQ.tr hQ3, q3, q4⟩
    have st : rn_r (d + 19) 96 18 [some (.ref 100), some (.int (iI n)), some (.int (iI a)), some (.int (iI b)), some (.long (jI l)), none, some (.int (iI s0)), some (.int (iI s1)), g8, g9] [] (T, oI J, oL Q, R, z, w) = rn_r (d + 19) 96 30 [some (.ref 100), some (.int (iI n)), some (.int (iI a)), some (.int (iI b)), some (.long (jI l)), none, some (.int (iI s0)), some (.int (iI s1)), some (.int (iI 0)), g9] [] (T, oI J, oL Q, R, z, w) := by
      simp (disch := first | omega | exact hJ _ _ | exact rJ_g hJ _ _ | (simp (disch := omega) only [ur_r, ur_o, up_r, up_o]; omega) | assumption) only [s96_18, s96_20, s96_21, s96_23, b96_24, s96_27, s96_28, kl_i, kl_r, kl_l, kl_n, kl_z, bd_s, tl_s, tl_n, ap_c, ap_n, v_s, v_n, nd_1, nd_0, ct13, eq_self, iI_add, iI_sub, iI_mul, iI_nat, iI_eq, iI_lt, iI_le, iI_eq0, iI_lt0, ↓reduceIte, if_true, if_false, not_true_eq_false, not_false_eq_true, true_and, and_true, false_and, and_false, true_or, or_true, false_or, or_false, Int.reduceLT, Int.reduceLE, Int.reduceEq, Int.reduceAdd, Int.reduceSub, Int.reduceMul, Nat.reduceAdd, Nat.reduceLT, Nat.reduceEqDiff, Int.reduceNeg, nc_s, nc_0, Int.zero_add, Int.add_zero, oI_r, oI_w, oI_f0, oI_g0, oI_f1, oI_g1, oI_f2, oI_g2, oI_f3, oI_g3, oI_f4, oI_g4, oI_f5, oI_g5, oI_f6, oI_g6, oI_f7, oI_g7, oI_f8, oI_g8, oI_f9, oI_g9, oI_f10, oI_g10, oI_f11, oI_g11, oI_f12, oI_g12, oI_f13, oI_g13, oI_f14, oI_g14, oI_f15, oI_g15, oI_f16, oI_g16, oI_f17, oI_g17, oI_f18, oI_g18, oI_f19, oI_g19, oI_f20, oI_g20, oI_f21, oI_g21, oI_f22, oI_g22, oI_f23, oI_g23, oI_f24, oI_g24, oI_f25, oI_g25, ur_r, ur_o, ur_s, up_r, up_o, up_s, jI_add, jI_sub, jI_mul, jI_neg, jI_i, jI_n, lgc_j, cj_lt, cj_ge, cj_gt, cj_le, cj_eq, oL_r, oL_w, oL_f6, oL_g6, oL_f7, oL_g7, oL_f17, oL_g17, oL_f18, oL_g18, dl_T, dl_F, de_T, de_F, dle_T, dle_F, iI_divn, rem_n, nd_v, ct_s, Bool.false_eq_true]
    rw [st, hrun]
    refine Eq.trans ?_ ((s96_129 ..).trans hrun3)
    simp (disch := first | omega | exact hJ _ _ | exact rJ_g hJ _ _ | (simp (disch := omega) only [ur_r, ur_o, up_r, up_o]; omega) | assumption) only [s96_126, kl_i, kl_r, kl_l, kl_n, kl_z, bd_s, tl_s, tl_n, ap_c, ap_n, v_s, v_n, nd_1, nd_0, ct13, eq_self, iI_add, iI_sub, iI_mul, iI_nat, iI_eq, iI_lt, iI_le, iI_eq0, iI_lt0, ↓reduceIte, if_true, if_false, not_true_eq_false, not_false_eq_true, true_and, and_true, false_and, and_false, true_or, or_true, false_or, or_false, Int.reduceLT, Int.reduceLE, Int.reduceEq, Int.reduceAdd, Int.reduceSub, Int.reduceMul, Nat.reduceAdd, Nat.reduceLT, Nat.reduceEqDiff, Int.reduceNeg, nc_s, nc_0, Int.zero_add, Int.add_zero, oI_r, oI_w, oI_f0, oI_g0, oI_f1, oI_g1, oI_f2, oI_g2, oI_f3, oI_g3, oI_f4, oI_g4, oI_f5, oI_g5, oI_f6, oI_g6, oI_f7, oI_g7, oI_f8, oI_g8, oI_f9, oI_g9, oI_f10, oI_g10, oI_f11, oI_g11, oI_f12, oI_g12, oI_f13, oI_g13, oI_f14, oI_g14, oI_f15, oI_g15, oI_f16, oI_g16, oI_f17, oI_g17, oI_f18, oI_g18, oI_f19, oI_g19, oI_f20, oI_g20, oI_f21, oI_g21, oI_f22, oI_g22, oI_f23, oI_g23, oI_f24, oI_g24, oI_f25, oI_g25, ur_r, ur_o, ur_s, up_r, up_o, up_s, jI_add, jI_sub, jI_mul, jI_neg, jI_i, jI_n, lgc_j, cj_lt, cj_ge, cj_gt, cj_le, cj_eq, oL_r, oL_w, oL_f6, oL_g6, oL_f7, oL_g7, oL_f17, oL_g17, oL_f18, oL_g18, dl_T, dl_F, de_T, de_F, dle_T, dle_F, iI_divn, rem_n, nd_v, ct_s, Bool.false_eq_true]
theorem b0_loop (hM : cM T R) (ho : oR (tokL cs) S) (n : Nat) (hn : n ≤ 5) (a : Int) (ha : 0 ≤ a ∧ a ≤ 6) : ∀ (m : Nat) (s0 b l : Int) (J Q : mR) (g7 g8 g9 : Option Value), s0 + m = a + 1 → 0 ≤ s0 → -5 ≤ b ∧ b < 10000 → 0 ≤ l ∧ l ≤ 500000000000 → cS T R J t cs S → ∃ (J' Q' : mR), rn_r (d + 19) 96 9 [some (.ref 100), some (.int (iI n)), some (.int (iI a)), some (.int (iI b)), some (.long (jI l)), none, some (.int (iI s0)), g7, g8, g9] [] (T, oI J, oL Q, R, z, w) = some (some (.int (iI ((L0 a m s0).foldl (st4 (g4 (tokL cs) S n) e10) (b, l)).1)), (T, oI J', oL Q', R, z, w)) ∧ qF t J J' ∧ cF Q Q' := by
  intro m
  induction m with
  | zero =>
    intro s0 b l J Q g7 g8 g9 hs h1 hb hl h
    refine ⟨J, Q, ?_, qF.i h, cF.i⟩
    simp only [L0, List.foldl_nil]
    simp (disch := first | omega | exact hJ _ _ | exact rJ_g hJ _ _ | (simp (disch := omega) only [ur_r, ur_o, up_r, up_o]; omega) | assumption) only [s96_9, s96_11, b96_12, s96_138, s96_139, kl_i, kl_r, kl_l, kl_n, kl_z, bd_s, tl_s, tl_n, ap_c, ap_n, v_s, v_n, nd_1, nd_0, ct13, eq_self, iI_add, iI_sub, iI_mul, iI_nat, iI_eq, iI_lt, iI_le, iI_eq0, iI_lt0, ↓reduceIte, if_true, if_false, not_true_eq_false, not_false_eq_true, true_and, and_true, false_and, and_false, true_or, or_true, false_or, or_false, Int.reduceLT, Int.reduceLE, Int.reduceEq, Int.reduceAdd, Int.reduceSub, Int.reduceMul, Nat.reduceAdd, Nat.reduceLT, Nat.reduceEqDiff, Int.reduceNeg, nc_s, nc_0, Int.zero_add, Int.add_zero, oI_r, oI_w, oI_f0, oI_g0, oI_f1, oI_g1, oI_f2, oI_g2, oI_f3, oI_g3, oI_f4, oI_g4, oI_f5, oI_g5, oI_f6, oI_g6, oI_f7, oI_g7, oI_f8, oI_g8, oI_f9, oI_g9, oI_f10, oI_g10, oI_f11, oI_g11, oI_f12, oI_g12, oI_f13, oI_g13, oI_f14, oI_g14, oI_f15, oI_g15, oI_f16, oI_g16, oI_f17, oI_g17, oI_f18, oI_g18, oI_f19, oI_g19, oI_f20, oI_g20, oI_f21, oI_g21, oI_f22, oI_g22, oI_f23, oI_g23, oI_f24, oI_g24, oI_f25, oI_g25, ur_r, ur_o, ur_s, up_r, up_o, up_s, jI_add, jI_sub, jI_mul, jI_neg, jI_i, jI_n, lgc_j, cj_lt, cj_ge, cj_gt, cj_le, cj_eq, oL_r, oL_w, oL_f6, oL_g6, oL_f7, oL_g7, oL_f17, oL_g17, oL_f18, oL_g18, dl_T, dl_F, de_T, de_F, dle_T, dle_F, iI_divn, rem_n, nd_v, ct_s, Bool.false_eq_true]
  | succ m ih =>
    intro s0 b l J Q g7 g8 g9 hs h1 hb hl h
    obtain ⟨J2, Q2, f8, f9, hrun, hf, hQ, q1, q2⟩ := b1_loop (d := d) (z := z) (w := w) hM ho n hn a s0 ha h1 (by omega) (a - s0 + 1).toNat 0 b l J Q g8 g9 (by omega) (by omega) hb hl h
    simp only [L0, List.foldl_append]
    generalize (L1 a s0 (a - s0 + 1).toNat 0).foldl (st4 (g4 (tokL cs) S n) e10) (b, l) = q at *
    obtain ⟨b', l'⟩ := q
    obtain ⟨J3, Q3, hrun3, hf3, hQ3⟩ := ih (s0 + 1) b' l' J2 Q2 (some (.int (iI (a - s0 + 1)))) f8 f9 (by omega) (by omega) q1 q2 (h.x hM ho.2.2.2.1 hf)
    refine ⟨J3, Q3, ?_, hf.tr hf3, hQ.tr hQ3⟩
    have st : rn_r (d + 19) 96 9 [some (.ref 100), some (.int (iI n)), some (.int (iI a)), some (.int (iI b)), some (.long (jI l)), none, some (.int (iI s0)), g7, g8, g9] [] (T, oI J, oL Q, R, z, w) = rn_r (d + 19) 96 18 [some (.ref 100), some (.int (iI n)), some (.int (iI a)), some (.int (iI b)), some (.long (jI l)), none, some (.int (iI s0)), some (.int (iI 0)), g8, g9] [] (T, oI J, oL Q, R, z, w) := by
      simp (disch := first | omega | exact hJ _ _ | exact rJ_g hJ _ _ | (simp (disch := omega) only [ur_r, ur_o, up_r, up_o]; omega) | assumption) only [s96_9, s96_11, b96_12, s96_15, s96_16, kl_i, kl_r, kl_l, kl_n, kl_z, bd_s, tl_s, tl_n, ap_c, ap_n, v_s, v_n, nd_1, nd_0, ct13, eq_self, iI_add, iI_sub, iI_mul, iI_nat, iI_eq, iI_lt, iI_le, iI_eq0, iI_lt0, ↓reduceIte, if_true, if_false, not_true_eq_false, not_false_eq_true, true_and, and_true, false_and, and_false, true_or, or_true, false_or, or_false, Int.reduceLT, Int.reduceLE, Int.reduceEq, Int.reduceAdd, Int.reduceSub, Int.reduceMul, Nat.reduceAdd, Nat.reduceLT, Nat.reduceEqDiff, Int.reduceNeg, nc_s, nc_0, Int.zero_add, Int.add_zero, oI_r, oI_w, oI_f0, oI_g0, oI_f1, oI_g1, oI_f2, oI_g2, oI_f3, oI_g3, oI_f4, oI_g4, oI_f5, oI_g5, oI_f6, oI_g6, oI_f7, oI_g7, oI_f8, oI_g8, oI_f9, oI_g9, oI_f10, oI_g10, oI_f11, oI_g11, oI_f12, oI_g12, oI_f13, oI_g13, oI_f14, oI_g14, oI_f15, oI_g15, oI_f16, oI_g16, oI_f17, oI_g17, oI_f18, oI_g18, oI_f19, oI_g19, oI_f20, oI_g20, oI_f21, oI_g21, oI_f22, oI_g22, oI_f23, oI_g23, oI_f24, oI_g24, oI_f25, oI_g25, ur_r, ur_o, ur_s, up_r, up_o, up_s, jI_add, jI_sub, jI_mul, jI_neg, jI_i, jI_n, lgc_j, cj_lt, cj_ge, cj_gt, cj_le, cj_eq, oL_r, oL_w, oL_f6, oL_g6, oL_f7, oL_g7, oL_f17, oL_g17, oL_f18, oL_g18, dl_T, dl_F, de_T, de_F, dle_T, dle_F, iI_divn, rem_n, nd_v, ct_s, Bool.false_eq_true]
    rw [st, hrun]
    refine Eq.trans ?_ ((s96_135 ..).trans hrun3)
    simp (disch := first | omega | exact hJ _ _ | exact rJ_g hJ _ _ | (simp (disch := omega) only [ur_r, ur_o, up_r, up_o]; omega) | assumption) only [s96_132, kl_i, kl_r, kl_l, kl_n, kl_z, bd_s, tl_s, tl_n, ap_c, ap_n, v_s, v_n, nd_1, nd_0, ct13, eq_self, iI_add, iI_sub, iI_mul, iI_nat, iI_eq, iI_lt, iI_le, iI_eq0, iI_lt0, ↓reduceIte, if_true, if_false, not_true_eq_false, not_false_eq_true, true_and, and_true, false_and, and_false, true_or, or_true, false_or, or_false, Int.reduceLT, Int.reduceLE, Int.reduceEq, Int.reduceAdd, Int.reduceSub, Int.reduceMul, Nat.reduceAdd, Nat.reduceLT, Nat.reduceEqDiff, Int.reduceNeg, nc_s, nc_0, Int.zero_add, Int.add_zero, oI_r, oI_w, oI_f0, oI_g0, oI_f1, oI_g1, oI_f2, oI_g2, oI_f3, oI_g3, oI_f4, oI_g4, oI_f5, oI_g5, oI_f6, oI_g6, oI_f7, oI_g7, oI_f8, oI_g8, oI_f9, oI_g9, oI_f10, oI_g10, oI_f11, oI_g11, oI_f12, oI_g12, oI_f13, oI_g13, oI_f14, oI_g14, oI_f15, oI_g15, oI_f16, oI_g16, oI_f17, oI_g17, oI_f18, oI_g18, oI_f19, oI_g19, oI_f20, oI_g20, oI_f21, oI_g21, oI_f22, oI_g22, oI_f23, oI_g23, oI_f24, oI_g24, oI_f25, oI_g25, ur_r, ur_o, ur_s, up_r, up_o, up_s, jI_add, jI_sub, jI_mul, jI_neg, jI_i, jI_n, lgc_j, cj_lt, cj_ge, cj_gt, cj_le, cj_eq, oL_r, oL_w, oL_f6, oL_g6, oL_f7, oL_g7, oL_f17, oL_g17, oL_f18, oL_g18, dl_T, dl_F, de_T, de_F, dle_T, dle_F, iI_divn, rem_n, nd_v, ct_s, Bool.false_eq_true]
theorem c_isDoor (x : Int) (hx : i32 x) : rn_c d 89 [.int (iI x)] (T, I, L, R, z, w) = some (some (.int (iI (if x < 0 then 0 else if 3 < x then 0 else 1))), (T, I, L, R, z, w)) := by
  (simp (disch := first | omega | exact hJ _ _ | exact rJ_g hJ _ _ | (simp (disch := omega) only [ur_r, ur_o, up_r, up_o]; omega) | assumption) only [c89, s89_0, b89_1, s89_4, s89_5, b89_6, s89_9, s89_10, s89_13, s89_14, kl_i, kl_r, kl_l, kl_n, kl_z, bd_s, tl_s, tl_n, ap_c, ap_n, v_s, v_n, nd_1, nd_0, ct13, eq_self, iI_add, iI_sub, iI_mul, iI_nat, iI_eq, iI_lt, iI_le, iI_eq0, iI_lt0, ↓reduceIte, if_true, if_false, not_true_eq_false, not_false_eq_true, true_and, and_true, false_and, and_false, true_or, or_true, false_or, or_false, Int.reduceLT, Int.reduceLE, Int.reduceEq, Int.reduceAdd, Int.reduceSub, Int.reduceMul, Nat.reduceAdd, Nat.reduceLT, Nat.reduceEqDiff, Int.reduceNeg, nc_s, nc_0, Int.zero_add, Int.add_zero, oI_r, oI_w, oI_f0, oI_g0, oI_f1, oI_g1, oI_f2, oI_g2, oI_f3, oI_g3, oI_f4, oI_g4, oI_f5, oI_g5, oI_f6, oI_g6, oI_f7, oI_g7, oI_f8, oI_g8, oI_f9, oI_g9, oI_f10, oI_g10, oI_f11, oI_g11, oI_f12, oI_g12, oI_f13, oI_g13, oI_f14, oI_g14, oI_f15, oI_g15, oI_f16, oI_g16, oI_f17, oI_g17, oI_f18, oI_g18, oI_f19, oI_g19, oI_f20, oI_g20, oI_f21, oI_g21, oI_f22, oI_g22, oI_f23, oI_g23, oI_f24, oI_g24, oI_f25, oI_g25, ur_r, ur_o, ur_s, up_r, up_o, up_s, jI_add, jI_sub, jI_mul, jI_neg, jI_i, jI_n, lgc_j, cj_lt, cj_ge, cj_gt, cj_le, cj_eq, oL_r, oL_w, oL_f6, oL_g6, oL_f7, oL_g7, oL_f17, oL_g17, oL_f18, oL_g18, dl_T, dl_F, de_T, de_F, dle_T, dle_F, iI_divn, rem_n, nd_v, ct_s, Bool.false_eq_true]; repeat' (split <;> (try simp (disch := first | omega | exact hJ _ _ | exact rJ_g hJ _ _ | (simp (disch := omega) only [ur_r, ur_o, up_r, up_o]; omega) | assumption) only [c89, s89_0, b89_1, s89_4, s89_5, b89_6, s89_9, s89_10, s89_13, s89_14, kl_i, kl_r, kl_l, kl_n, kl_z, bd_s, tl_s, tl_n, ap_c, ap_n, v_s, v_n, nd_1, nd_0, ct13, eq_self, iI_add, iI_sub, iI_mul, iI_nat, iI_eq, iI_lt, iI_le, iI_eq0, iI_lt0, ↓reduceIte, if_true, if_false, not_true_eq_false, not_false_eq_true, true_and, and_true, false_and, and_false, true_or, or_true, false_or, or_false, Int.reduceLT, Int.reduceLE, Int.reduceEq, Int.reduceAdd, Int.reduceSub, Int.reduceMul, Nat.reduceAdd, Nat.reduceLT, Nat.reduceEqDiff, Int.reduceNeg, nc_s, nc_0, Int.zero_add, Int.add_zero, oI_r, oI_w, oI_f0, oI_g0, oI_f1, oI_g1, oI_f2, oI_g2, oI_f3, oI_g3, oI_f4, oI_g4, oI_f5, oI_g5, oI_f6, oI_g6, oI_f7, oI_g7, oI_f8, oI_g8, oI_f9, oI_g9, oI_f10, oI_g10, oI_f11, oI_g11, oI_f12, oI_g12, oI_f13, oI_g13, oI_f14, oI_g14, oI_f15, oI_g15, oI_f16, oI_g16, oI_f17, oI_g17, oI_f18, oI_g18, oI_f19, oI_g19, oI_f20, oI_g20, oI_f21, oI_g21, oI_f22, oI_g22, oI_f23, oI_g23, oI_f24, oI_g24, oI_f25, oI_g25, ur_r, ur_o, ur_s, up_r, up_o, up_s, jI_add, jI_sub, jI_mul, jI_neg, jI_i, jI_n, lgc_j, cj_lt, cj_ge, cj_gt, cj_le, cj_eq, oL_r, oL_w, oL_f6, oL_g6, oL_f7, oL_g7, oL_f17, oL_g17, oL_f18, oL_g18, dl_T, dl_F, de_T, de_F, dle_T, dle_F, iI_divn, rem_n, nd_v, ct_s, Bool.false_eq_true])))
theorem c_inAll (hM : cM T R) (h : nw J S) : rn_c d 56 [.ref 102] (T, oI J, L, R, z, w) = some (some (.int (iI (umS S))), (T, oI J, L, R, z, w)) := by
  have := w_inAll (d := d) (J := J) (L := L) (z := z) (w := w) hM.w102
  rw [this]
  have e : umS (J 103) = umS S := by unfold umS; rw [h.1 0 (by omega), h.1 1 (by omega), h.1 2 (by omega), h.1 3 (by omega)]
  show some (some (Value.int (iI (umS (J 103)))), _) = _
  rw [e]
theorem c_start (hM : cM T R) (ho : oR (tokL cs) S) (h : cS T R J t cs S) (n k : Int) (hn : i32 n) (hk : i32 k) : ∃ J' Q' : mR, rn_c (d + 20) 75 [.ref 100, .int (iI n), .int (iI k)] (T, oI J, oL Q, R, z, w) = some (some (.int (iI (startV (tokL cs) S n k))), (T, oI J', oL Q', R, z, w)) ∧ qF t J J' ∧ cF Q Q' := by
  have s0 := ho.1.2.1 0 (by omega)
  have s1 := ho.1.2.1 1 (by omega)
  have s2 := ho.1.2.1 2 (by omega)
  have s3 := ho.1.2.1 3 (by omega)
  have su : umS S = S 0 + S 1 + S 2 + S 3 := rfl
  by_cases c : 1 ≤ n ∧ n ≤ 5 ∧ 0 ≤ k ∧ k ≤ 3 ∧ umS S ≤ 6
  · have hnn : (n.toNat : Int) = n := by omega
    obtain ⟨J3, Q3, hrun3, hf3, hQ3⟩ := b0_loop (d := d) (z := z) (w := w) hM ho n.toNat (by omega) (umS S) (by omega) ((umS S).toNat + 1) 0 (-5) 0 J Q none none none (by omega) (by omega) (by omega) (by omega) h
    have el := L_eq (umS S).toNat (by omega)
    have eu : (((umS S).toNat : Nat) : Int) = umS S := by omega
    rw [eu] at el
    rw [hnn, el] at hrun3
    have rel := st4_rel (g4 (tokL cs) S n.toNat) (LR (umS S) 2401 0) (-5, 0) (-5, 0) (LR_ok (umS S) (by omega) 2401 0 (by omega)) ⟨rfl, Or.inl ⟨rfl, rfl⟩⟩
    have esf := stF_l (tokL cs) S (umS S) n.toNat 2401 0 (-5) 0 (by omega) (by omega)
    have hne : ∀ (a : Int) (m : Nat) (r : Int) (q : Int × Int), 0 ≤ r → (∃ i : Nat, i < m ∧ r + i = a) → 0 ≤ a ∧ a ≤ 6 → ((LR a m r).foldl (st4 (g4 (tokL cs) S n.toNat) e7) q).1 = -5 → False := by
      have nn : ∀ (l : List X4) (q : Int × Int), (∀ x, x ∈ l → ok6 x) → ¬ q.1 = -5 → ¬ (l.foldl (st4 (g4 (tokL cs) S n.toNat) e7) q).1 = -5 := by
        intro l
        induction l with
        | nil => intro q _ h; exact h
        | cons x l ih =>
          intro q hl hq
          rw [List.foldl_cons]
          have hx := hl x (List.mem_cons_self ..)
          have hx7 : ¬ e7 x = -5 := by obtain ⟨o1, o2, o3, o4⟩ := hx; unfold e7; omega
          refine ih _ (fun y hy => hl y (List.mem_cons_of_mem _ hy)) ?_
          unfold st4
          rw [if_neg hq]
          split
          · exact hx7
          · exact hq
      intro a m
      induction m with
      | zero => intro r q _ ⟨i, hi, _⟩; omega
      | succ m ih =>
        intro r q h0 ⟨i, hi, hri⟩ ha he
        simp only [LR] at he
        by_cases cc : r / 343 + r / 49 % 7 + r / 7 % 7 + r % 7 = a
        · rw [if_pos cc, List.foldl_cons] at he
          have hx : ok6 (r / 343, r / 49 % 7, r / 7 % 7, r % 7) := by unfold ok6; simp only []; omega
          have hx7 : ¬ e7 (r / 343, r / 49 % 7, r / 7 % 7, r % 7) = -5 := by obtain ⟨o1, o2, o3, o4⟩ := hx; unfold e7; omega
          refine nn _ _ (LR_ok a ha m (r + 1) (by omega)) ?_ he
          unfold st4
          by_cases c5 : q.1 = -5
          · rw [if_pos c5]; exact hx7
          · rw [if_neg c5]
            split
            · exact hx7
            · exact c5
        · rw [if_neg cc] at he
          refine ih (r + 1) q (by omega) ?_ ha he
          cases i with
          | zero =>
            exfalso
            have : r = a := by omega
            rw [this] at cc
            omega
          | succ i => exact ⟨i, by omega, by omega⟩
    have rel2 : ∃ x, ok6 x ∧ ((LR (umS S) 2401 0).foldl (st4 (g4 (tokL cs) S n.toNat) e7) (-5, 0)).1 = e7 x ∧ ((LR (umS S) 2401 0).foldl (st4 (g4 (tokL cs) S n.toNat) e10) (-5, 0)).1 = e10 x := by
      rcases rel with ⟨q1, q2⟩ | q
      · exfalso
        exact hne (umS S) 2401 0 (-5, 0) (by omega) ⟨(umS S).toNat, by omega, by omega⟩ (by omega) q1
      · exact q
    obtain ⟨x, x1, x2, x3⟩ := rel2
    have ev : startV (tokL cs) S n k = stnS (e10 x) k := by
      unfold startV; rw [if_neg (by omega), if_neg (by omega), if_neg (by omega), if_neg (by omega), if_neg (by omega), esf, x2, dg_eq x1]
    have x10 : 0 ≤ e10 x ∧ e10 x < 10000 := by obtain ⟨o1, o2, o3, o4⟩ := x1; unfold e10; omega
    rw [ev]
    rw [x3] at hrun3
    have bs : rn_c (d + 19) 96 [.ref 100, .int (iI n), .int (iI (umS S))] (T, oI J, oL Q, R, z, w) = some (some (.int (iI (e10 x))), (T, oI J3, oL Q3, R, z, w)) := by
      refine Eq.trans ?_ hrun3
      simp (disch := first | omega | exact hJ _ _ | exact rJ_g hJ _ _ | (simp (disch := omega) only [ur_r, ur_o, up_r, up_o]; omega) | assumption) only [c96, s96_0, s96_2, s96_3, s96_4, s96_6, s96_7, kl_i, kl_r, kl_l, kl_n, kl_z, bd_s, tl_s, tl_n, ap_c, ap_n, v_s, v_n, nd_1, nd_0, ct13, eq_self, iI_add, iI_sub, iI_mul, iI_nat, iI_eq, iI_lt, iI_le, iI_eq0, iI_lt0, ↓reduceIte, if_true, if_false, not_true_eq_false, not_false_eq_true, true_and, and_true, false_and, and_false, true_or, or_true, false_or, or_false, Int.reduceLT, Int.reduceLE, Int.reduceEq, Int.reduceAdd, Int.reduceSub, Int.reduceMul, Nat.reduceAdd, Nat.reduceLT, Nat.reduceEqDiff, Int.reduceNeg, nc_s, nc_0, Int.zero_add, Int.add_zero, oI_r, oI_w, oI_f0, oI_g0, oI_f1, oI_g1, oI_f2, oI_g2, oI_f3, oI_g3, oI_f4, oI_g4, oI_f5, oI_g5, oI_f6, oI_g6, oI_f7, oI_g7, oI_f8, oI_g8, oI_f9, oI_g9, oI_f10, oI_g10, oI_f11, oI_g11, oI_f12, oI_g12, oI_f13, oI_g13, oI_f14, oI_g14, oI_f15, oI_g15, oI_f16, oI_g16, oI_f17, oI_g17, oI_f18, oI_g18, oI_f19, oI_g19, oI_f20, oI_g20, oI_f21, oI_g21, oI_f22, oI_g22, oI_f23, oI_g23, oI_f24, oI_g24, oI_f25, oI_g25, ur_r, ur_o, ur_s, up_r, up_o, up_s, jI_add, jI_sub, jI_mul, jI_neg, jI_i, jI_n, lgc_j, cj_lt, cj_ge, cj_gt, cj_le, cj_eq, oL_r, oL_w, oL_f6, oL_g6, oL_f7, oL_g7, oL_f17, oL_g17, oL_f18, oL_g18, dl_T, dl_F, de_T, de_F, dle_T, dle_F, iI_divn, rem_n, nd_v, ct_s, Bool.false_eq_true]
    have si := c_standIn (d := d + 19) (T := T) (I := oI J3) (L := oL Q3) (R := R) (z := z) (w := w) (e10 x) k x10 (by omega)
    have ia := c_inAll (d := d + 19) (L := oL Q) (z := z) (w := w) hM h.2.1
    refine ⟨J3, Q3, ?_, hf3, hQ3⟩
    simp (disch := first | omega | exact hJ _ _ | exact rJ_g hJ _ _ | (simp (disch := omega) only [ur_r, ur_o, up_r, up_o]; omega) | assumption) only [c75, s75_0, s75_1, b75_4, s75_7, s75_8, s75_9, s75_10, b75_11, s75_14, s75_15, b75_16, s75_19, s75_21, s75_22, s75_22v, s75_23, s75_26, s75_29, s75_32, s75_33, s75_34, b75_36, s75_39, s75_41, s75_42, s75_42v, s75_43, s75_44, s75_45, s75_48, s75_49, s75_52, hM.t100, hM.t101, hM.r100_0, hM.r101_0, v_s, c_isDoor, ia, bs, si, hM.w102.t0, kl_i, kl_r, kl_l, kl_n, kl_z, bd_s, tl_s, tl_n, ap_c, ap_n, v_s, v_n, nd_1, nd_0, ct13, eq_self, iI_add, iI_sub, iI_mul, iI_nat, iI_eq, iI_lt, iI_le, iI_eq0, iI_lt0, ↓reduceIte, if_true, if_false, not_true_eq_false, not_false_eq_true, true_and, and_true, false_and, and_false, true_or, or_true, false_or, or_false, Int.reduceLT, Int.reduceLE, Int.reduceEq, Int.reduceAdd, Int.reduceSub, Int.reduceMul, Nat.reduceAdd, Nat.reduceLT, Nat.reduceEqDiff, Int.reduceNeg, nc_s, nc_0, Int.zero_add, Int.add_zero, oI_r, oI_w, oI_f0, oI_g0, oI_f1, oI_g1, oI_f2, oI_g2, oI_f3, oI_g3, oI_f4, oI_g4, oI_f5, oI_g5, oI_f6, oI_g6, oI_f7, oI_g7, oI_f8, oI_g8, oI_f9, oI_g9, oI_f10, oI_g10, oI_f11, oI_g11, oI_f12, oI_g12, oI_f13, oI_g13, oI_f14, oI_g14, oI_f15, oI_g15, oI_f16, oI_g16, oI_f17, oI_g17, oI_f18, oI_g18, oI_f19, oI_g19, oI_f20, oI_g20, oI_f21, oI_g21, oI_f22, oI_g22, oI_f23, oI_g23, oI_f24, oI_g24, oI_f25, oI_g25, ur_r, ur_o, ur_s, up_r, up_o, up_s, jI_add, jI_sub, jI_mul, jI_neg, jI_i, jI_n, lgc_j, cj_lt, cj_ge, cj_gt, cj_le, cj_eq, oL_r, oL_w, oL_f6, oL_g6, oL_f7, oL_g7, oL_f17, oL_g17, oL_f18, oL_g18, dl_T, dl_F, de_T, de_F, dle_T, dle_F, iI_divn, rem_n, nd_v, ct_s, Bool.false_eq_true]
  · have ia := c_inAll (d := d + 19) (L := oL Q) (z := z) (w := w) hM h.2.1
    refine ⟨J, Q, ?_, qF.i h, cF.i⟩
    unfold startV
    (simp (disch := first | omega | exact hJ _ _ | exact rJ_g hJ _ _ | (simp (disch := omega) only [ur_r, ur_o, up_r, up_o]; omega) | assumption) only [c75, s75_0, s75_1, b75_4, s75_7, s75_8, s75_9, s75_10, b75_11, s75_14, s75_15, b75_16, s75_19, s75_21, s75_22, s75_22v, s75_23, s75_26, s75_29, s75_32, s75_33, s75_34, b75_36, s75_39, s75_41, s75_42, s75_42v, s75_43, s75_44, s75_45, s75_48, s75_49, s75_52, hM.t100, hM.t101, hM.r100_0, hM.r101_0, v_s, c_isDoor, ia, hM.w102.t0, kl_i, kl_r, kl_l, kl_n, kl_z, bd_s, tl_s, tl_n, ap_c, ap_n, v_s, v_n, nd_1, nd_0, ct13, eq_self, iI_add, iI_sub, iI_mul, iI_nat, iI_eq, iI_lt, iI_le, iI_eq0, iI_lt0, ↓reduceIte, if_true, if_false, not_true_eq_false, not_false_eq_true, true_and, and_true, false_and, and_false, true_or, or_true, false_or, or_false, Int.reduceLT, Int.reduceLE, Int.reduceEq, Int.reduceAdd, Int.reduceSub, Int.reduceMul, Nat.reduceAdd, Nat.reduceLT, Nat.reduceEqDiff, Int.reduceNeg, nc_s, nc_0, Int.zero_add, Int.add_zero, oI_r, oI_w, oI_f0, oI_g0, oI_f1, oI_g1, oI_f2, oI_g2, oI_f3, oI_g3, oI_f4, oI_g4, oI_f5, oI_g5, oI_f6, oI_g6, oI_f7, oI_g7, oI_f8, oI_g8, oI_f9, oI_g9, oI_f10, oI_g10, oI_f11, oI_g11, oI_f12, oI_g12, oI_f13, oI_g13, oI_f14, oI_g14, oI_f15, oI_g15, oI_f16, oI_g16, oI_f17, oI_g17, oI_f18, oI_g18, oI_f19, oI_g19, oI_f20, oI_g20, oI_f21, oI_g21, oI_f22, oI_g22, oI_f23, oI_g23, oI_f24, oI_g24, oI_f25, oI_g25, ur_r, ur_o, ur_s, up_r, up_o, up_s, jI_add, jI_sub, jI_mul, jI_neg, jI_i, jI_n, lgc_j, cj_lt, cj_ge, cj_gt, cj_le, cj_eq, oL_r, oL_w, oL_f6, oL_g6, oL_f7, oL_g7, oL_f17, oL_g17, oL_f18, oL_g18, dl_T, dl_F, de_T, de_F, dle_T, dle_F, iI_divn, rem_n, nd_v, ct_s, Bool.false_eq_true]; repeat' (split <;> (try simp (disch := first | omega | exact hJ _ _ | exact rJ_g hJ _ _ | (simp (disch := omega) only [ur_r, ur_o, up_r, up_o]; omega) | assumption) only [c75, s75_0, s75_1, b75_4, s75_7, s75_8, s75_9, s75_10, b75_11, s75_14, s75_15, b75_16, s75_19, s75_21, s75_22, s75_22v, s75_23, s75_26, s75_29, s75_32, s75_33, s75_34, b75_36, s75_39, s75_41, s75_42, s75_42v, s75_43, s75_44, s75_45, s75_48, s75_49, s75_52, hM.t100, hM.t101, hM.r100_0, hM.r101_0, v_s, c_isDoor, ia, hM.w102.t0, kl_i, kl_r, kl_l, kl_n, kl_z, bd_s, tl_s, tl_n, ap_c, ap_n, v_s, v_n, nd_1, nd_0, ct13, eq_self, iI_add, iI_sub, iI_mul, iI_nat, iI_eq, iI_lt, iI_le, iI_eq0, iI_lt0, ↓reduceIte, if_true, if_false, not_true_eq_false, not_false_eq_true, true_and, and_true, false_and, and_false, true_or, or_true, false_or, or_false, Int.reduceLT, Int.reduceLE, Int.reduceEq, Int.reduceAdd, Int.reduceSub, Int.reduceMul, Nat.reduceAdd, Nat.reduceLT, Nat.reduceEqDiff, Int.reduceNeg, nc_s, nc_0, Int.zero_add, Int.add_zero, oI_r, oI_w, oI_f0, oI_g0, oI_f1, oI_g1, oI_f2, oI_g2, oI_f3, oI_g3, oI_f4, oI_g4, oI_f5, oI_g5, oI_f6, oI_g6, oI_f7, oI_g7, oI_f8, oI_g8, oI_f9, oI_g9, oI_f10, oI_g10, oI_f11, oI_g11, oI_f12, oI_g12, oI_f13, oI_g13, oI_f14, oI_g14, oI_f15, oI_g15, oI_f16, oI_g16, oI_f17, oI_g17, oI_f18, oI_g18, oI_f19, oI_g19, oI_f20, oI_g20, oI_f21, oI_g21, oI_f22, oI_g22, oI_f23, oI_g23, oI_f24, oI_g24, oI_f25, oI_g25, ur_r, ur_o, ur_s, up_r, up_o, up_s, jI_add, jI_sub, jI_mul, jI_neg, jI_i, jI_n, lgc_j, cj_lt, cj_ge, cj_gt, cj_le, cj_eq, oL_r, oL_w, oL_f6, oL_g6, oL_f7, oL_g7, oL_f17, oL_g17, oL_f18, oL_g18, dl_T, dl_F, de_T, de_F, dle_T, dle_F, iI_divn, rem_n, nd_v, ct_s, Bool.false_eq_true])))
end CS
