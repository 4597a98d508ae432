/-! the reference: isDry, count1 -/
section AT
variable {d : Nat} {T : Nat → Nat × Nat} {I : Nat → Nat → Int32} {L : Nat → Nat → Int64} {R : Nat → Nat → Option Nat} {z w : Nat} {J Q : mR}
theorem iI_nI (n : Nat) : iI (n : Int) = nI n := (iI_ofNat n).symm
theorem sh_k : ∀ n, n < 32 → ((nI n &&& 31).toBitVec.smod 32).toNat = n := by decide +kernel
theorem bit_e {s k : Nat} (hs : s < 2147483648) (hk : k < 32) : (iI (s : Int) >>> (iI (k : Int) &&& 31)) &&& iI 1 = iI ((s / 2 ^ k % 2 : Nat) : Int) := by
  rw [iI_nI, iI_nI, iI_nI, pk_shrN (by omega) _ k (sh_k k hk)]
  have hq : s / 2 ^ k ≤ s := Nat.div_le_self _ _
  have := pk_andN (n := s / 2 ^ k) (by omega) (m := iI 1) 1 (by decide)
  rw [this]
/-- the hours of the row, the cart going ahead of some -/
def ndW (ts : List Int) (S : Int → Int) (s : Nat) : Nat → (Int → Int)
  | 0 => S
  | k + 1 => hrS ts (if s / 2 ^ k % 2 = 1 then caS (ndW ts S s k) (tlS S 230 2) else ndW ts S s k) (S (180 + k))
theorem ndW_p {ts : List Int} {S : Int → Int} (ho : oR ts S) (s n : Nat) (hn : n ≤ 20) (hr : ∀ k : Nat, k < n → 0 ≤ S (180 + k) ∧ S (180 + k) ≤ 1) : oS (ndW ts S s n) ∧ sx S (ndW ts S s n) ∧ tB (606 * n) (ndW ts S s n) ∧ ndW ts S s n 10 = S 10 + n := by
  obtain ⟨o1, o2, o3, o4, o5, o6⟩ := ho
  induction n with
  | zero => exact ⟨o1, sx.i, o5, by simp only [ndW, nc_0, Int.add_zero]⟩
  | succ n ih =>
    obtain ⟨a, b, c, e⟩ := ih (by omega) (fun k hk => hr k (by omega))
    have hrn := hr n (by omega)
    simp only [ndW]
    have h10 := a.2.2.1
    by_cases q : s / 2 ^ n % 2 = 1
    · rw [if_pos q]
      obtain ⟨c1, c2, c3, c4, c5⟩ := caS_p (load := tlS S 230 2) a o4.2.2.2.1
      obtain ⟨p1, p2, p3, p4, p5⟩ := hr_p (ts := ts) (sky := S (180 + n)) (c := 606 * n) o3 c1 (by unfold tB at c ⊢; rw [c3 _ (by omega), c3 _ (by omega), c3 _ (by omega)]; exact c) (c2.oT (b.oT o4)) (by rw [c3 _ (by omega)]; omega) hrn
      refine ⟨p1, b.t (c2.t p2), ?_, ?_⟩
      · unfold tB at p3 ⊢; omega
      · rw [p4, c3 _ (by omega), e]; omega
    · rw [if_neg q]
      obtain ⟨p1, p2, p3, p4, p5⟩ := hr_p (ts := ts) (sky := S (180 + n)) (c := 606 * n) o3 a c (b.oT o4) (by omega) hrn
      refine ⟨p1, b.t p2, ?_, ?_⟩
      · unfold tB at p3 ⊢; omega
      · rw [p4, e]; omega
theorem bk_back {J J' : mR} {S : Int → Int} (hF : ∀ j, 0 ≤ j → j < 15 → J 196 j = S j) (hx : sx S (J 194)) : oI (ur J 194 (bk (J 194) (J 196) 0 15)) = oI (ur J 194 S) := by
  apply oI_ext
  intro b j hj
  unfold ur
  by_cases hb : b = 194
  · rw [if_pos hb, if_pos hb]
    unfold bk
    by_cases h1 : 0 ≤ j ∧ j < 15
    · rw [if_pos h1, show 15 * (0 : Int) + j = j by omega]; exact hF j h1.1 h1.2
    · rw [if_neg h1]; exact hx j (by omega)
  · rw [if_neg hb, if_neg hb]
theorem n_keeps0 (h : rM T R) : ∃ K : mR, rn_c d 108 [.ref 193, .int (iI 0)] (T, oI J, L, R, z, w) = some (none, (T, oI K, L, R, z, w)) ∧ (rJ J → rJ K) ∧ fD J K ∧ K 194 = J 194 ∧ (∀ j, 0 ≤ j → j < 15 → K 196 j = J 194 j) := by
  refine ⟨_, n_keeps h 0 (by omega), fun hJ => rJ_ur hJ (by omega) (fun j => ?_), ⟨fun b h1 h2 h3 _ _ _ _ _ => ur_o h3, fun j _ _ => by rw [ur_o (by omega)]⟩, ur_o (by omega), fun j h1 h2 => ?_⟩
  · unfold fk; split <;> exact hJ.1 _ _
  · rw [ur_r]; unfold fk; rw [if_pos (by omega)]; exact congrArg (J 194) (by omega)
theorem fB.s196 {J J' : mR} (h : fB J J') : J' 196 = J 196 := h.1 196 (by omega) (by omega) (by omega) (by omega) (by omega) (by omega) (by omega)
theorem fB.dd {J J' : mR} (h : fB J J') : fD J J' := ⟨fun b h1 h2 _ h4 h5 h6 h7 h8 => h.1 b h1 h2 h4 h5 h6 h7 h8, h.2⟩
theorem dry_loop (h : rM T R) (ts : List Int) (S : Int → Int) (ho : oR ts S) (hS : ∀ j, -2147483648 ≤ S j ∧ S j < 2147483648) (s n : Nat) (hs : s < 4096) (hn : n ≤ 12) (hr : ∀ k : Nat, k < n → 0 ≤ S (180 + k) ∧ S (180 + k) ≤ 1) : ∀ (m k : Nat) (J : mR) (g4 : Option Value), k + m = n → rJ J → J 194 = ndW ts S s k → (∀ j, 0 ≤ j → j < 15 → J 196 j = S j) → ∃ J' : mR, rn_r (d + 6) 158 7 [some (.ref 193), some (.int (iI s)), some (.int (iI n)), some (.int (iI k)), g4] [] (T, oI J, L, R, z, w) = some (some (.int (iI (if ndW ts S s n 13 = 0 then 1 else 0))), (T, oI J', L, R, z, w)) ∧ rJ J' ∧ fD J J' ∧ J' 194 = S := by
  intro m
  induction m with
  | zero =>
    intro k J g4 hk hJ hx hF
    obtain rfl : k = n := by omega
    obtain ⟨a, b, c, e⟩ := ndW_p ho s k (by omega) hr
    have gb := n_goesBackTo (d := d + 5) (J := J) (L := L) (z := z) (w := w) h 0 (by omega)
    rw [bk_back (J' := J) hF (by rw [hx]; exact b)] at gb
    refine ⟨ur J 194 S, ?_, rJ_ur hJ (by omega) hS, fD.u, ur_r⟩
    rw [← hx] at *
    by_cases c13 : J 194 13 = 0 <;>
      simp (disch := first | omega | exact hJ _ _ | exact rJ_g hJ _ _ | (simp (disch := omega) only [ur_r, ur_o, up_r, up_o]; omega) | assumption) only [s158_7, s158_8, b158_9, s158_51, s158_51v, s158_52, s158_55, s158_57, b158_58, s158_61, s158_62, s158_65, s158_66, s158_67, s158_67v, s158_68, s158_69, s158_72, s158_73, h.t193, h.r1, h.a194, gb, kl_i, kl_r, kl_l, kl_n, kl_z, bd_s, tl_s, tl_n, ap_c, ap_n, v_s, v_n, nd_1, nd_0, ct13, eq_self, iI_add, iI_sub, iI_mul, iI_nat, iI_eq, iI_lt, iI_le, iI_eq0, iI_lt0, ↓reduceIte, if_true, if_false, not_true_eq_false, not_false_eq_true, true_and, and_true, false_and, and_false, true_or, or_true, false_or, or_false, Int.reduceLT, Int.reduceLE, Int.reduceEq, Int.reduceAdd, Int.reduceSub, Int.reduceMul, Nat.reduceAdd, Nat.reduceLT, Nat.reduceEqDiff, Int.reduceNeg, nc_s, nc_0, Int.zero_add, Int.add_zero, oI_r, oI_w, oI_f0, oI_g0, oI_f1, oI_g1, oI_f2, oI_g2, oI_f3, oI_g3, oI_f4, oI_g4, oI_f5, oI_g5, oI_f6, oI_g6, oI_f7, oI_g7, oI_f8, oI_g8, oI_f9, oI_g9, oI_f10, oI_g10, oI_f11, oI_g11, oI_f12, oI_g12, oI_f13, oI_g13, oI_f14, oI_g14, oI_f15, oI_g15, oI_f16, oI_g16, oI_f17, oI_g17, oI_f18, oI_g18, oI_f19, oI_g19, oI_f20, oI_g20, oI_f21, oI_g21, oI_f22, oI_g22, oI_f23, oI_g23, oI_f24, oI_g24, oI_f25, oI_g25, ur_r, ur_o, ur_s, up_r, up_o, up_s, jI_add, jI_sub, jI_mul, jI_neg, jI_i, jI_n, lgc_j, cj_lt, cj_ge, cj_gt, cj_le, cj_eq, oL_r, oL_w, oL_f6, oL_g6, oL_f7, oL_g7, oL_f17, oL_g17, oL_f18, oL_g18, dl_T, dl_F, de_T, de_F, dle_T, dle_F, iI_divn, rem_n, nd_v, ct_s, Bool.false_eq_true]
  | succ m ih =>
    intro k J g4 hk hJ hx hF
    obtain ⟨a, b, c, e⟩ := ndW_p ho s k (by omega) (fun k hk => hr k (by omega))
    have hrk := hr k (by omega)
    have o6 := ho.2.2.2.2.2
    have ek : S (180 + k) = J 194 (180 + k) := by rw [hx]; exact (b _ (by omega)).symm
    have etl : tlS (J 194) 230 2 = tlS S 230 2 := by rw [hx]; exact b.tl (by omega) ho.2.2.2.1.1.1
    have hbit := bit_e (s := s) (k := k) (by omega) (by omega)
    by_cases q : s / 2 ^ k % 2 = 1
    · obtain ⟨c1, c2, c3, c4, c5⟩ := caS_p (S := J 194) (load := tlS S 230 2) (by rw [hx]; exact a) ho.2.2.2.1.2.2.2.1
      have rc := n_cart (d := d + 4) (J := J) (L := L) (z := z) (w := w) h hJ.1 (by rw [hx]; exact a) (by rw [hx]; exact b.oT ho.2.2.2.1)
      rw [etl] at rc
      have hK : rJ (ur J 194 (caS (J 194) (tlS S 230 2))) := by
        refine rJ_ur hJ (by omega) (fun j => ?_)
        unfold caS
        by_cases cg : gaS (J 194) = laS (J 194)
        · rw [if_pos cg]; exact hJ.1 _ _
        · rw [if_neg cg]
          have r1 := gaS_r (J 194)
          have r2 := laS_r (J 194)
          have w1 := c1.2.1 _ r1
          have w2 := c1.2.1 _ r2
          unfold caS at w1 w2
          rw [if_neg cg] at w1 w2
          rw [up_r] at w2
          rw [up_o cg, up_r] at w1
          exact up_rng (up_rng (fun j => hJ.1 _ _) (by omega)) (by omega) j
      obtain ⟨J2, hrun2, hJ2, hf2, e2⟩ := n_hour (d := d) (J := ur J 194 (caS (J 194) (tlS S 230 2))) (L := L) (z := z) (w := w) h (S (180 + k)) hrk ts ho.2.2.1 hK (by rw [ur_r]; exact c1) (by rw [ur_r]; exact c2.held (by rw [hx]; exact b.held ho.2.1)) (by rw [ur_r]; exact c2.oT (by rw [hx]; exact b.oT ho.2.2.2.1)) (by rw [ur_r]; unfold tB at c ⊢; rw [c3 _ (by omega), c3 _ (by omega), c3 _ (by omega), hx]; omega)
      rw [ur_r] at e2
      obtain ⟨J3, hrun3, hJ3, hf3, e3⟩ := ih (k + 1) J2 (some (.int (iI (caN (J 194) (tlS S 230 2))))) (by omega) hJ2 (by rw [e2, hx]; simp only [ndW, if_pos q]) (by rw [hf2.s196, ur_o (by omega)]; exact hF)
      refine ⟨J3, ?_, hJ3, fD.u.t (hf2.dd.t hf3), e3⟩
      refine Eq.trans ?_ ((s158_48 ..).trans hrun3)
      have e5 : caS (J 194) (tlS S 230 2) (180 + k) = S (180 + k) := by rw [ek]; exact c2 _ (by omega)
      rw [q] at hbit
      simp (disch := first | omega | exact hJ _ _ | exact rJ_g hJ _ _ | (simp (disch := omega) only [ur_r, ur_o, up_r, up_o]; omega) | assumption) only [s158_7, s158_8, b158_9, s158_12, s158_13, s158_14, s158_15, s158_16, s158_17, b158_18, s158_21, s158_21v, s158_22, s158_25, s158_28, s158_29, s158_31, s158_31v, s158_32, s158_32v, s158_33, s158_36, s158_39, s158_40, s158_41, s158_42, s158_45, h.t193, h.r1, h.a194, rc, hbit, e5, hrun2, kl_i, kl_r, kl_l, kl_n, kl_z, bd_s, tl_s, tl_n, ap_c, ap_n, v_s, v_n, nd_1, nd_0, ct13, eq_self, iI_add, iI_sub, iI_mul, iI_nat, iI_eq, iI_lt, iI_le, iI_eq0, iI_lt0, ↓reduceIte, if_true, if_false, not_true_eq_false, not_false_eq_true, true_and, and_true, false_and, and_false, true_or, or_true, false_or, or_false, Int.reduceLT, Int.reduceLE, Int.reduceEq, Int.reduceAdd, Int.reduceSub, Int.reduceMul, Nat.reduceAdd, Nat.reduceLT, Nat.reduceEqDiff, Int.reduceNeg, nc_s, nc_0, Int.zero_add, Int.add_zero, oI_r, oI_w, oI_f0, oI_g0, oI_f1, oI_g1, oI_f2, oI_g2, oI_f3, oI_g3, oI_f4, oI_g4, oI_f5, oI_g5, oI_f6, oI_g6, oI_f7, oI_g7, oI_f8, oI_g8, oI_f9, oI_g9, oI_f10, oI_g10, oI_f11, oI_g11, oI_f12, oI_g12, oI_f13, oI_g13, oI_f14, oI_g14, oI_f15, oI_g15, oI_f16, oI_g16, oI_f17, oI_g17, oI_f18, oI_g18, oI_f19, oI_g19, oI_f20, oI_g20, oI_f21, oI_g21, oI_f22, oI_g22, oI_f23, oI_g23, oI_f24, oI_g24, oI_f25, oI_g25, ur_r, ur_o, ur_s, up_r, up_o, up_s, jI_add, jI_sub, jI_mul, jI_neg, jI_i, jI_n, lgc_j, cj_lt, cj_ge, cj_gt, cj_le, cj_eq, oL_r, oL_w, oL_f6, oL_g6, oL_f7, oL_g7, oL_f17, oL_g17, oL_f18, oL_g18, dl_T, dl_F, de_T, de_F, dle_T, dle_F, iI_divn, rem_n, nd_v, ct_s, Bool.false_eq_true]
    · obtain ⟨J2, hrun2, hJ2, hf2, e2⟩ := n_hour (d := d) (J := J) (L := L) (z := z) (w := w) h (S (180 + k)) hrk ts ho.2.2.1 hJ (by rw [hx]; exact a) (by rw [hx]; exact b.held ho.2.1) (by rw [hx]; exact b.oT ho.2.2.2.1) (by rw [hx]; unfold tB at c ⊢; omega)
      obtain ⟨J3, hrun3, hJ3, hf3, e3⟩ := ih (k + 1) J2 (some (.int (iI 0))) (by omega) hJ2 (by rw [e2, hx]; simp only [ndW, if_neg q]) (by rw [hf2.s196]; exact hF)
      refine ⟨J3, ?_, hJ3, hf2.dd.t hf3, e3⟩
      refine Eq.trans ?_ ((s158_48 ..).trans hrun3)
      have q0 : s / 2 ^ k % 2 = 0 := by omega
      rw [q0] at hbit
      simp (disch := first | omega | exact hJ _ _ | exact rJ_g hJ _ _ | (simp (disch := omega) only [ur_r, ur_o, up_r, up_o]; omega) | assumption) only [s158_7, s158_8, b158_9, s158_12, s158_13, s158_14, s158_15, s158_16, s158_17, b158_18, s158_21, s158_21v, s158_22, s158_25, s158_28, s158_29, s158_31, s158_31v, s158_32, s158_32v, s158_33, s158_36, s158_39, s158_40, s158_41, s158_42, s158_45, h.t193, h.r1, h.a194, hbit, ← ek, hrun2, kl_i, kl_r, kl_l, kl_n, kl_z, bd_s, tl_s, tl_n, ap_c, ap_n, v_s, v_n, nd_1, nd_0, ct13, eq_self, iI_add, iI_sub, iI_mul, iI_nat, iI_eq, iI_lt, iI_le, iI_eq0, iI_lt0, ↓reduceIte, if_true, if_false, not_true_eq_false, not_false_eq_true, true_and, and_true, false_and, and_false, true_or, or_true, false_or, or_false, Int.reduceLT, Int.reduceLE, Int.reduceEq, Int.reduceAdd, Int.reduceSub, Int.reduceMul, Nat.reduceAdd, Nat.reduceLT, Nat.reduceEqDiff, Int.reduceNeg, nc_s, nc_0, Int.zero_add, Int.add_zero, oI_r, oI_w, oI_f0, oI_g0, oI_f1, oI_g1, oI_f2, oI_g2, oI_f3, oI_g3, oI_f4, oI_g4, oI_f5, oI_g5, oI_f6, oI_g6, oI_f7, oI_g7, oI_f8, oI_g8, oI_f9, oI_g9, oI_f10, oI_g10, oI_f11, oI_g11, oI_f12, oI_g12, oI_f13, oI_g13, oI_f14, oI_g14, oI_f15, oI_g15, oI_f16, oI_g16, oI_f17, oI_g17, oI_f18, oI_g18, oI_f19, oI_g19, oI_f20, oI_g20, oI_f21, oI_g21, oI_f22, oI_g22, oI_f23, oI_g23, oI_f24, oI_g24, oI_f25, oI_g25, ur_r, ur_o, ur_s, up_r, up_o, up_s, jI_add, jI_sub, jI_mul, jI_neg, jI_i, jI_n, lgc_j, cj_lt, cj_ge, cj_gt, cj_le, cj_eq, oL_r, oL_w, oL_f6, oL_g6, oL_f7, oL_g7, oL_f17, oL_g17, oL_f18, oL_g18, dl_T, dl_F, de_T, de_F, dle_T, dle_F, iI_divn, rem_n, nd_v, ct_s, Bool.false_eq_true]
theorem n_isDry (h : rM T R) (ts : List Int) (hJ : rJ J) (ho : oR ts (J 194)) (s n : Nat) (hs : s < 4096) (hn : n ≤ 12) (hr : ∀ k : Nat, k < n → 0 ≤ J 194 (180 + k) ∧ J 194 (180 + k) ≤ 1) : ∃ J' : mR, rn_c (d + 6) 158 [.ref 193, .int (iI s), .int (iI n)] (T, oI J, L, R, z, w) = some (some (.int (iI (if ndW ts (J 194) s n 13 = 0 then 1 else 0))), (T, oI J', L, R, z, w)) ∧ rJ J' ∧ fD J J' ∧ J' 194 = J 194 := by
  obtain ⟨K, hk, hJK, fK, eK, FK⟩ := n_keeps0 (d := d + 5) (J := J) (L := L) (z := z) (w := w) h
  obtain ⟨J2, hrun2, hJ2, hf2, e2⟩ := dry_loop (d := d) (L := L) (z := z) (w := w) h ts (J 194) ho (fun j => hJ.1 _ _) s n hs hn hr n 0 K none (by omega) (hJK hJ) eK FK
  refine ⟨J2, ?_, hJ2, fK.t hf2, e2⟩
  refine Eq.trans ?_ hrun2
  simp (disch := first | omega | exact hJ _ _ | exact rJ_g hJ _ _ | (simp (disch := omega) only [ur_r, ur_o, up_r, up_o]; omega) | assumption) only [c158, s158_0, s158_0v, s158_1, s158_2, s158_5, s158_6, h.t193, hk, kl_i, kl_r, kl_l, kl_n, kl_z, bd_s, tl_s, tl_n, ap_c, ap_n, v_s, v_n, nd_1, nd_0, ct13, eq_self, iI_add, iI_sub, iI_mul, iI_nat, iI_eq, iI_lt, iI_le, iI_eq0, iI_lt0, ↓reduceIte, if_true, if_false, not_true_eq_false, not_false_eq_true, true_and, and_true, false_and, and_false, true_or, or_true, false_or, or_false, Int.reduceLT, Int.reduceLE, Int.reduceEq, Int.reduceAdd, Int.reduceSub, Int.reduceMul, Nat.reduceAdd, Nat.reduceLT, Nat.reduceEqDiff, Int.reduceNeg, nc_s, nc_0, Int.zero_add, Int.add_zero, oI_r, oI_w, oI_f0, oI_g0, oI_f1, oI_g1, oI_f2, oI_g2, oI_f3, oI_g3, oI_f4, oI_g4, oI_f5, oI_g5, oI_f6, oI_g6, oI_f7, oI_g7, oI_f8, oI_g8, oI_f9, oI_g9, oI_f10, oI_g10, oI_f11, oI_g11, oI_f12, oI_g12, oI_f13, oI_g13, oI_f14, oI_g14, oI_f15, oI_g15, oI_f16, oI_g16, oI_f17, oI_g17, oI_f18, oI_g18, oI_f19, oI_g19, oI_f20, oI_g20, oI_f21, oI_g21, oI_f22, oI_g22, oI_f23, oI_g23, oI_f24, oI_g24, oI_f25, oI_g25, ur_r, ur_o, ur_s, up_r, up_o, up_s, jI_add, jI_sub, jI_mul, jI_neg, jI_i, jI_n, lgc_j, cj_lt, cj_ge, cj_gt, cj_le, cj_eq, oL_r, oL_w, oL_f6, oL_g6, oL_f7, oL_g7, oL_f17, oL_g17, oL_f18, oL_g18, dl_T, dl_F, de_T, de_F, dle_T, dle_F, iI_divn, rem_n, nd_v, ct_s, Bool.false_eq_true]
def popN (s : Nat) : Nat := s % 2 + s / 2 % 2 + s / 4 % 2 + s / 8 % 2 + s / 16 % 2 + s / 32 % 2 + s / 64 % 2 + s / 128 % 2 + s / 256 % 2 + s / 512 % 2 + s / 1024 % 2 + s / 2048 % 2
theorem n_count1 (s : Nat) (hs : s < 4096) : rn_c d 157 [.int (iI s)] (T, I, L, R, z, w) = some (some (.int (iI (popN s))), (T, I, L, R, z, w)) := by
  have b (k : Nat) (hk : k < 32) := bit_e (s := s) (k := k) (by omega) hk
  have b0 : (iI (s : Int) >>> (iI 0 &&& 31)) &&& iI 1 = iI ((s % 2 : Nat) : Int) := (b 0 (by omega)).trans (by rw [Nat.pow_zero, Nat.div_one])
  have b1 : (iI (s : Int) >>> (iI 1 &&& 31)) &&& iI 1 = iI ((s / 2 % 2 : Nat) : Int) := b 1 (by omega)
  have b2 : (iI (s : Int) >>> (iI 2 &&& 31)) &&& iI 1 = iI ((s / 4 % 2 : Nat) : Int) := b 2 (by omega)
  have b3 : (iI (s : Int) >>> (iI 3 &&& 31)) &&& iI 1 = iI ((s / 8 % 2 : Nat) : Int) := b 3 (by omega)
  have b4 : (iI (s : Int) >>> (iI 4 &&& 31)) &&& iI 1 = iI ((s / 16 % 2 : Nat) : Int) := b 4 (by omega)
  have b5 : (iI (s : Int) >>> (iI 5 &&& 31)) &&& iI 1 = iI ((s / 32 % 2 : Nat) : Int) := b 5 (by omega)
  have b6 : (iI (s : Int) >>> (iI 6 &&& 31)) &&& iI 1 = iI ((s / 64 % 2 : Nat) : Int) := b 6 (by omega)
  have b7 : (iI (s : Int) >>> (iI 7 &&& 31)) &&& iI 1 = iI ((s / 128 % 2 : Nat) : Int) := b 7 (by omega)
  have b8 : (iI (s : Int) >>> (iI 8 &&& 31)) &&& iI 1 = iI ((s / 256 % 2 : Nat) : Int) := b 8 (by omega)
  have b9 : (iI (s : Int) >>> (iI 9 &&& 31)) &&& iI 1 = iI ((s / 512 % 2 : Nat) : Int) := b 9 (by omega)
  have b10 : (iI (s : Int) >>> (iI 10 &&& 31)) &&& iI 1 = iI ((s / 1024 % 2 : Nat) : Int) := b 10 (by omega)
  have b11 : (iI (s : Int) >>> (iI 11 &&& 31)) &&& iI 1 = iI ((s / 2048 % 2 : Nat) : Int) := b 11 (by omega)
  simp (disch := first | omega | exact hJ _ _ | exact rJ_g hJ _ _ | (simp (disch := omega) only [ur_r, ur_o, up_r, up_o]; omega) | assumption) only [c157, s157_0, s157_1, s157_2, s157_3, s157_4, s157_5, b157_7, s157_10, s157_11, s157_12, s157_13, s157_14, s157_15, s157_16, s157_17, s157_18, s157_21, s157_24, s157_25, b0, b1, b2, b3, b4, b5, b6, b7, b8, b9, b10, b11, kl_i, kl_r, kl_l, kl_n, kl_z, bd_s, tl_s, tl_n, ap_c, ap_n, v_s, v_n, nd_1, nd_0, ct13, eq_self, iI_add, iI_sub, iI_mul, iI_nat, iI_eq, iI_lt, iI_le, iI_eq0, iI_lt0, ↓reduceIte, if_true, if_false, not_true_eq_false, not_false_eq_true, true_and, and_true, false_and, and_false, true_or, or_true, false_or, or_false, Int.reduceLT, Int.reduceLE, Int.reduceEq, Int.reduceAdd, Int.reduceSub, Int.reduceMul, Nat.reduceAdd, Nat.reduceLT, Nat.reduceEqDiff, Int.reduceNeg, nc_s, nc_0, Int.zero_add, Int.add_zero, oI_r, oI_w, oI_f0, oI_g0, oI_f1, oI_g1, oI_f2, oI_g2, oI_f3, oI_g3, oI_f4, oI_g4, oI_f5, oI_g5, oI_f6, oI_g6, oI_f7, oI_g7, oI_f8, oI_g8, oI_f9, oI_g9, oI_f10, oI_g10, oI_f11, oI_g11, oI_f12, oI_g12, oI_f13, oI_g13, oI_f14, oI_g14, oI_f15, oI_g15, oI_f16, oI_g16, oI_f17, oI_g17, oI_f18, oI_g18, oI_f19, oI_g19, oI_f20, oI_g20, oI_f21, oI_g21, oI_f22, oI_g22, oI_f23, oI_g23, oI_f24, oI_g24, oI_f25, oI_g25, ur_r, ur_o, ur_s, up_r, up_o, up_s, jI_add, jI_sub, jI_mul, jI_neg, jI_i, jI_n, lgc_j, cj_lt, cj_ge, cj_gt, cj_le, cj_eq, oL_r, oL_w, oL_f6, oL_g6, oL_f7, oL_g7, oL_f17, oL_g17, oL_f18, oL_g18, dl_T, dl_F, de_T, de_F, dle_T, dle_F, iI_divn, rem_n, nd_v, ct_s, Bool.false_eq_true]
  have e : (popN s : Int) = ((s % 2 : Nat) : Int) + ((s / 2 % 2 : Nat) : Int) + ((s / 4 % 2 : Nat) : Int) + ((s / 8 % 2 : Nat) : Int) + ((s / 16 % 2 : Nat) : Int) + ((s / 32 % 2 : Nat) : Int) + ((s / 64 % 2 : Nat) : Int) + ((s / 128 % 2 : Nat) : Int) + ((s / 256 % 2 : Nat) : Int) + ((s / 512 % 2 : Nat) : Int) + ((s / 1024 % 2 : Nat) : Int) + ((s / 2048 % 2 : Nat) : Int) := rfl
  rw [e]
end AT
