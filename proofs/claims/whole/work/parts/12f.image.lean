/-! both sides: act, the image -/
section UF
variable {d : Nat} {T T' : Nat → Nat × Nat} {L : Nat → Nat → Int64} {R R' : Nat → Nat → Option Nat} {z z' w : Nat} {J J1 J2 J3 Q : mR} {t t' b : Nat} {S S' : Int → Int} {cs cs' : List CL} {ts : List Int}
theorem layL_r : ∀ (l : List Int) (i : Int) (B : Int → Int), (∀ v, v ∈ l → i32 v) → (∀ j, i32 (B j)) → ∀ j, i32 (layL l i B j) := by
  intro l
  induction l with
  | nil => intro i B _ hB; exact hB
  | cons v l ih => intro i B hv hB; exact ih _ _ (fun q hq => hv q (List.mem_cons_of_mem _ hq)) (up_rng hB (hv v (List.mem_cons_self ..)))
theorem lenL_e : ∀ (l : List Int) (i : Int), lenL l i = i + (l.length : Int) := by
  intro l
  induction l with
  | nil => intro i; show i = i + 0; omega
  | cons v l ih => intro i; show lenL l (i + 1) = _; rw [ih, List.length_cons]; omega
theorem acB_v (k a : Int) : ∀ v, v ∈ acB k a → i32 v := by
  intro v hv
  unfold acB teB wlB tkB at hv
  repeat' split at hv
  all_goals (simp only [List.mem_cons, List.not_mem_nil, or_false] at hv; omega)
theorem k_actF (h : clR T R J z) (l : List Int) (hl : l.length ≤ 8) (hv : ∀ v, v ∈ l → i32 v) (f : acJ J J1 l) (r1 : ∀ b, ¬ b = 193 → ¬ b = 204 → J3 b = nmI J1 b) (r2 : rJ J3) (r5 : J3 193 3 = nmI J1 193 3) (r6 : J3 193 22 = lenL l 0) (r7 : J3 204 = layL l 0 (nmI J1 204)) : clR T R J3 z ∧ ∀ b, b < 100 → J3 b = J b := by
  obtain ⟨hM, hr, hsk, hJ, hz5, hz0, hJ0, ⟨t, cs, hS, hP, ho, hw⟩, hq1, hq2, ⟨s1, s2⟩, hk, ⟨t1, t2, t3⟩⟩ := id h
  have htp := hS.1.2.2.2.2.2.2
  have htp2 := htp
  unfold tpl at htp2
  have htc := hS.1.1.1
  obtain ⟨f1, f2, f3⟩ := f
  have e : ∀ b, ¬ b = 137 → ¬ b = 138 → nmI J1 b = J b := fun b h1 h2 => nm_row hJ.1 (f1 b h1 h2)
  refine fin h tE.i (fun _ _ _ _ _ _ _ => rfl) (fun _ => rfl) rfl hq1 (Nat.le_refl _) hz0 htc htp (fun b _ _ _ b3 _ _ => f1 b (by omega) (by omega)) (fun b hb j => by rw [f1 b (by omega) (by omega)]; exact hJ0 b hb j) (by rw [f1 100 (by omega) (by omega)]) (fun j j0 j5 => by rw [f1 _ (by omega) (by omega)]; exact hS.1.1.2.2.2.2.2.2 j j0 j5) (stB_x (stB_of hS hP) tE.i (fun _ => rfl) rfl (fun _ => rfl) (fun a a1 a2 => f1 a (by omega) (by omega)) (fun j j0 j5 => by rw [f1 _ (by omega) (by omega)]; exact hS.1.1.2.2.2.2.2.2 j j0 j5) (fun x tg => ?_) (fun a ha => f1 a (by omega) (by omega))) (fun j hj => by rw [f1 105 (by omega) (by omega)]; exact hS.2.1.2.2.2.2 j hj) (fun k hk j hj => by rw [f1 _ (by omega) (by omega)]; exact hS.2.2 k hk j hj) ho hw (fun b hb => r1 b (by omega) (by omega)) r2 ?_ ?_ ?_ ⟨?_, ?_⟩ (fun j j0 j1 => ⟨?_, ?_⟩)
  · obtain ⟨x1, x2, x3, x4, x5, x6⟩ := wkx hM hr htc tg
    exact f1 x (by omega) (by omega)
  · rw [r1 194 (by omega) (by omega), e 194 (by omega) (by omega)]
  · rw [r1 195 (by omega) (by omega), e 195 (by omega) (by omega)]
  · rw [r5, e 193 (by omega) (by omega)]
  · rw [r6, f2]
  · rw [f2, lenL_e]; omega
  · rw [r7, f3, e 204 (by omega) (by omega)]
    exact layL_i (fun j j0 j1 => (t3 j j0 j1).symm) l 0 j j0 j1
  · rw [f3]; exact layL_r l 0 _ hv (hJ.1 138) j
theorem k_act (h : clR T R J z) (p a x : Int) (hp : i32 p) (ha : i32 a) : okC gI (d + 100) 83 171 [.int (iI p), .int (iI a), .int (iI x)] T J L R z w := by
  obtain ⟨hM, hr, hsk, hJ, hz5, hz0, hJ0, ⟨t, cs, hS, hP, ho, hw⟩, _⟩ := id h
  obtain ⟨J1, run1, f⟩ := c_act (d := d + 80) (L := L) (z := z) (w := w) hM ho hS p a x hp ha
  have e4 : nmI J1 194 = J 194 := nm_row hJ.1 (f.1 194 (by omega) (by omega))
  have rj := rJ_nm hJ (f.1 198 (by omega) (by omega))
  have run2 := n_act (d := d + 80) (J := nmI J1) (L := L) (z := z) (w := w) hr rj.1 (by rw [e4]; exact ho.1.2.2.2.2) (by rw [e4]; exact fun p hp => (ho.1.1 p hp).2.2.2.2.1) p a x hp ha
  rw [e4, nmI_o] at run2
  have fin0 : ∀ l : List Int, l = [] → acJ J J1 l → clR T R (ur (nmI J1) 193 (up (nmI J1 193) 22 0)) z ∧ ∀ b, b < 100 → ur (nmI J1) 193 (up (nmI J1 193) 22 0) b = J b := by
    intro l el f
    subst el
    exact k_actF h [] (by decide) (fun v hv => absurd hv (List.not_mem_nil)) f (fun b b1 _ => ur_o b1) ⟨rg_up rj.1 (up_rng (rj.1 193) (by omega)), fun j => by rw [ur_o (by omega)]; exact rj.2 j⟩ (by rw [ur_r, up_o (by omega)]) (by rw [ur_r, up_r]; rfl) (by rw [ur_o (by omega)]; rfl)
  by_cases c1 : p < 0
  · rw [if_pos c1] at run1 f
    rw [if_pos c1, if_pos c1] at run2
    obtain ⟨q1, q2⟩ := fin0 _ rfl f
    exact ⟨_, _, _, _, _, _, _, _, _, _, _, _, _, run1, run2, q1, q2, tE.i, by omega, by omega, ⟨_, rfl⟩, tE.i, f.1 0 (by omega) (by omega)⟩
  by_cases c2 : J 194 15 - 1 < p
  · rw [if_neg c1, if_pos c2] at run1 f
    rw [if_neg c1, if_neg c1, if_pos c2, if_pos c2] at run2
    obtain ⟨q1, q2⟩ := fin0 _ rfl f
    exact ⟨_, _, _, _, _, _, _, _, _, _, _, _, _, run1, run2, q1, q2, tE.i, by omega, by omega, ⟨_, rfl⟩, tE.i, f.1 0 (by omega) (by omega)⟩
  by_cases c3 : a < 0
  · rw [if_neg c1, if_neg c2, if_pos c3] at run1 f
    rw [if_neg c1, if_neg c1, if_neg c2, if_neg c2, if_pos c3, if_pos c3] at run2
    obtain ⟨q1, q2⟩ := fin0 _ rfl f
    exact ⟨_, _, _, _, _, _, _, _, _, _, _, _, _, run1, run2, q1, q2, tE.i, by omega, by omega, ⟨_, rfl⟩, tE.i, f.1 0 (by omega) (by omega)⟩
  by_cases c4 : 2 < a
  · rw [if_neg c1, if_neg c2, if_neg c3, if_pos c4] at run1 f
    rw [if_neg c1, if_neg c1, if_neg c2, if_neg c2, if_neg c3, if_neg c3, if_pos c4, if_pos c4] at run2
    obtain ⟨q1, q2⟩ := fin0 _ rfl f
    exact ⟨_, _, _, _, _, _, _, _, _, _, _, _, _, run1, run2, q1, q2, tE.i, by omega, by omega, ⟨_, rfl⟩, tE.i, f.1 0 (by omega) (by omega)⟩
  · rw [if_neg c1, if_neg c2, if_neg c3, if_neg c4] at run1 f
    rw [if_neg c1, if_neg c1, if_neg c2, if_neg c2, if_neg c3, if_neg c3, if_neg c4, if_neg c4] at run2
    have hk := ho.1.1 p ⟨by omega, by have := ho.1.2.2.2.2; omega⟩
    have hll := acB_n (J 194 (150 + p)) a
    have hvv := acB_v (J 194 (150 + p)) a
    have hlen := lenL_e (acB (J 194 (150 + p)) a) 0
    obtain ⟨q1, q2⟩ := k_actF (J3 := ur (ur (nmI J1) 204 (layL (acB (J 194 (150 + p)) a) 0 (nmI J1 204))) 193 (up (up (up (up (nmI J1 193) 22 (lenL (acB (J 194 (150 + p)) a) 0)) 23 (J 194 (150 + p))) 24 p) 25 (J 194 (156 + p)))) h _ hll hvv f (fun b b1 b2 => by rw [ur_o b1, ur_o b2]) ⟨rg_up (rg_up rj.1 (layL_r _ _ _ hvv (rj.1 204))) (up_rng (up_rng (up_rng (up_rng (rj.1 193) (by omega)) (by omega)) (by omega)) (by omega)), fun j => by rw [ur_o (by omega), ur_o (by omega)]; exact rj.2 j⟩ (by rw [ur_r, up_o (by omega), up_o (by omega), up_o (by omega), up_o (by omega)]) (by rw [ur_r, up_o (by omega), up_o (by omega), up_o (by omega), up_r]) (by rw [ur_o (by omega), ur_r])
    exact ⟨_, _, _, _, _, _, _, _, _, _, _, _, _, run1, run2, q1, q2, tE.i, by omega, by omega, ⟨_, rfl⟩, tE.i, f.1 0 (by omega) (by omega)⟩
/-- a row that agrees -/
theorem oR_n (h : oR ts S) (e : ∀ j, 0 ≤ j → j < 940 → S' j = S j) : oR ts S' := by
  obtain ⟨⟨s1, s2, s3, s4, s5⟩, h2, h3, ⟨q1, q2, q3, q4⟩, ⟨b1, b2, b3⟩, h6⟩ := h
  have tl : ∀ a b, 220 ≤ a → a ≤ 230 → tlS S' a b = tlS S a b := by
    intro a b ha hb
    unfold tlS
    rw [e 20 (by omega) (by omega)]
    split
    · rfl
    · rw [e _ (by omega) (by omega)]
  refine ⟨⟨fun p hp => ?_, fun j hj => ?_, ?_, ?_, ?_⟩, ?_, h3, ⟨by rw [e 20 (by omega) (by omega)]; exact q1, by rw [tl _ _ (by omega) (by omega)]; exact q2, by rw [tl _ _ (by omega) (by omega)]; exact q3, by rw [tl _ _ (by omega) (by omega)]; exact q4⟩, ⟨by rw [e 12 (by omega) (by omega)]; exact b1, by rw [e 13 (by omega) (by omega)]; exact b2, by rw [e 14 (by omega) (by omega)]; exact b3⟩, by rw [e 10 (by omega) (by omega)]; exact h6⟩
  · rw [e (162 + p) (by omega) (by omega), e (168 + p) (by omega) (by omega), e (4 + p) (by omega) (by omega), e (174 + p) (by omega) (by omega), e (150 + p) (by omega) (by omega), e (156 + p) (by omega) (by omega)]; exact s1 p hp
  · rw [e j (by omega) (by omega)]; exact s2 j hj
  · rw [e 10 (by omega) (by omega)]; exact s3
  · rw [e 11 (by omega) (by omega)]; exact s4
  · rw [e 15 (by omega) (by omega)]; exact s5
  · unfold held at h2 ⊢
    rw [e 20 (by omega) (by omega)]
    rcases h2 with h2 | ⟨a1, a2, a3, a4, a5⟩
    · exact Or.inl h2
    · exact Or.inr ⟨a1, a2, by rw [e _ (by omega) (by omega)]; exact a3, seg_e _ _ (fun j j0 j1 => e j (by omega) (by omega)) a4, a5⟩
theorem stB_n (h : stB T R J b t cs S) (ho : oR ts S) (hw : oW S) (e : ∀ j, 0 ≤ j → j < 940 → S' j = S j) : stB T R J b t cs S' := by
  obtain ⟨g1, g2, g3, ⟨g4, g5, g6⟩, g7, ⟨n1, n2, n3, n4⟩, ⟨g8, p1, p2, p3, p4⟩, p5, p6, p7, p8⟩ := h
  obtain ⟨w1, w2, w3, w4, _⟩ := hw
  have h15 := ho.1.2.2.2.2
  have h20 := ho.2.2.2.1.1
  have tl : ∀ a b, 220 ≤ a → a ≤ 230 → tlS S' a b = tlS S a b := by
    intro a b ha hb
    unfold tlS
    rw [e 20 (by omega) (by omega)]
    split
    · rfl
    · rw [e _ (by omega) (by omega)]
  unfold stB
  rw [e 15 (by omega) (by omega), e 16 (by omega) (by omega), e 17 (by omega) (by omega), e 18 (by omega) (by omega), e 19 (by omega) (by omega), e 10 (by omega) (by omega), e 11 (by omega) (by omega), tl _ _ (by omega) (by omega), tl _ _ (by omega) (by omega), tl _ _ (by omega) (by omega)]
  refine ⟨g1, g2, fun p hp => ?_, ⟨g4, g5, g6⟩, g7, ⟨fun j hj => by rw [e j (by omega) (by omega)]; exact n1 j hj, fun p hp => ?_, n3, n4⟩, ⟨g8, p1, p2, p3, p4⟩, fun k k0 k1 => by rw [e _ (by omega) (by omega)]; exact p5 k k0 k1, fun k k0 k1 => by rw [e _ (by omega) (by omega), e _ (by omega) (by omega)]; exact p6 k k0 k1, fun k k0 k1 => by rw [e _ (by omega) (by omega)]; exact p7 k k0 k1, p8⟩
  · obtain ⟨⟨x, x1, x2⟩, x3, x4⟩ := g3 p hp
    unfold pc1 at x2 ⊢
    refine ⟨⟨x, x1, ?_⟩, by rw [e _ (by omega) (by omega)]; exact x3, by rw [e _ (by omega) (by omega), e _ (by omega) (by omega)]; exact x4⟩
    rw [e (150 + (p : Int)) (by omega) (by omega), e (162 + (p : Int)) (by omega) (by omega), e (168 + (p : Int)) (by omega) (by omega), e (156 + (p : Int)) (by omega) (by omega)]
    exact x2
  · rw [n2 p hp]; unfold dOf
    rw [e (4 + p) (by omega) (by omega), e (162 + p) (by omega) (by omega), e (168 + p) (by omega) (by omega)]
theorem oW_n (h : oW S) (h15 : 0 ≤ S 15 ∧ S 15 ≤ 6) (e : ∀ j, 0 ≤ j → j < 940 → S' j = S j) : oW S' := oW_g h (fun j hj => e j (by omega) (by omega)) h15.2
theorem cp_940 (A B : Int → Int) : ∀ j, 0 ≤ j → j < 940 → cp9 A B 940 j = B j := fun j h0 h1 => by unfold cp9; rw [if_pos ⟨h0, h1⟩]
theorem cp_r {A B : Int → Int} (hA : ∀ j, i32 (A j)) (hB : ∀ j, i32 (B j)) : ∀ j, i32 (cp9 A B 940 j) := by
  intro j
  unfold cp9
  split
  · exact hB j
  · exact hA j
theorem k_image (h : clR T R J z) : okC gI (d + 100) 86 174 [] T J L R z w := by
  obtain ⟨hM, hr, hsk, hJ, hz5, hz0, hJ0, ⟨t, cs, hS, hP, ho, hw⟩, hq1, hq2, ⟨s1, s2⟩, hk, ⟨t1, t2, t3⟩⟩ := id h
  have htp := hS.1.2.2.2.2.2.2
  have htp2 := htp
  unfold tpl at htp2
  have htc := hS.1.1.1
  have tz := tlt hz0 htc
  obtain ⟨w1, w2, w3, w4, _⟩ := id hw
  obtain ⟨J1, R', run0, sB, f, r, hq'⟩ := c_copy (d := d + 97) (L := L) (z := z) (w := w) hM.s119 hM.s101 (by omega) hq1 (stB_of hS hP) ⟨ho.1.2.2.2.2.2, w2.2, w3.2, w4.2⟩ (by omega) (by omega) (by omega)
  have hE : rE T R R' := fun b j _ _ h4 _ h9 => r b j h4 h9
  have hM' := cM_x hM tE.i hE
  have hr' := rM_x hr tE.i hE
  obtain ⟨K, hK⟩ : ∃ K, K = ur J1 100 (up (J1 100) 2 1) := ⟨_, rfl⟩
  have ko : ∀ b, ¬ b = 100 → K b = J1 b := fun b hb => by rw [hK, ur_o hb]
  have e3 : J1 101 3 = J 194 15 := by rw [f 101 (by omega) (by omega) (by omega)]; exact hS.1.2.2.1.2
  have run1 : rn_c (d + 100) 86 [.ref 100] (T, oI J, L, R, z, w) = some (some (.int (iI (J 194 15))), (T, oI K, L, R', z, w)) := by
    rw [hK]
    simp (disch := first | omega | exact hJ _ _ | exact rJ_g hJ _ _ | (simp (disch := omega) only [ur_r, ur_o, up_r, up_o]; omega) | assumption) only [c86, c86, s86_0, s86_0v, s86_1, s86_4, s86_4v, s86_5, s86_8, s86_11, s86_11v, s86_12, s86_13, s86_16, s86_16v, s86_17, s86_20, s86_23, hM.t100, hM.t101, hM.t119, hM.r100_0, hM.r100_1, v_s, run0, hM'.t100, hM'.t101, hM'.r100_0, e3, List.contains_cons, List.contains_nil, beq_self_eq_true, Bool.or_false, kl_i, kl_r, kl_l, kl_n, kl_z, bd_s, tl_s, tl_n, ap_c, ap_n, v_s, v_n, nd_1, nd_0, ct13, eq_self, iI_add, iI_sub, iI_mul, iI_nat, iI_eq, iI_lt, iI_le, iI_eq0, iI_lt0, ↓reduceIte, if_true, if_false, not_true_eq_false, not_false_eq_true, true_and, and_true, false_and, and_false, true_or, or_true, false_or, or_false, Int.reduceLT, Int.reduceLE, Int.reduceEq, Int.reduceAdd, Int.reduceSub, Int.reduceMul, Nat.reduceAdd, Nat.reduceLT, Nat.reduceEqDiff, Int.reduceNeg, nc_s, nc_0, Int.zero_add, Int.add_zero, oI_r, oI_w, oI_f0, oI_g0, oI_f1, oI_g1, oI_f2, oI_g2, oI_f3, oI_g3, oI_f4, oI_g4, oI_f5, oI_g5, oI_f6, oI_g6, oI_f7, oI_g7, oI_f8, oI_g8, oI_f9, oI_g9, oI_f10, oI_g10, oI_f11, oI_g11, oI_f12, oI_g12, oI_f13, oI_g13, oI_f14, oI_g14, oI_f15, oI_g15, oI_f16, oI_g16, oI_f17, oI_g17, oI_f18, oI_g18, oI_f19, oI_g19, oI_f20, oI_g20, oI_f21, oI_g21, oI_f22, oI_g22, oI_f23, oI_g23, oI_f24, oI_g24, oI_f25, oI_g25, ur_r, ur_o, ur_s, up_r, up_o, up_s, jI_add, jI_sub, jI_mul, jI_neg, jI_i, jI_n, lgc_j, cj_lt, cj_ge, cj_gt, cj_le, cj_eq, oL_r, oL_w, oL_f6, oL_g6, oL_f7, oL_g7, oL_f17, oL_g17, oL_f18, oL_g18, dl_T, dl_F, de_T, de_F, dle_T, dle_F, iI_divn, rem_n, nd_v, ct_s, Bool.false_eq_true]
  have e4 : nmI K 194 = J 194 := nm_row hJ.1 ((ko 194 (by omega)).trans (f 194 (by omega) (by omega) (by omega)))
  have e3' : nmI K 193 = J 193 := nm_row hJ.1 ((ko 193 (by omega)).trans (f 193 (by omega) (by omega) (by omega)))
  have e5 : nmI K 195 = J 195 := nm_row hJ.1 ((ko 195 (by omega)).trans (f 195 (by omega) (by omega) (by omega)))
  have rj := rJ_nm hJ ((ko 198 (by omega)).trans (f 198 (by omega) (by omega) (by omega)))
  have run2 := n_image (d := d + 98) (J := nmI K) (L := L) (z := z) (w := w) hr'
  rw [e4, nmI_o, e3', e5] at run2
  obtain ⟨J3, hJ3⟩ : ∃ J3, J3 = ur (ur (nmI K) 195 (cp9 (J 195) (J 194) 940)) 193 (up (J 193) 3 1) := ⟨_, rfl⟩
  rw [← hJ3] at run2
  have j193 : J3 193 = up (J 193) 3 1 := by rw [hJ3, ur_r]
  have j195 : J3 195 = cp9 (J 195) (J 194) 940 := by rw [hJ3, ur_o (by omega), ur_r]
  have jo : ∀ b, ¬ b = 193 → ¬ b = 195 → J3 b = nmI K b := fun b b1 b2 => by rw [hJ3, ur_o b1, ur_o b2]
  have j194 : J3 194 = J 194 := (jo 194 (by omega) (by omega)).trans e4
  have r1 : ∀ b, ¬ (193 ≤ b ∧ b ≤ 204) → J3 b = nmI K b := fun b hb => jo b (by omega) (by omega)
  have lo : ∀ b, b < 100 → J3 b = J b := fun b hb => (jo b (by omega) (by omega)).trans (nm_row hJ.1 ((ko b (by omega)).trans (f b (by omega) (by omega) (by omega))))
  have kt : ∀ a, t ≤ a → a ≤ t + 6 → K a = J a := fun a a1 a2 => (ko a (by omega)).trans (f a (by omega) (by omega) (by omega))
  have hFt : ∀ j, 0 ≤ j → j < 5 → i32 (K (t + 6) j) := fun j j0 j5 => by rw [kt _ (by omega) (by omega)]; exact hS.1.1.2.2.2.2.2.2 j j0 j5
  have wk : ∀ x, [1, 2, 3, 4, 5, 6, 10].contains (T x).1 = true → K x = J1 x := fun x tg => ko x (by have := (wkx hM hr htc tg).1; omega)
  have wk2 : ∀ x, [1, 2, 3, 4, 5, 6, 10].contains (T x).1 = true → K x = J x := by
    intro x tg
    obtain ⟨x1, x2, x3, x4, x5, x6⟩ := wkx hM hr htc tg
    have e0 : ∀ (a : Nat) (v : Nat × Nat), T a = v → ¬ [1, 2, 3, 4, 5, 6, 10].contains v.1 = true → x = a → False := fun a v hv hn e => hn (by rw [← hv, ← e]; exact tg)
    obtain ⟨v1, v2, v3, v4, _⟩ := hM.w120
    refine (ko x (by omega)).trans (f x (fun q => ?_) (e0 _ _ hM.t125 (by decide)) (fun q => ?_))
    · have : x = 119 ∨ x = 120 ∨ x = 121 ∨ x = 122 := by omega
      rcases this with e | e | e | e
      · exact e0 _ _ hM.t119 (by decide) e
      · exact e0 _ _ v1 (by decide) e
      · exact e0 _ _ v2 (by decide) e
      · exact e0 _ _ v3 (by decide) e
    · have : x = 133 ∨ x = 134 ∨ x = 135 ∨ x = 136 := by omega
      rcases this with e | e | e | e
      · exact e0 _ _ hM.t133 (by decide) e
      · exact e0 _ _ hM.t134 (by decide) e
      · exact e0 _ _ hM.t135 (by decide) e
      · exact e0 _ _ hM.t136 (by decide) e
  -- what there is now
  have nowB : stB T R' K 101 t cs (J 194) := stB_x (stB_of hS hP) tE.i (fun k => r 106 k (by omega) (by omega)) (r 101 4 (by omega) (by omega)) (fun j => r t j (by omega) (by omega)) (fun a a1 a2 => kt a a1 (by omega)) hFt wk2 (fun a ha => (ko a (by omega)).trans (f a (by omega) (by omega) (by omega)))
  -- what is kept
  have keptB : stB T R' K 119 t cs (J 194) := stB_x sB tE.i (fun _ => rfl) rfl (fun _ => rfl) (fun a a1 a2 => ko a (by omega)) hFt wk (fun a ha => ko a (by omega))
  have nB := stB_r hM' hr' (stB_nm nowB ho hw) (Or.inl rfl) r1
  have kB := stB_r hM' hr' (stB_nm keptB ho hw) (Or.inr rfl) r1
  have n0 : ∀ a j, K a j = 0 → nmI K a j = 0 := fun a j e => nm_v e (by omega)
  have hcl := stB_to nB (fun j hj => by rw [jo 105 (by omega) (by omega)]; exact n0 _ _ (by rw [ko _ (by omega), f 105 (by omega) (by omega) (by omega)]; exact hS.2.1.2.2.2.2 j hj)) (fun k hk j hj => by rw [jo _ (by omega) (by omega)]; exact n0 _ _ (by rw [ko _ (by omega), f _ (by omega) (by omega) (by omega)]; exact hS.2.2 k hk j hj))
  refine ⟨_, _, _, _, _, _, _, T, J3, L, R', z, w, run1, run2, ⟨hM', hr', sK_x hsk lo, ⟨?_, fun j => by rw [jo 198 (by omega) (by omega)]; exact rj.2 j⟩, hz5, hz0, fun b hb j => ?_, ⟨t, cs, by rw [j194]; exact hcl.1, by rw [j194]; exact hcl.2, by rw [j194]; exact ho, by rw [j194]; exact hw⟩, qW_x hq1 tE.i (fun k => r 106 k (by omega) (by omega)), hq', ⟨?_, Or.inr (by rw [j193, up_r])⟩, fun _ => ⟨t, cs, ?_, ?_, ?_⟩, ⟨?_, ?_, fun j j0 j1 => ?_⟩⟩, lo, tE.i, by omega, by omega, ⟨_, rfl⟩, tE.i, (ko 0 (by omega)).trans (f 0 (by omega) (by omega) (by omega))⟩
  · rw [hJ3]
    exact rg_up (rg_up rj.1 (cp_r (hJ.1 195) (hJ.1 194))) (up_rng (hJ.1 193) (by omega))
  · rw [jo b (by omega) (by omega)]
    exact n0 _ _ (by rw [ko b (by omega), f b (by omega) (by omega) (by omega)]; exact hJ0 b hb j)
  · rw [jo 100 (by omega) (by omega), j193, up_r]
    refine nm_v ?_ (by omega)
    rw [hK, ur_r, up_r]
  · rw [j195]; exact stB_n kB ho hw (cp_940 _ _)
  · rw [j195]; exact oR_n ho (cp_940 _ _)
  · rw [j195]; exact oW_n hw ho.1.2.2.2.2 (cp_940 _ _)
  · rw [jo 137 (by omega) (by omega), j193, up_o (by omega), nm_row hJ.1 ((ko 137 (by omega)).trans (f 137 (by omega) (by omega) (by omega)))]; exact t1
  · rw [j193, up_o (by omega)]; exact t2
  · rw [jo 138 (by omega) (by omega), jo 204 (by omega) (by omega), nm_row hJ.1 ((ko 138 (by omega)).trans (f 138 (by omega) (by omega) (by omega))), nm_row hJ.1 ((ko 204 (by omega)).trans (f 204 (by omega) (by omega) (by omega)))]; exact t3 j j0 j1
theorem k_undo (h : clR T R J z) : okC gI (d + 100) 87 175 [] T J L R z w := by
  obtain ⟨hM, hr, hsk, hJ, hz5, hz0, hJ0, ⟨t, cs, hS, hP, ho, hw⟩, hq1, hq2, ⟨s1, s2⟩, hk, ⟨t1, t2, t3⟩⟩ := id h
  have htp := hS.1.2.2.2.2.2.2
  have htp2 := htp
  unfold tpl at htp2
  have htc := hS.1.1.1
  have tz := tlt hz0 htc
  rcases s2 with s2 | s2
  · have s1' : J 100 2 = 0 := by omega
    have run1 : rn_c (d + 100) 87 [.ref 100] (T, oI J, L, R, z, w) = some (some (.int (iI (-3))), (T, oI J, L, R, z, w)) := by
      simp (disch := first | omega | exact hJ _ _ | exact rJ_g hJ _ _ | (simp (disch := omega) only [ur_r, ur_o, up_r, up_o]; omega) | assumption) only [c87, s87_0, s87_0v, s87_1, b87_4, s87_7, s87_9, hM.t100, s1', kl_i, kl_r, kl_l, kl_n, kl_z, bd_s, tl_s, tl_n, ap_c, ap_n, v_s, v_n, nd_1, nd_0, ct13, eq_self, iI_add, iI_sub, iI_mul, iI_nat, iI_eq, iI_lt, iI_le, iI_eq0, iI_lt0, ↓reduceIte, if_true, if_false, not_true_eq_false, not_false_eq_true, true_and, and_true, false_and, and_false, true_or, or_true, false_or, or_false, Int.reduceLT, Int.reduceLE, Int.reduceEq, Int.reduceAdd, Int.reduceSub, Int.reduceMul, Nat.reduceAdd, Nat.reduceLT, Nat.reduceEqDiff, Int.reduceNeg, nc_s, nc_0, Int.zero_add, Int.add_zero, oI_r, oI_w, oI_f0, oI_g0, oI_f1, oI_g1, oI_f2, oI_g2, oI_f3, oI_g3, oI_f4, oI_g4, oI_f5, oI_g5, oI_f6, oI_g6, oI_f7, oI_g7, oI_f8, oI_g8, oI_f9, oI_g9, oI_f10, oI_g10, oI_f11, oI_g11, oI_f12, oI_g12, oI_f13, oI_g13, oI_f14, oI_g14, oI_f15, oI_g15, oI_f16, oI_g16, oI_f17, oI_g17, oI_f18, oI_g18, oI_f19, oI_g19, oI_f20, oI_g20, oI_f21, oI_g21, oI_f22, oI_g22, oI_f23, oI_g23, oI_f24, oI_g24, oI_f25, oI_g25, ur_r, ur_o, ur_s, up_r, up_o, up_s, jI_add, jI_sub, jI_mul, jI_neg, jI_i, jI_n, lgc_j, cj_lt, cj_ge, cj_gt, cj_le, cj_eq, oL_r, oL_w, oL_f6, oL_g6, oL_f7, oL_g7, oL_f17, oL_g17, oL_f18, oL_g18, dl_T, dl_F, de_T, de_F, dle_T, dle_F, iI_divn, rem_n, nd_v, ct_s, Bool.false_eq_true]
    have run2 := n_undo (d := d + 98) (J := J) (L := L) (z := z) (w := w) hr hJ.1
    rw [if_pos s2, if_pos s2] at run2
    exact ⟨_, _, _, _, _, _, _, _, _, _, _, _, _, run1, run2, h, fun _ _ => rfl, tE.i, by omega, by omega, ⟨_, rfl⟩, tE.i, rfl⟩
  · obtain ⟨tk', csk, kB, ko', kw⟩ := hk s2
    have ktp := kB.2.2.2.2.1
    have ktp2 := ktp
    unfold tpl at ktp2
    obtain ⟨w1, w2, w3, w4, _⟩ := id kw
    have s1' : J 100 2 = 1 := by omega
    obtain ⟨J1, R', run0, sB, f, r, hq'⟩ := c_copy (d := d + 97) (L := L) (z := z) (w := w) hM.s101 hM.s119 (by omega) hq2 kB ⟨ko'.1.2.2.2.2.2, w2.2, w3.2, w4.2⟩ (by omega) (by omega) (by omega)
    have hE : rE T R R' := fun b j _ h4 _ h9 _ => r b j h4 h9
    have hM' := cM_x hM tE.i hE
    have hr' := rM_x hr tE.i hE
    have e3 : J1 101 3 = J 195 15 := sB.2.2.2.2.2.2.1.1
    have run1 : rn_c (d + 100) 87 [.ref 100] (T, oI J, L, R, z, w) = some (some (.int (iI (J 195 15))), (T, oI J1, L, R', z, w)) := by
      simp (disch := first | omega | exact hJ _ _ | exact rJ_g hJ _ _ | (simp (disch := omega) only [ur_r, ur_o, up_r, up_o]; omega) | assumption) only [c87, c87, s87_0, s87_0v, s87_1, b87_4, s87_7, s87_9, s87_10, s87_10v, s87_11, s87_14, s87_14v, s87_15, s87_18, s87_21, s87_21v, s87_22, s87_25, s87_28, hM.t100, hM.t101, hM.t119, hM.r100_0, hM.r100_1, v_s, s1', run0, hM'.t100, hM'.t101, hM'.r100_0, e3, kl_i, kl_r, kl_l, kl_n, kl_z, bd_s, tl_s, tl_n, ap_c, ap_n, v_s, v_n, nd_1, nd_0, ct13, eq_self, iI_add, iI_sub, iI_mul, iI_nat, iI_eq, iI_lt, iI_le, iI_eq0, iI_lt0, ↓reduceIte, if_true, if_false, not_true_eq_false, not_false_eq_true, true_and, and_true, false_and, and_false, true_or, or_true, false_or, or_false, Int.reduceLT, Int.reduceLE, Int.reduceEq, Int.reduceAdd, Int.reduceSub, Int.reduceMul, Nat.reduceAdd, Nat.reduceLT, Nat.reduceEqDiff, Int.reduceNeg, nc_s, nc_0, Int.zero_add, Int.add_zero, oI_r, oI_w, oI_f0, oI_g0, oI_f1, oI_g1, oI_f2, oI_g2, oI_f3, oI_g3, oI_f4, oI_g4, oI_f5, oI_g5, oI_f6, oI_g6, oI_f7, oI_g7, oI_f8, oI_g8, oI_f9, oI_g9, oI_f10, oI_g10, oI_f11, oI_g11, oI_f12, oI_g12, oI_f13, oI_g13, oI_f14, oI_g14, oI_f15, oI_g15, oI_f16, oI_g16, oI_f17, oI_g17, oI_f18, oI_g18, oI_f19, oI_g19, oI_f20, oI_g20, oI_f21, oI_g21, oI_f22, oI_g22, oI_f23, oI_g23, oI_f24, oI_g24, oI_f25, oI_g25, ur_r, ur_o, ur_s, up_r, up_o, up_s, jI_add, jI_sub, jI_mul, jI_neg, jI_i, jI_n, lgc_j, cj_lt, cj_ge, cj_gt, cj_le, cj_eq, oL_r, oL_w, oL_f6, oL_g6, oL_f7, oL_g7, oL_f17, oL_g17, oL_f18, oL_g18, dl_T, dl_F, de_T, de_F, dle_T, dle_F, iI_divn, rem_n, nd_v, ct_s, Bool.false_eq_true]
    have e4 : nmI J1 194 = J 194 := nm_row hJ.1 (f 194 (by omega) (by omega) (by omega))
    have e3' : nmI J1 193 = J 193 := nm_row hJ.1 (f 193 (by omega) (by omega) (by omega))
    have e5 : nmI J1 195 = J 195 := nm_row hJ.1 (f 195 (by omega) (by omega) (by omega))
    have rj := rJ_nm hJ (f 198 (by omega) (by omega) (by omega))
    have run2 := n_undo (d := d + 98) (J := nmI J1) (L := L) (z := z) (w := w) hr' rj.1
    have n3 : ¬ J 193 3 = 0 := by omega
    rw [e4, nmI_o, e3', e5, if_neg n3, if_neg n3] at run2
    have c9 := cp_940 (J 194) (J 195)
    obtain ⟨c1, c2⟩ := fin2 h tE.i hE (fun k => r 124 k (by omega) (by omega)) (r 119 4 (by omega) (by omega)) hq' (Nat.le_refl _) hz0 htc htp (fun b b0 b1 b2 b3 b4 b5 => f b (by omega) (by omega) (by omega)) (fun b hb j => by rw [f b (by omega) (by omega) (by omega)]; exact hJ0 b hb j) (by rw [f 100 (by omega) (by omega) (by omega)]) (fun j j0 j5 => by rw [f _ (by omega) (by omega) (by omega)]; exact hS.1.1.2.2.2.2.2.2 j j0 j5) (f 137 (by omega) (by omega) (by omega)) (f 138 (by omega) (by omega) (by omega)) (stB_n sB ko' kw c9) (fun j hj => by rw [f 105 (by omega) (by omega) (by omega)]; exact hS.2.1.2.2.2.2 j hj) (fun k hk j hj => by rw [f _ (by omega) (by omega) (by omega)]; exact hS.2.2 k hk j hj) (oR_n ko' c9) (oW_n kw ko'.1.2.2.2.2 c9) (fG.s _) (rJ_s rj (cp_r (hJ.1 194) (hJ.1 195))) ur_r
    exact ⟨_, _, _, _, _, _, _, _, _, _, _, _, _, run1, run2, c1, c2, tE.i, by omega, by omega, ⟨_, rfl⟩, tE.i, f 0 (by omega) (by omega) (by omega)⟩
end UF
