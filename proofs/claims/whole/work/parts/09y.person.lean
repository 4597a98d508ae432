/-! the class: person -/
section PE
variable {d : Nat} {T : Nat → Nat × Nat} {L : Nat → Nat → Int64} {R : Nat → Nat → Option Nat} {z w : Nat} {J Q : mR} {t : Nat} {S : Int → Int} {cs : List CL}
theorem kT_w (k : Int) : [1, 2, 3, 4, 5, 6, 10].contains (kT k) = true ∧ (kT k == 11) = false := by
  unfold kT
  repeat' split
  all_goals exact ⟨rfl, rfl⟩
/-- the state of who comes -/
def peS (S : Int → Int) (k v a b : Int) : Int → Int := up (up (up (up (up (up (up S (150 + S 15) k) (156 + S 15) v) (162 + S 15) a) (168 + S 15) b) (174 + S 15) 1) (4 + S 15) 0) 15 (S 15 + 1)
def peJ (J : mR) (z : Nat) (n k v a b : Int) : mR := ur (ur (ur (ur J z (wkV (J z) k n v a b)) 107 (up (J 107) n 1)) 104 (up (J 104) n a)) 101 (up (J 101) 3 (n + 1))
theorem cS_p (hM : cM T R) (hz : ∀ b, z ≤ b → (T b).1 = 0) (h : cS T R J t cs S) (hT : oT S) (h15 : 0 ≤ S 15 ∧ S 15 < 6) (k v a b : Int) (hab : ¬ a = b) : cS (am_tu T z (kT k, 0)) (am_u R 106 (S 15).toNat (some z)) (peJ J z (S 15) k v a b) t cs (peS S k v a b) := by
  have h7 := h.1.2.2.2.2.2.2
  unfold tpl at h7
  have z100 : ¬ 100 = z := by intro e; have := hz 100 (by omega); rw [hM.t100] at this; exact absurd this (by decide)
  have z101 : ¬ z = 101 := by intro e; have := hz 101 (by omega); rw [hM.t101] at this; exact absurd this (by decide)
  have z104 : ¬ z = 104 := by intro e; have := hz 104 (by omega); rw [hM.w102.2.2.1] at this; exact absurd this (by decide)
  have z107 : ¬ z = 107 := by intro e; have := hz 107 (by omega); rw [hM.t107] at this; exact absurd this (by decide)
  have zt : ¬ t + 6 = z := by intro e; have := hz (t + 6) (by omega); rw [h.1.1.1.2.2.2.2.2.2.1] at this; exact absurd this (by decide)
  have zk : ∀ k : Nat, k < 13 → ¬ 141 + 4 * k + 3 = z := by intro k hk e; have := hz (141 + 4 * k + 3) (by omega); rw [(hM.wt k hk).2.2.2.1] at this; exact absurd this (by decide)
  have tz : tE T (am_tu T z (kT k, 0)) := fun b hb => tu_o (fun e => hb (hz b (by omega)))
  obtain ⟨J1, hJ1⟩ : ∃ J1, J1 = ur J z (wkV (J z) k (S 15) v a b) := ⟨_, rfl⟩
  have f1 : ∀ b, ¬ b = z → J1 b = J b := fun b hb => by rw [hJ1, ur_o hb]
  have h' := cS_z (J' := J1) (z' := z + 1) (T' := am_tu T z (kT k, 0)) (R' := R) hM hz h tz (fun _ _ _ _ _ _ _ => rfl) rfl (fun _ => rfl) ⟨fun b b1 _ _ _ => f1 b (by omega), fun j _ => by rw [f1 _ z100], fun j j0 j5 => by rw [f1 _ zt]; exact h.1.1.2.2.2.2.2.2 j j0 j5, fun k hk j hj => by rw [f1 _ (zk k hk)]; exact h.2.2 k hk j hj⟩
  have hMT : cM (am_tu T z (kT k, 0)) R := cM_x hM tz (fun _ _ _ _ _ _ _ => rfl)
  obtain ⟨X, hX⟩ : ∃ X, X = peJ J z (S 15) k v a b := ⟨_, rfl⟩
  have f : ∀ b, ¬ b = 101 → ¬ b = 104 → ¬ b = 107 → X b = J1 b := fun b q1 q2 q3 => by rw [hX, hJ1]; unfold peJ; rw [ur_o q1, ur_o q2, ur_o q3]
  have x1 : X 101 = up (J 101) 3 (S 15 + 1) := by rw [hX]; unfold peJ; rw [ur_r]
  have x4 : X 104 = up (J 104) (S 15) a := by rw [hX]; unfold peJ; rw [ur_o (by omega), ur_r]
  have x7 : X 107 = up (J 107) (S 15) 1 := by rw [hX]; unfold peJ; rw [ur_o (by omega), ur_o (by omega), ur_r]
  have xz : X z = wkV (J z) k (S 15) v a b := by rw [f z z101 z104 z107, hJ1, ur_r]
  have y4 : J1 104 = J 104 := f1 _ (fun e => z104 e.symm)
  have y7 : J1 107 = J 107 := f1 _ (fun e => z107 e.symm)
  rw [← hX]
  obtain ⟨⟨g1, g2, g3, g4, g5, g6, g7⟩, ⟨n1, n2, n3, n4, n5⟩, hcz⟩ := h'
  have px : ∀ j, ¬ j = 15 → ¬ j = 4 + S 15 → ¬ j = 150 + S 15 → ¬ j = 156 + S 15 → ¬ j = 162 + S 15 → ¬ j = 168 + S 15 → ¬ j = 174 + S 15 → peS S k v a b j = S j := fun j q1 q2 q3 q4 q5 q6 q7 => by unfold peS; rw [up_o q1, up_o q2, up_o q7, up_o q6, up_o q5, up_o q4, up_o q3]
  have p15 : peS S k v a b 15 = S 15 + 1 := by unfold peS; rw [up_r]
  have p4 : peS S k v a b (4 + S 15) = 0 := by unfold peS; simp (disch := omega) only [up_o, up_r]
  have p150 : peS S k v a b (150 + S 15) = k := by unfold peS; simp (disch := omega) only [up_o, up_r]
  have p156 : peS S k v a b (156 + S 15) = v := by unfold peS; simp (disch := omega) only [up_o, up_r]
  have p162 : peS S k v a b (162 + S 15) = a := by unfold peS; simp (disch := omega) only [up_o, up_r]
  have p168 : peS S k v a b (168 + S 15) = b := by unfold peS; simp (disch := omega) only [up_o, up_r]
  have p174 : peS S k v a b (174 + S 15) = 1 := by unfold peS; simp (disch := omega) only [up_o, up_r]
  generalize peS S k v a b = S' at *
  have tl : ∀ a b, 200 ≤ a → tlS S' a b = tlS S a b := by
    intro a b ha
    have := hT.1
    unfold tlS
    rw [px 20 (by omega) (by omega) (by omega) (by omega) (by omega) (by omega) (by omega)]
    split
    · rfl
    · rw [px _ (by omega) (by omega) (by omega) (by omega) (by omega) (by omega) (by omega)]
  have ht : ∀ b, t ≤ b → b ≤ t + 6 → X b = J1 b := fun b b1 b2 => f b (by omega) (by omega) (by omega)
  have gt := ht t (by omega) (by omega)
  have ro : ∀ b j, ¬ b = 106 → am_u R 106 (S 15).toNat (some z) b j = R b j := fun b j hb => am_u_o (fun q => hb q.1)
  refine ⟨⟨?_, by rw [ro _ _ (by decide)]; exact g2, ⟨fun q hq => ?_, by rw [x1, up_r, p15]⟩, by rw [gt, tl _ _ (by omega)]; exact g4, by rw [gt, tl _ _ (by omega)]; exact g5, by rw [gt, tl _ _ (by omega)]; exact g6, g7⟩, ⟨fun j hj => ?_, fun q hq => ?_, ?_, ?_, fun j hj => ?_⟩, fun k hk j hj => ?_⟩
  · obtain ⟨e1, e2, e3, e4, e5, e6, e7⟩ := g1
    refine ⟨?_, e2, fun h s a1 a2 a3 a4 => ?_, loR_x gt (ht (t + 2) (by omega) (by omega)) (ht (t + 3) (by omega) (by omega)) (ht (t + 4) (by omega) (by omega)) (ht (t + 5) (by omega) (by omega)) cs 0 0 e4, by rw [gt]; exact e5, by rw [gt]; exact e6, fun j j0 j5 => by rw [ht _ (by omega) (by omega)]; exact e7 j j0 j5⟩
    · unfold tc
      simp only [ro t _ (show ¬ t = 106 by omega)]
      exact e1
    · rw [ht (t + 1) (by omega) (by omega)]; exact e3 h s a1 a2 a3 a4
  · rw [p15] at hq
    by_cases e : (q : Int) = S 15
    · have eq : q = (S 15).toNat := by omega
      refine ⟨⟨z, by rw [eq, am_u_r], ?_⟩, by rw [x7, e, up_r, p174], by rw [e, p162, p168]; exact hab⟩
      unfold pc1
      rw [tu_r, xz, e, p150, p162, p168, p156]
      unfold wkV
      simp (disch := omega) only [up_r, up_o]
      exact ⟨trivial, trivial, trivial, trivial, trivial, trivial⟩
    · obtain ⟨⟨y, y1, y2⟩, y3, y5⟩ := g3.1 q (by omega)
      have yl := y2.pl hMT g1.1
      obtain ⟨l1, l2, l3, l4⟩ := yl
      refine ⟨⟨y, by rw [am_u_o (by omega)]; exact y1, ?_⟩, by rw [x7, up_o e, px _ (by omega) (by omega) (by omega) (by omega) (by omega) (by omega) (by omega), ← y7]; exact y3, by rw [px _ (by omega) (by omega) (by omega) (by omega) (by omega) (by omega) (by omega), px (168 + q) (by omega) (by omega) (by omega) (by omega) (by omega) (by omega) (by omega)]; exact y5⟩
      unfold pc1 at y2 ⊢
      rw [f y (by omega) (by omega) (by omega), px (150 + q) (by omega) (by omega) (by omega) (by omega) (by omega) (by omega) (by omega), px (162 + q) (by omega) (by omega) (by omega) (by omega) (by omega) (by omega) (by omega), px (168 + q) (by omega) (by omega) (by omega) (by omega) (by omega) (by omega) (by omega), px (156 + q) (by omega) (by omega) (by omega) (by omega) (by omega) (by omega) (by omega)]
      exact y2
  · rw [f _ (by omega) (by omega) (by omega), px _ (by omega) (by omega) (by omega) (by omega) (by omega) (by omega) (by omega)]; exact n1 j hj
  · rw [x4]
    by_cases e : q = S 15
    · rw [e, up_r]; unfold dOf; rw [p4, if_pos rfl, p162]
    · rw [up_o e, ← y4, n2 q hq]
      unfold dOf
      rw [px (4 + q) (by omega) (by omega) (by omega) (by omega) (by omega) (by omega) (by omega), px (162 + q) (by omega) (by omega) (by omega) (by omega) (by omega) (by omega) (by omega), px (168 + q) (by omega) (by omega) (by omega) (by omega) (by omega) (by omega) (by omega)]
  · rw [f _ (by omega) (by omega) (by omega), px _ (by omega) (by omega) (by omega) (by omega) (by omega) (by omega) (by omega)]; exact n3
  · rw [f _ (by omega) (by omega) (by omega), px _ (by omega) (by omega) (by omega) (by omega) (by omega) (by omega) (by omega)]; exact n4
  · rw [f _ (by omega) (by omega) (by omega)]; exact n5 j hj
  · rw [f _ (by omega) (by omega) (by omega)]; exact hcz k hk j hj
/-- what the methods that make things change -/
def fP (z z' t : Nat) (J J' : mR) : Prop := ∀ b, ¬ (z ≤ b ∧ b < z') → ¬ (101 ≤ b ∧ b ≤ 107) → ¬ (115 ≤ b ∧ b ≤ 118) → ¬ (141 ≤ b ∧ b ≤ 192) → ¬ b = t + 6 → J' b = J b
theorem fM.p {J J' : mR} {z' : Nat} (h : fM t J J') : fP z z' t J J' := fun b _ => h b
theorem c_person (hM : cM T R) (hz : ∀ b, z ≤ b → (T b).1 = 0) (ho : oR (tokL cs) S) (hw : oW S) (h : cS T R J t cs S) (hP : cPl J S) (k v ds : Int) (hk : i32 k) (hv : i32 v) (hd : i32 ds) : ∃ (T' : Nat → Nat × Nat) (R' : Nat → Nat → Option Nat) (z' w' : Nat) (J' : mR), rn_c (d + 20) 67 [.ref 100, .int (iI k), .int (iI v), .int (iI ds)] (T, oI J, L, R, z, w) = some (some (.int (iI (personV S k v ds))), (T', oI J', L, R', z', w')) ∧ tE T T' ∧ (∀ b, ¬ (z ≤ b ∧ b < z') → T' b = T b) ∧ (z ≤ z' ∧ z' ≤ z + 1) ∧ (w ≤ w' ∧ w' ≤ w + 5) ∧ (∀ b j, ¬ b = 106 → R' b j = R b j) ∧ fP z z' t J J' ∧ cS T' R' J' t cs (personS S k v ds) ∧ cPl J' (personS S k v ds) ∧ ∀ q, R' 106 q = R 106 q ∨ (R' 106 q = some z ∧ [1, 2, 3, 4, 5, 6, 10].contains (T' z).1 = true) := by
  have h15 := ho.1.2.2.2.2
  have q3 := h.1.2.2.1.2
  by_cases c : (0 ≤ k ∧ k ≤ 6) ∧ (0 ≤ ds ∧ ds ≤ 33) ∧ ds % 10 ≤ 3 ∧ (0 ≤ v ∧ v ≤ 9) ∧ ¬ ds / 10 = ds % 10 ∧ ¬ S 15 = 6
  · obtain ⟨ck, cd, cd2, cv, cab, c6⟩ := c
    have es : personS S k v ds = peS S k v (ds / 10) (ds % 10) := by
      unfold personS peS
      rw [if_neg (by omega), if_neg (by omega), if_neg (by omega), if_neg (by omega), if_neg (by omega), if_neg (by omega), if_neg (by omega), if_neg (by omega), if_neg (by omega)]
    have oo := c_oneOf (d := d + 15) (T := T) (J := J) (L := L) (R := R) (z := z) (w := w) k (S 15) v (ds / 10) (ds % 10) ck
    have hC := cS_p hM hz h ho.2.2.2.1 (by omega) k v (ds / 10) (ds % 10) cab
    have tz : tE T (am_tu T z (kT k, 0)) := fun b hb => tu_o (fun e => hb (hz b (by omega)))
    have hMT : cM (am_tu T z (kT k, 0)) R := cM_x hM tz (fun _ _ _ _ _ _ _ => rfl)
    have hMK : cM (am_tu T z (kT k, 0)) (am_u R 106 (S 15).toNat (some z)) := cM_x hM tz (fun b j _ hb _ _ _ => am_u_o (fun q => hb q.1))
    have f25 : am_arr (am_tu T z (kT k, 0)) [25] 106 (iI (S 15)) = true := ar_ok hMT.t106 rfl (by decide) (by omega)
    have f24 : am_arr (am_tu T z (kT k, 0)) [24] 106 (iI (S 15)) = false := by unfold am_arr; rw [hMT.t106]; rfl
    obtain ⟨k1, k2⟩ := kT_w k
    have b7 := hMT.b107 (S 15) (by omega)
    have b4 := hMT.w102.b2 (S 15) (by omega)
    simp only [Nat.reduceAdd] at b4
    have n101 : ¬ z = 101 := by intro e; have := hz 101 (by omega); rw [hM.t101] at this; exact absurd this (by decide)
    have n104 : ¬ z = 104 := by intro e; have := hz 104 (by omega); rw [hM.w102.2.2.1] at this; exact absurd this (by decide)
    have n107 : ¬ z = 107 := by intro e; have := hz 107 (by omega); rw [hM.t107] at this; exact absurd this (by decide)
    have m101 : ¬ 101 = z := fun e => n101 e.symm
    have m104 : ¬ 104 = z := fun e => n104 e.symm
    have m107 : ¬ 107 = z := fun e => n107 e.symm
    rw [es]
    refine ⟨_, _, z + 1, w + 5, peJ J z (S 15) k v (ds / 10) (ds % 10), ?_, tz, fun b hb => tu_o (by omega), by omega, by omega, fun b j hb => am_u_o (fun q => hb q.1), fun b b1 b2 b3 b4 b5 => ?_, hC, ?_, fun q => ?_⟩
    · unfold personV peJ
      rw [if_neg (by omega), if_neg (by omega), if_neg (by omega), if_neg (by omega), if_neg (by omega), if_neg (by omega), if_neg (by omega), if_neg (by omega), if_neg (by omega)]
      simp (disch := first | omega | exact hJ _ _ | exact rJ_g hJ _ _ | (simp (disch := omega) only [ur_r, ur_o, up_r, up_o]; omega) | assumption) only [c67, s67_0, b67_1, s67_4, s67_5, b67_7, s67_10, s67_11, s67_14, s67_15, s67_16, s67_17, s67_19, s67_20, s67_22, s67_23, s67_25, s67_26, s67_28, s67_30, b67_33, s67_36, s67_38, b67_41, s67_44, s67_45, s67_46, b67_47, s67_50, s67_51, b67_53, s67_56, s67_58, b67_60, s67_63, s67_65, s67_66, s67_66v, s67_67, s67_70, s67_73, b67_75, s67_78, s67_80, s67_81, s67_81v, s67_82, s67_85, s67_88, s67_90, s67_90v, s67_91, s67_94, s67_97, s67_99, s67_100, s67_102, s67_103, s67_105, s67_107, s67_110, s67_111, s67_111v, s67_112, s67_115, s67_118, s67_120, s67_121, s67_122, s67_122v, s67_123, s67_126, s67_129, s67_132, s67_134, s67_136, s67_137, s67_137v, s67_138, s67_141, s67_142, s67_145, s67_146, s67_147, s67_150, s67_152, hM.t100, hM.t101, hM.r100_0, hM.r101_1, c_isDoor, v_s, q3, oo, hMT.t100, hMT.t101, hMK.t100, hMK.t101, hMK.r100_0, hMK.r101_1, hMK.r101_2, hMK.r101_0, hMK.w102.r1, hMK.w102.t0, Nat.reduceAdd, f24, f25, k1, k2, tu_r, b7, b4, Bool.false_and, Bool.and_false, Bool.true_and, Bool.false_or, ur_o m101, ur_o m104, ur_o m107, kl_i, kl_r, kl_l, kl_n, kl_z, bd_s, tl_s, tl_n, ap_c, ap_n, v_s, v_n, nd_1, nd_0, ct13, eq_self, iI_add, iI_sub, iI_mul, iI_nat, iI_eq, iI_lt, iI_le, iI_eq0, iI_lt0, ↓reduceIte, if_true, if_false, not_true_eq_false, not_false_eq_true, true_and, and_true, false_and, and_false, true_or, or_true, false_or, or_false, Int.reduceLT, Int.reduceLE, Int.reduceEq, Int.reduceAdd, Int.reduceSub, Int.reduceMul, Nat.reduceAdd, Nat.reduceLT, Nat.reduceEqDiff, Int.reduceNeg, nc_s, nc_0, Int.zero_add, Int.add_zero, oI_r, oI_w, oI_f0, oI_g0, oI_f1, oI_g1, oI_f2, oI_g2, oI_f3, oI_g3, oI_f4, oI_g4, oI_f5, oI_g5, oI_f6, oI_g6, oI_f7, oI_g7, oI_f8, oI_g8, oI_f9, oI_g9, oI_f10, oI_g10, oI_f11, oI_g11, oI_f12, oI_g12, oI_f13, oI_g13, oI_f14, oI_g14, oI_f15, oI_g15, oI_f16, oI_g16, oI_f17, oI_g17, oI_f18, oI_g18, oI_f19, oI_g19, oI_f20, oI_g20, oI_f21, oI_g21, oI_f22, oI_g22, oI_f23, oI_g23, oI_f24, oI_g24, oI_f25, oI_g25, ur_r, ur_o, ur_s, up_r, up_o, up_s, jI_add, jI_sub, jI_mul, jI_neg, jI_i, jI_n, lgc_j, cj_lt, cj_ge, cj_gt, cj_le, cj_eq, oL_r, oL_w, oL_f6, oL_g6, oL_f7, oL_g7, oL_f17, oL_g17, oL_f18, oL_g18, dl_T, dl_F, de_T, de_F, dle_T, dle_F, iI_divn, rem_n, nd_v, ct_s, Bool.false_eq_true]
    · unfold peJ
      rw [ur_o (by omega), ur_o (by omega), ur_o (by omega), ur_o (by omega)]
    · obtain ⟨w1, w2, w3, w4, _⟩ := hw
      obtain ⟨⟨p1, p2, p3, p4⟩, p5, p6, p7, p8⟩ := hP
      have zb : ∀ b, ¬ (T b).1 = 0 → ¬ b = z := fun b hb e => hb (hz b (by omega))
      have e1 : peJ J z (S 15) k v (ds / 10) (ds % 10) 101 = up (J 101) 3 (S 15 + 1) := by unfold peJ; rw [ur_r]
      have eo : ∀ b, ¬ b = 101 → ¬ b = 104 → ¬ b = 107 → ¬ b = z → peJ J z (S 15) k v (ds / 10) (ds % 10) b = J b := fun b a1 a2 a3 a4 => by unfold peJ; rw [ur_o a1, ur_o a2, ur_o a3, ur_o a4]
      have sx : ∀ j, (16 ≤ j ∧ j < 20) ∨ (30 ≤ j ∧ j < 150) ∨ (180 ≤ j ∧ j < 220) → peS S k v (ds / 10) (ds % 10) j = S j := fun j hj => by unfold peS; simp (disch := omega) only [up_o]
      unfold cPl
      rw [e1, eo 115 (by omega) (by omega) (by omega) (zb _ (by rw [hM.t115]; decide)), eo 116 (by omega) (by omega) (by omega) (zb _ (by rw [hM.t116]; decide)), eo 117 (by omega) (by omega) (by omega) (zb _ (by rw [hM.t117]; decide)), eo 118 (by omega) (by omega) (by omega) (zb _ (by rw [hM.t118]; decide)), sx 16 (by omega), sx 17 (by omega), sx 18 (by omega), sx 19 (by omega)]
      simp (disch := omega) only [up_o]
      refine ⟨⟨p1, p2, p3, p4⟩, fun k k0 k1 => ?_, fun k k0 k1 => ?_, fun k k0 k1 => ?_, p8⟩
      · rw [sx _ (by omega)]; exact p5 k k0 k1
      · rw [sx _ (by omega), sx _ (by omega)]; exact p6 k k0 k1
      · rw [sx _ (by omega)]; exact p7 k k0 k1
    · by_cases e : q = (S 15).toNat
      · right; rw [e, am_u_r, tu_r]; exact ⟨rfl, k1⟩
      · left; exact am_u_o (fun qq => e qq.2)
  · have es : personS S k v ds = S := by
      unfold personS
      repeat' split
      all_goals first | rfl | omega
    rw [es]
    refine ⟨T, R, z, w, J, ?_, fun _ _ => rfl, fun _ _ => rfl, by omega, by omega, fun _ _ _ => rfl, fun _ _ _ _ _ _ => rfl, h, hP, fun _ => Or.inl rfl⟩
    unfold personV
    (simp (disch := first | omega | exact hJ _ _ | exact rJ_g hJ _ _ | (simp (disch := omega) only [ur_r, ur_o, up_r, up_o]; omega) | assumption) only [c67, s67_0, b67_1, s67_4, s67_5, b67_7, s67_10, s67_11, s67_14, s67_15, s67_16, s67_17, s67_19, s67_20, s67_22, s67_23, s67_25, s67_26, s67_28, s67_30, b67_33, s67_36, s67_38, b67_41, s67_44, s67_45, s67_46, b67_47, s67_50, s67_51, b67_53, s67_56, s67_58, b67_60, s67_63, s67_65, s67_66, s67_66v, s67_67, s67_70, s67_73, b67_75, s67_78, s67_80, hM.t100, hM.t101, hM.r100_0, v_s, q3, c_isDoor, kl_i, kl_r, kl_l, kl_n, kl_z, bd_s, tl_s, tl_n, ap_c, ap_n, v_s, v_n, nd_1, nd_0, ct13, eq_self, iI_add, iI_sub, iI_mul, iI_nat, iI_eq, iI_lt, iI_le, iI_eq0, iI_lt0, ↓reduceIte, if_true, if_false, not_true_eq_false, not_false_eq_true, true_and, and_true, false_and, and_false, true_or, or_true, false_or, or_false, Int.reduceLT, Int.reduceLE, Int.reduceEq, Int.reduceAdd, Int.reduceSub, Int.reduceMul, Nat.reduceAdd, Nat.reduceLT, Nat.reduceEqDiff, Int.reduceNeg, nc_s, nc_0, Int.zero_add, Int.add_zero, oI_r, oI_w, oI_f0, oI_g0, oI_f1, oI_g1, oI_f2, oI_g2, oI_f3, oI_g3, oI_f4, oI_g4, oI_f5, oI_g5, oI_f6, oI_g6, oI_f7, oI_g7, oI_f8, oI_g8, oI_f9, oI_g9, oI_f10, oI_g10, oI_f11, oI_g11, oI_f12, oI_g12, oI_f13, oI_g13, oI_f14, oI_g14, oI_f15, oI_g15, oI_f16, oI_g16, oI_f17, oI_g17, oI_f18, oI_g18, oI_f19, oI_g19, oI_f20, oI_g20, oI_f21, oI_g21, oI_f22, oI_g22, oI_f23, oI_g23, oI_f24, oI_g24, oI_f25, oI_g25, ur_r, ur_o, ur_s, up_r, up_o, up_s, jI_add, jI_sub, jI_mul, jI_neg, jI_i, jI_n, lgc_j, cj_lt, cj_ge, cj_gt, cj_le, cj_eq, oL_r, oL_w, oL_f6, oL_g6, oL_f7, oL_g7, oL_f17, oL_g17, oL_f18, oL_g18, dl_T, dl_F, de_T, de_F, dle_T, dle_F, iI_divn, rem_n, nd_v, ct_s, Bool.false_eq_true]; repeat' (split <;> (try simp (disch := first | omega | exact hJ _ _ | exact rJ_g hJ _ _ | (simp (disch := omega) only [ur_r, ur_o, up_r, up_o]; omega) | assumption) only [c67, s67_0, b67_1, s67_4, s67_5, b67_7, s67_10, s67_11, s67_14, s67_15, s67_16, s67_17, s67_19, s67_20, s67_22, s67_23, s67_25, s67_26, s67_28, s67_30, b67_33, s67_36, s67_38, b67_41, s67_44, s67_45, s67_46, b67_47, s67_50, s67_51, b67_53, s67_56, s67_58, b67_60, s67_63, s67_65, s67_66, s67_66v, s67_67, s67_70, s67_73, b67_75, s67_78, s67_80, hM.t100, hM.t101, hM.r100_0, v_s, q3, c_isDoor, kl_i, kl_r, kl_l, kl_n, kl_z, bd_s, tl_s, tl_n, ap_c, ap_n, v_s, v_n, nd_1, nd_0, ct13, eq_self, iI_add, iI_sub, iI_mul, iI_nat, iI_eq, iI_lt, iI_le, iI_eq0, iI_lt0, ↓reduceIte, if_true, if_false, not_true_eq_false, not_false_eq_true, true_and, and_true, false_and, and_false, true_or, or_true, false_or, or_false, Int.reduceLT, Int.reduceLE, Int.reduceEq, Int.reduceAdd, Int.reduceSub, Int.reduceMul, Nat.reduceAdd, Nat.reduceLT, Nat.reduceEqDiff, Int.reduceNeg, nc_s, nc_0, Int.zero_add, Int.add_zero, oI_r, oI_w, oI_f0, oI_g0, oI_f1, oI_g1, oI_f2, oI_g2, oI_f3, oI_g3, oI_f4, oI_g4, oI_f5, oI_g5, oI_f6, oI_g6, oI_f7, oI_g7, oI_f8, oI_g8, oI_f9, oI_g9, oI_f10, oI_g10, oI_f11, oI_g11, oI_f12, oI_g12, oI_f13, oI_g13, oI_f14, oI_g14, oI_f15, oI_g15, oI_f16, oI_g16, oI_f17, oI_g17, oI_f18, oI_g18, oI_f19, oI_g19, oI_f20, oI_g20, oI_f21, oI_g21, oI_f22, oI_g22, oI_f23, oI_g23, oI_f24, oI_g24, oI_f25, oI_g25, ur_r, ur_o, ur_s, up_r, up_o, up_s, jI_add, jI_sub, jI_mul, jI_neg, jI_i, jI_n, lgc_j, cj_lt, cj_ge, cj_gt, cj_le, cj_eq, oL_r, oL_w, oL_f6, oL_g6, oL_f7, oL_g7, oL_f17, oL_g17, oL_f18, oL_g18, dl_T, dl_F, de_T, de_F, dle_T, dle_F, iI_divn, rem_n, nd_v, ct_s, Bool.false_eq_true])))
end PE
