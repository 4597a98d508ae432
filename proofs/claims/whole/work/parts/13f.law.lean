/-! the law: its loop; what AM is asked -/
section WD
variable {d : Nat} {T T0 : Nat → Nat × Nat} {L : Nat → Nat → Int64} {R R0 : Nat → Nat → Option Nat} {z w N : Nat} {J : mR} {i : Int} {xs : Nat → Int32}
theorem and31 (z : Int) : iI z &&& iI 31 = iI (z % 32) := by
  rw [pk_and (iI z) (m := iI 31) 5 (by decide)]
  have e : (iI z).toBitVec.toNat = (z % 4294967296).toNat := by
    show (BitVec.ofInt 32 z).toNat = _
    rw [BitVec.toNat_ofInt]
    rfl
  rw [e, ← iI_nI]
  congr 1
  have : ((z % 4294967296).toNat % 2 ^ 5 : Nat) = (z % 32).toNat := by omega
  rw [this]; omega
/-- one round -/
theorem law_step (h : clR T R J z) (h0 : T 0 = (30, N)) (hN : N ≤ 2048) (hi : 0 ≤ i ∧ i + 4 ≤ N) : nxL d T J L R z w 18 i := by
  have a0 : ∀ q : Int, 0 ≤ q ∧ q < N → am_arr T [20, 30] 0 (iI q) = true := fun q hq => ar_ok h0 rfl (by omega) hq
  have hJ := h.2.2.2.1.1 0 i
  have go : ∀ (k : Int) (pc : Nat), J 0 i % 32 = k → (if iI k = iI 0 then 152 else if iI k = iI 1 then 185 else if iI k = iI 2 then 248 else if iI k = iI 3 then 261 else if iI k = iI 4 then 284 else if iI k = iI 5 then 327 else if iI k = iI 6 then 360 else if iI k = iI 7 then 393 else if iI k = iI 8 then 416 else if iI k = iI 9 then 439 else if iI k = iI 10 then 472 else if iI k = iI 11 then 516 else if iI k = iI 12 then 549 else if iI k = iI 13 then 582 else if iI k = iI 14 then 615 else if iI k = iI 15 then 638 else if iI k = iI 16 then 682 else if iI k = iI 17 then 695 else if iI k = iI 18 then 708 else if iI k = iI 19 then 741 else if iI k = iI 20 then 764 else if iI k = iI 21 then 807 else if iI k = iI 22 then 830 else if iI k = iI 23 then 863 else if iI k = iI 24 then 876 else if iI k = iI 25 then 889 else 912) = pc → rn_r (d + 101) 194 18 [some (.ref 0), some (.ref 100), some (.ref 193), some (.int (iI i))] [] (T, oI J, L, R, z, w) = rn_r (d + 101) 194 pc [some (.ref 0), some (.ref 100), some (.ref 193), some (.int (iI i))] [] (T, oI J, L, R, z, w) := by
    intro k pc hk hpc
    have st : rn_r (d + 101) 194 18 [some (.ref 0), some (.ref 100), some (.ref 193), some (.int (iI i))] [] (T, oI J, L, R, z, w) = rn_r (d + 101) 194 32 [some (.ref 0), some (.ref 100), some (.ref 193), some (.int (iI i))] [.int (iI k)] (T, oI J, L, R, z, w) := by
      simp (disch := first | omega | exact hJ _ _ | exact rJ_g hJ _ _ | (simp (disch := omega) only [ur_r, ur_o, up_r, up_o]; omega) | assumption) only [s194_18, s194_19, s194_19v, s194_20, s194_21, s194_22, b194_23, s194_26, s194_26v, s194_27, s194_28, s194_29, s194_31, h0, a0, and31, hk, iI_ofNat, List.contains_cons, List.contains_nil, Nat.reduceBEq, Bool.or_true, Bool.true_or, Bool.or_false, Bool.false_or, kl_i, kl_r, kl_l, kl_n, kl_z, bd_s, tl_s, tl_n, ap_c, ap_n, v_s, v_n, nd_1, nd_0, ct13, eq_self, iI_add, iI_sub, iI_mul, iI_nat, iI_eq, iI_lt, iI_le, iI_eq0, iI_lt0, ↓reduceIte, if_true, if_false, not_true_eq_false, not_false_eq_true, true_and, and_true, false_and, and_false, true_or, or_true, false_or, or_false, Int.reduceLT, Int.reduceLE, Int.reduceEq, Int.reduceAdd, Int.reduceSub, Int.reduceMul, Nat.reduceAdd, Nat.reduceLT, Nat.reduceEqDiff, Int.reduceNeg, nc_s, nc_0, Int.zero_add, Int.add_zero, oI_r, oI_w, oI_f0, oI_g0, oI_f1, oI_g1, oI_f2, oI_g2, oI_f3, oI_g3, oI_f4, oI_g4, oI_f5, oI_g5, oI_f6, oI_g6, oI_f7, oI_g7, oI_f8, oI_g8, oI_f9, oI_g9, oI_f10, oI_g10, oI_f11, oI_g11, oI_f12, oI_g12, oI_f13, oI_g13, oI_f14, oI_g14, oI_f15, oI_g15, oI_f16, oI_g16, oI_f17, oI_g17, oI_f18, oI_g18, oI_f19, oI_g19, oI_f20, oI_g20, oI_f21, oI_g21, oI_f22, oI_g22, oI_f23, oI_g23, oI_f24, oI_g24, oI_f25, oI_g25, ur_r, ur_o, ur_s, up_r, up_o, up_s, jI_add, jI_sub, jI_mul, jI_neg, jI_i, jI_n, lgc_j, cj_lt, cj_ge, cj_gt, cj_le, cj_eq, oL_r, oL_w, oL_f6, oL_g6, oL_f7, oL_g7, oL_f17, oL_g17, oL_f18, oL_g18, dl_T, dl_F, de_T, de_F, dle_T, dle_F, iI_divn, rem_n, nd_v, ct_s, Bool.false_eq_true]
    rw [st, b194_32, hpc]
  have c : ∀ (k : Int) (pc : Nat), J 0 i % 32 = k → (0 ≤ k ∧ k ≤ 25) → rn_r (d + 101) 194 18 [some (.ref 0), some (.ref 100), some (.ref 193), some (.int (iI i))] [] (T, oI J, L, R, z, w) = rn_r (d + 101) 194 pc [some (.ref 0), some (.ref 100), some (.ref 193), some (.int (iI i))] [] (T, oI J, L, R, z, w) → nxL d T J L R z w pc i → nxL d T J L R z w 18 i := by
    intro k pc _ _ e hn
    obtain ⟨T', J', L', R', z', w', q1, q2⟩ := hn
    exact ⟨T', J', L', R', z', w', e.trans q1, q2⟩
  have hr : 0 ≤ J 0 i % 32 ∧ J 0 i % 32 < 32 := by omega
  by_cases k0 : J 0 i % 32 = 0
  · exact c 0 152 k0 (by omega) (go 0 152 k0 (by decide)) (lw_0 h h0 hN hi)
  by_cases k1 : J 0 i % 32 = 1
  · exact c 1 185 k1 (by omega) (go 1 185 k1 (by decide)) (lw_1 h h0 hN hi)
  by_cases k2 : J 0 i % 32 = 2
  · exact c 2 248 k2 (by omega) (go 2 248 k2 (by decide)) (lw_2 h h0 hN hi)
  by_cases k3 : J 0 i % 32 = 3
  · exact c 3 261 k3 (by omega) (go 3 261 k3 (by decide)) (lw_3 h h0 hN hi)
  by_cases k4 : J 0 i % 32 = 4
  · exact c 4 284 k4 (by omega) (go 4 284 k4 (by decide)) (lw_4 h h0 hN hi)
  by_cases k5 : J 0 i % 32 = 5
  · exact c 5 327 k5 (by omega) (go 5 327 k5 (by decide)) (lw_5 h h0 hN hi)
  by_cases k6 : J 0 i % 32 = 6
  · exact c 6 360 k6 (by omega) (go 6 360 k6 (by decide)) (lw_6 h h0 hN hi)
  by_cases k7 : J 0 i % 32 = 7
  · exact c 7 393 k7 (by omega) (go 7 393 k7 (by decide)) (lw_7 h h0 hN hi)
  by_cases k8 : J 0 i % 32 = 8
  · exact c 8 416 k8 (by omega) (go 8 416 k8 (by decide)) (lw_8 h h0 hN hi)
  by_cases k9 : J 0 i % 32 = 9
  · exact c 9 439 k9 (by omega) (go 9 439 k9 (by decide)) (lw_9 h h0 hN hi)
  by_cases k10 : J 0 i % 32 = 10
  · exact c 10 472 k10 (by omega) (go 10 472 k10 (by decide)) (lw_10 h h0 hN hi)
  by_cases k11 : J 0 i % 32 = 11
  · exact c 11 516 k11 (by omega) (go 11 516 k11 (by decide)) (lw_11 h h0 hN hi)
  by_cases k12 : J 0 i % 32 = 12
  · exact c 12 549 k12 (by omega) (go 12 549 k12 (by decide)) (lw_12 h h0 hN hi)
  by_cases k13 : J 0 i % 32 = 13
  · exact c 13 582 k13 (by omega) (go 13 582 k13 (by decide)) (lw_13 h h0 hN hi)
  by_cases k14 : J 0 i % 32 = 14
  · exact c 14 615 k14 (by omega) (go 14 615 k14 (by decide)) (lw_14 h h0 hN hi)
  by_cases k15 : J 0 i % 32 = 15
  · exact c 15 638 k15 (by omega) (go 15 638 k15 (by decide)) (lw_15 h h0 hN hi)
  by_cases k16 : J 0 i % 32 = 16
  · exact c 16 682 k16 (by omega) (go 16 682 k16 (by decide)) (lw_16 h h0 hN hi)
  by_cases k17 : J 0 i % 32 = 17
  · exact c 17 695 k17 (by omega) (go 17 695 k17 (by decide)) (lw_17 h h0 hN hi)
  by_cases k18 : J 0 i % 32 = 18
  · exact c 18 708 k18 (by omega) (go 18 708 k18 (by decide)) (lw_18 h h0 hN hi)
  by_cases k19 : J 0 i % 32 = 19
  · exact c 19 741 k19 (by omega) (go 19 741 k19 (by decide)) (lw_19 h h0 hN hi)
  by_cases k20 : J 0 i % 32 = 20
  · exact c 20 764 k20 (by omega) (go 20 764 k20 (by decide)) (lw_20 h h0 hN hi)
  by_cases k21 : J 0 i % 32 = 21
  · exact c 21 807 k21 (by omega) (go 21 807 k21 (by decide)) (lw_21 h h0 hN hi)
  by_cases k22 : J 0 i % 32 = 22
  · exact c 22 830 k22 (by omega) (go 22 830 k22 (by decide)) (lw_22 h h0 hN hi)
  by_cases k23 : J 0 i % 32 = 23
  · exact c 23 863 k23 (by omega) (go 23 863 k23 (by decide)) (lw_23 h h0 hN hi)
  by_cases k24 : J 0 i % 32 = 24
  · exact c 24 876 k24 (by omega) (go 24 876 k24 (by decide)) (lw_24 h h0 hN hi)
  by_cases k25 : J 0 i % 32 = 25
  · exact c 25 889 k25 (by omega) (go 25 889 k25 (by decide)) (lw_25 h h0 hN hi)
  · have dead : ∀ m : Int, 0 ≤ m ∧ m ≤ 25 → ¬ iI (J 0 i % 32) = iI m := by
      intro m hm e
      rw [iI_eq ⟨by omega, by omega⟩ ⟨by omega, by omega⟩] at e
      omega
    have e := go (J 0 i % 32) 912 rfl (by
      rw [if_neg (dead 0 (by omega)), if_neg (dead 1 (by omega)), if_neg (dead 2 (by omega)), if_neg (dead 3 (by omega)), if_neg (dead 4 (by omega)), if_neg (dead 5 (by omega)), if_neg (dead 6 (by omega)), if_neg (dead 7 (by omega)), if_neg (dead 8 (by omega)), if_neg (dead 9 (by omega)), if_neg (dead 10 (by omega)), if_neg (dead 11 (by omega)), if_neg (dead 12 (by omega)), if_neg (dead 13 (by omega)), if_neg (dead 14 (by omega)), if_neg (dead 15 (by omega)), if_neg (dead 16 (by omega)), if_neg (dead 17 (by omega)), if_neg (dead 18 (by omega)), if_neg (dead 19 (by omega)), if_neg (dead 20 (by omega)), if_neg (dead 21 (by omega)), if_neg (dead 22 (by omega)), if_neg (dead 23 (by omega)), if_neg (dead 24 (by omega)), if_neg (dead 25 (by omega))])
    refine ⟨T, J, L, R, z, w, e.trans ?_, h, fun _ _ => rfl, tE.i, by omega, by omega⟩
    simp (disch := first | omega | exact hJ _ _ | exact rJ_g hJ _ _ | (simp (disch := omega) only [ur_r, ur_o, up_r, up_o]; omega) | assumption) only [s194_912, kl_i, kl_r, kl_l, kl_n, kl_z, bd_s, tl_s, tl_n, ap_c, ap_n, v_s, v_n, nd_1, nd_0, ct13, eq_self, iI_add, iI_sub, iI_mul, iI_nat, iI_eq, iI_lt, iI_le, iI_eq0, iI_lt0, ↓reduceIte, if_true, if_false, not_true_eq_false, not_false_eq_true, true_and, and_true, false_and, and_false, true_or, or_true, false_or, or_false, Int.reduceLT, Int.reduceLE, Int.reduceEq, Int.reduceAdd, Int.reduceSub, Int.reduceMul, Nat.reduceAdd, Nat.reduceLT, Nat.reduceEqDiff, Int.reduceNeg, nc_s, nc_0, Int.zero_add, Int.add_zero, oI_r, oI_w, oI_f0, oI_g0, oI_f1, oI_g1, oI_f2, oI_g2, oI_f3, oI_g3, oI_f4, oI_g4, oI_f5, oI_g5, oI_f6, oI_g6, oI_f7, oI_g7, oI_f8, oI_g8, oI_f9, oI_g9, oI_f10, oI_g10, oI_f11, oI_g11, oI_f12, oI_g12, oI_f13, oI_g13, oI_f14, oI_g14, oI_f15, oI_g15, oI_f16, oI_g16, oI_f17, oI_g17, oI_f18, oI_g18, oI_f19, oI_g19, oI_f20, oI_g20, oI_f21, oI_g21, oI_f22, oI_g22, oI_f23, oI_g23, oI_f24, oI_g24, oI_f25, oI_g25, ur_r, ur_o, ur_s, up_r, up_o, up_s, jI_add, jI_sub, jI_mul, jI_neg, jI_i, jI_n, lgc_j, cj_lt, cj_ge, cj_gt, cj_le, cj_eq, oL_r, oL_w, oL_f6, oL_g6, oL_f7, oL_g7, oL_f17, oL_g17, oL_f18, oL_g18, dl_T, dl_F, de_T, de_F, dle_T, dle_F, iI_divn, rem_n, nd_v, ct_s, Bool.false_eq_true]
theorem law_loop {B : Nat} (hB : B ≤ 4000) (hN : N ≤ 2048) : ∀ (m q : Nat) (T : Nat → Nat × Nat) (J : mR) (L : Nat → Nat → Int64) (R : Nat → Nat → Option Nat) (z w : Nat), N < 4 * (q + m) + 4 → 4 * q ≤ N → clR T R J z → T 0 = (30, N) → z ≤ 205 + 7 * q → w ≤ B + 250 * q → ∃ M' : am_Mem, rn_r (d + 101) 194 18 [some (.ref 0), some (.ref 100), some (.ref 193), some (.int (iI (4 * (q : Int))))] [] (T, oI J, L, R, z, w) = some (some (.int (iI 1)), M') ∧ M'.2.2.2.2.1 ≤ 600000 ∧ M'.2.2.2.2.2 ≤ 7302250 := by
  have out : ∀ (q : Nat) (T : Nat → Nat × Nat) (J : mR) (L : Nat → Nat → Int64) (R : Nat → Nat → Option Nat) (z w : Nat), N < 4 * q + 4 → 4 * q ≤ N → T 0 = (30, N) → z ≤ 205 + 7 * q → w ≤ B + 250 * q → ∃ M' : am_Mem, rn_r (d + 101) 194 18 [some (.ref 0), some (.ref 100), some (.ref 193), some (.int (iI (4 * (q : Int))))] [] (T, oI J, L, R, z, w) = some (some (.int (iI 1)), M') ∧ M'.2.2.2.2.1 ≤ 600000 ∧ M'.2.2.2.2.2 ≤ 7302250 := by
    intro q T J L R z w h1 h2 h0 hz hw
    refine ⟨(T, oI J, L, R, z, w), ?_, by show z ≤ 600000; omega, by show w ≤ 7302250; omega⟩
    simp (disch := first | omega | exact hJ _ _ | exact rJ_g hJ _ _ | (simp (disch := omega) only [ur_r, ur_o, up_r, up_o]; omega) | assumption) only [s194_18, s194_19, s194_19v, s194_20, s194_21, s194_22, b194_23, s194_918, s194_919, h0, iI_ofNat, List.contains_cons, List.contains_nil, Nat.reduceBEq, Bool.or_true, Bool.true_or, Bool.or_false, Bool.false_or, kl_i, kl_r, kl_l, kl_n, kl_z, bd_s, tl_s, tl_n, ap_c, ap_n, v_s, v_n, nd_1, nd_0, ct13, eq_self, iI_add, iI_sub, iI_mul, iI_nat, iI_eq, iI_lt, iI_le, iI_eq0, iI_lt0, ↓reduceIte, if_true, if_false, not_true_eq_false, not_false_eq_true, true_and, and_true, false_and, and_false, true_or, or_true, false_or, or_false, Int.reduceLT, Int.reduceLE, Int.reduceEq, Int.reduceAdd, Int.reduceSub, Int.reduceMul, Nat.reduceAdd, Nat.reduceLT, Nat.reduceEqDiff, Int.reduceNeg, nc_s, nc_0, Int.zero_add, Int.add_zero, oI_r, oI_w, oI_f0, oI_g0, oI_f1, oI_g1, oI_f2, oI_g2, oI_f3, oI_g3, oI_f4, oI_g4, oI_f5, oI_g5, oI_f6, oI_g6, oI_f7, oI_g7, oI_f8, oI_g8, oI_f9, oI_g9, oI_f10, oI_g10, oI_f11, oI_g11, oI_f12, oI_g12, oI_f13, oI_g13, oI_f14, oI_g14, oI_f15, oI_g15, oI_f16, oI_g16, oI_f17, oI_g17, oI_f18, oI_g18, oI_f19, oI_g19, oI_f20, oI_g20, oI_f21, oI_g21, oI_f22, oI_g22, oI_f23, oI_g23, oI_f24, oI_g24, oI_f25, oI_g25, ur_r, ur_o, ur_s, up_r, up_o, up_s, jI_add, jI_sub, jI_mul, jI_neg, jI_i, jI_n, lgc_j, cj_lt, cj_ge, cj_gt, cj_le, cj_eq, oL_r, oL_w, oL_f6, oL_g6, oL_f7, oL_g7, oL_f17, oL_g17, oL_f18, oL_g18, dl_T, dl_F, de_T, de_F, dle_T, dle_F, iI_divn, rem_n, nd_v, ct_s, Bool.false_eq_true]
  intro m
  induction m with
  | zero => intro q T J L R z w h1 h2 h h0 hz hw; exact out q T J L R z w h1 h2 h0 hz hw
  | succ m ih =>
    intro q T J L R z w h1 h2 h h0 hz hw
    by_cases c : N < 4 * q + 4
    · exact out q T J L R z w c h2 h0 hz hw
    · obtain ⟨T', J', L', R', z', w', e, g1, g2, g3, g4, g5⟩ := law_step (d := d) (L := L) (w := w) (i := 4 * (q : Int)) h h0 hN ⟨by omega, by omega⟩
      have eq : 4 * (q : Int) + 4 = 4 * ((q + 1 : Nat) : Int) := by omega
      rw [eq] at e
      have hz' : z' ≤ 205 + 7 * (q + 1) := by omega
      have hw' : w' ≤ B + 250 * (q + 1) := by
        rw [Nat.mul_add_one, ← Nat.add_assoc]
        exact Nat.le_trans g5 (Nat.add_le_add_right hw 250)
      have h30 : ¬ (T 0).1 = 0 := by rw [h0]; exact (fun e : (30 : Nat) = 0 => absurd e (by decide))
      have h0' : T' 0 = (30, N) := (g3 0 h30).trans h0
      obtain ⟨M', r1, r2⟩ := ih (q + 1) T' J' L' R' z' w' (by omega) (by omega) g1 h0' hz' hw'
      exact ⟨M', e.trans ((s194_915 ..).trans r1), r2⟩
theorem am_goal : am_Goal := by
  intro N xs hN
  obtain ⟨T', R', L', e1, hcl, h0⟩ := cl_start (d := 1947) (xs := xs) hN
  obtain ⟨M', r1, r2, r3⟩ := law_loop (d := 1947) (B := 3383) (by decide) hN 512 0 T' (nJ xs) L' R' 205 3383 (by omega) (by omega) hcl h0 (Nat.le_refl _) (Nat.le_refl _)
  have e0 : 4 * ((0 : Nat) : Int) = 0 := rfl
  rw [e0] at r1
  obtain ⟨n, hn⟩ := rn_iff.mp (e1.trans r1)
  exact ⟨n, M', hn, r2, r3⟩
end WD
theorem whole_start {p : Program} {e : Env} {s : State} {m : MethodId} {below : List Frame} {meth : Method} {c : Code} (l : Launch) (_hflags : l.flags = flags0) {b L : Nat} {xs : Nat → Int32} (hL : L ≤ 2048) (C0 : lw_At p s m meth c b L xs) : W p l e room_1 s m #[Value.ref b] below meth c s.heap [] 0 0 (lw_Z below #[Value.ref b] s) (entryFrame m ([Value.ref b] : List Value).toArray 4) :=
  am_whole am_goal l hL C0
