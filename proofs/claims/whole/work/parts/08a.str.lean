/-! strings: their chars, and the members of String that are reached -/
def sl : Nat → List Int := fun i => [[114, 97, 105, 110], [119, 101, 116], [99, 97, 114, 114, 121], [108, 111, 115, 116], [99, 97, 114, 116], [115, 104, 112, 100, 117], [60, 61, 62], [114, 97, 105, 110, 32], [115, 104, 112, 100, 117], [60, 61, 62], [108, 111, 115, 116, 32], [119, 101, 116, 32], [99, 97, 114], [114, 121, 32], [116, 32]].getD i []
/-- the string constants -/
def sK (T : Nat → Nat × Nat) (J : mR) : Prop := (∀ i, i < 15 → T (10 + i) = (31, 0) ∧ T (30 + i) = (32, (sl i).length)) ∧ ∀ i k : Nat, i < 15 → k < (sl i).length → J (30 + i) (k : Int) = (sl i).getD k 0
theorem sK_u {T : Nat → Nat × Nat} {J : mR} {b : Nat} {V : Int → Int} (h : sK T J) (hb : 100 ≤ b) : sK T (ur J b V) := ⟨h.1, fun i k hi hk => by rw [ur_o (by omega)]; exact h.2 i k hi hk⟩
theorem sK_x {T : Nat → Nat × Nat} {J J' : mR} (h : sK T J) (e : ∀ b, b < 100 → J' b = J b) : sK T J' := ⟨h.1, fun i k hi hk => by rw [e _ (by omega)]; exact h.2 i k hi hk⟩
theorem sK.t0 {T : Nat → Nat × Nat} {J : mR} (h : sK T J) : T 10 = (31, 0) := (h.1 0 (by decide)).1
theorem sK.b0 {T : Nat → Nat × Nat} {J : mR} (h : sK T J) : T 30 = (32, 4) := (h.1 0 (by decide)).2
theorem sK.c0_0 {T : Nat → Nat × Nat} {J : mR} (h : sK T J) : J 30 0 = 114 := h.2 0 0 (by decide) (by decide)
theorem sK.c0_1 {T : Nat → Nat × Nat} {J : mR} (h : sK T J) : J 30 1 = 97 := h.2 0 1 (by decide) (by decide)
theorem sK.c0_2 {T : Nat → Nat × Nat} {J : mR} (h : sK T J) : J 30 2 = 105 := h.2 0 2 (by decide) (by decide)
theorem sK.c0_3 {T : Nat → Nat × Nat} {J : mR} (h : sK T J) : J 30 3 = 110 := h.2 0 3 (by decide) (by decide)
theorem sK.t1 {T : Nat → Nat × Nat} {J : mR} (h : sK T J) : T 11 = (31, 0) := (h.1 1 (by decide)).1
theorem sK.b1 {T : Nat → Nat × Nat} {J : mR} (h : sK T J) : T 31 = (32, 3) := (h.1 1 (by decide)).2
theorem sK.c1_0 {T : Nat → Nat × Nat} {J : mR} (h : sK T J) : J 31 0 = 119 := h.2 1 0 (by decide) (by decide)
theorem sK.c1_1 {T : Nat → Nat × Nat} {J : mR} (h : sK T J) : J 31 1 = 101 := h.2 1 1 (by decide) (by decide)
theorem sK.c1_2 {T : Nat → Nat × Nat} {J : mR} (h : sK T J) : J 31 2 = 116 := h.2 1 2 (by decide) (by decide)
theorem sK.t2 {T : Nat → Nat × Nat} {J : mR} (h : sK T J) : T 12 = (31, 0) := (h.1 2 (by decide)).1
theorem sK.b2 {T : Nat → Nat × Nat} {J : mR} (h : sK T J) : T 32 = (32, 5) := (h.1 2 (by decide)).2
theorem sK.c2_0 {T : Nat → Nat × Nat} {J : mR} (h : sK T J) : J 32 0 = 99 := h.2 2 0 (by decide) (by decide)
theorem sK.c2_1 {T : Nat → Nat × Nat} {J : mR} (h : sK T J) : J 32 1 = 97 := h.2 2 1 (by decide) (by decide)
theorem sK.c2_2 {T : Nat → Nat × Nat} {J : mR} (h : sK T J) : J 32 2 = 114 := h.2 2 2 (by decide) (by decide)
theorem sK.c2_3 {T : Nat → Nat × Nat} {J : mR} (h : sK T J) : J 32 3 = 114 := h.2 2 3 (by decide) (by decide)
theorem sK.c2_4 {T : Nat → Nat × Nat} {J : mR} (h : sK T J) : J 32 4 = 121 := h.2 2 4 (by decide) (by decide)
theorem sK.t3 {T : Nat → Nat × Nat} {J : mR} (h : sK T J) : T 13 = (31, 0) := (h.1 3 (by decide)).1
theorem sK.b3 {T : Nat → Nat × Nat} {J : mR} (h : sK T J) : T 33 = (32, 4) := (h.1 3 (by decide)).2
theorem sK.c3_0 {T : Nat → Nat × Nat} {J : mR} (h : sK T J) : J 33 0 = 108 := h.2 3 0 (by decide) (by decide)
theorem sK.c3_1 {T : Nat → Nat × Nat} {J : mR} (h : sK T J) : J 33 1 = 111 := h.2 3 1 (by decide) (by decide)
theorem sK.c3_2 {T : Nat → Nat × Nat} {J : mR} (h : sK T J) : J 33 2 = 115 := h.2 3 2 (by decide) (by decide)
theorem sK.c3_3 {T : Nat → Nat × Nat} {J : mR} (h : sK T J) : J 33 3 = 116 := h.2 3 3 (by decide) (by decide)
theorem sK.t4 {T : Nat → Nat × Nat} {J : mR} (h : sK T J) : T 14 = (31, 0) := (h.1 4 (by decide)).1
theorem sK.b4 {T : Nat → Nat × Nat} {J : mR} (h : sK T J) : T 34 = (32, 4) := (h.1 4 (by decide)).2
theorem sK.c4_0 {T : Nat → Nat × Nat} {J : mR} (h : sK T J) : J 34 0 = 99 := h.2 4 0 (by decide) (by decide)
theorem sK.c4_1 {T : Nat → Nat × Nat} {J : mR} (h : sK T J) : J 34 1 = 97 := h.2 4 1 (by decide) (by decide)
theorem sK.c4_2 {T : Nat → Nat × Nat} {J : mR} (h : sK T J) : J 34 2 = 114 := h.2 4 2 (by decide) (by decide)
theorem sK.c4_3 {T : Nat → Nat × Nat} {J : mR} (h : sK T J) : J 34 3 = 116 := h.2 4 3 (by decide) (by decide)
theorem sK.t5 {T : Nat → Nat × Nat} {J : mR} (h : sK T J) : T 15 = (31, 0) := (h.1 5 (by decide)).1
theorem sK.b5 {T : Nat → Nat × Nat} {J : mR} (h : sK T J) : T 35 = (32, 5) := (h.1 5 (by decide)).2
theorem sK.c5_0 {T : Nat → Nat × Nat} {J : mR} (h : sK T J) : J 35 0 = 115 := h.2 5 0 (by decide) (by decide)
theorem sK.c5_1 {T : Nat → Nat × Nat} {J : mR} (h : sK T J) : J 35 1 = 104 := h.2 5 1 (by decide) (by decide)
theorem sK.c5_2 {T : Nat → Nat × Nat} {J : mR} (h : sK T J) : J 35 2 = 112 := h.2 5 2 (by decide) (by decide)
theorem sK.c5_3 {T : Nat → Nat × Nat} {J : mR} (h : sK T J) : J 35 3 = 100 := h.2 5 3 (by decide) (by decide)
theorem sK.c5_4 {T : Nat → Nat × Nat} {J : mR} (h : sK T J) : J 35 4 = 117 := h.2 5 4 (by decide) (by decide)
theorem sK.t6 {T : Nat → Nat × Nat} {J : mR} (h : sK T J) : T 16 = (31, 0) := (h.1 6 (by decide)).1
theorem sK.b6 {T : Nat → Nat × Nat} {J : mR} (h : sK T J) : T 36 = (32, 3) := (h.1 6 (by decide)).2
theorem sK.c6_0 {T : Nat → Nat × Nat} {J : mR} (h : sK T J) : J 36 0 = 60 := h.2 6 0 (by decide) (by decide)
theorem sK.c6_1 {T : Nat → Nat × Nat} {J : mR} (h : sK T J) : J 36 1 = 61 := h.2 6 1 (by decide) (by decide)
theorem sK.c6_2 {T : Nat → Nat × Nat} {J : mR} (h : sK T J) : J 36 2 = 62 := h.2 6 2 (by decide) (by decide)
theorem sK.t7 {T : Nat → Nat × Nat} {J : mR} (h : sK T J) : T 17 = (31, 0) := (h.1 7 (by decide)).1
theorem sK.b7 {T : Nat → Nat × Nat} {J : mR} (h : sK T J) : T 37 = (32, 5) := (h.1 7 (by decide)).2
theorem sK.c7_0 {T : Nat → Nat × Nat} {J : mR} (h : sK T J) : J 37 0 = 114 := h.2 7 0 (by decide) (by decide)
theorem sK.c7_1 {T : Nat → Nat × Nat} {J : mR} (h : sK T J) : J 37 1 = 97 := h.2 7 1 (by decide) (by decide)
theorem sK.c7_2 {T : Nat → Nat × Nat} {J : mR} (h : sK T J) : J 37 2 = 105 := h.2 7 2 (by decide) (by decide)
theorem sK.c7_3 {T : Nat → Nat × Nat} {J : mR} (h : sK T J) : J 37 3 = 110 := h.2 7 3 (by decide) (by decide)
theorem sK.c7_4 {T : Nat → Nat × Nat} {J : mR} (h : sK T J) : J 37 4 = 32 := h.2 7 4 (by decide) (by decide)
theorem sK.t8 {T : Nat → Nat × Nat} {J : mR} (h : sK T J) : T 18 = (31, 0) := (h.1 8 (by decide)).1
theorem sK.b8 {T : Nat → Nat × Nat} {J : mR} (h : sK T J) : T 38 = (32, 5) := (h.1 8 (by decide)).2
theorem sK.c8_0 {T : Nat → Nat × Nat} {J : mR} (h : sK T J) : J 38 0 = 115 := h.2 8 0 (by decide) (by decide)
theorem sK.c8_1 {T : Nat → Nat × Nat} {J : mR} (h : sK T J) : J 38 1 = 104 := h.2 8 1 (by decide) (by decide)
theorem sK.c8_2 {T : Nat → Nat × Nat} {J : mR} (h : sK T J) : J 38 2 = 112 := h.2 8 2 (by decide) (by decide)
theorem sK.c8_3 {T : Nat → Nat × Nat} {J : mR} (h : sK T J) : J 38 3 = 100 := h.2 8 3 (by decide) (by decide)
theorem sK.c8_4 {T : Nat → Nat × Nat} {J : mR} (h : sK T J) : J 38 4 = 117 := h.2 8 4 (by decide) (by decide)
theorem sK.t9 {T : Nat → Nat × Nat} {J : mR} (h : sK T J) : T 19 = (31, 0) := (h.1 9 (by decide)).1
theorem sK.b9 {T : Nat → Nat × Nat} {J : mR} (h : sK T J) : T 39 = (32, 3) := (h.1 9 (by decide)).2
theorem sK.c9_0 {T : Nat → Nat × Nat} {J : mR} (h : sK T J) : J 39 0 = 60 := h.2 9 0 (by decide) (by decide)
theorem sK.c9_1 {T : Nat → Nat × Nat} {J : mR} (h : sK T J) : J 39 1 = 61 := h.2 9 1 (by decide) (by decide)
theorem sK.c9_2 {T : Nat → Nat × Nat} {J : mR} (h : sK T J) : J 39 2 = 62 := h.2 9 2 (by decide) (by decide)
theorem sK.t10 {T : Nat → Nat × Nat} {J : mR} (h : sK T J) : T 20 = (31, 0) := (h.1 10 (by decide)).1
theorem sK.b10 {T : Nat → Nat × Nat} {J : mR} (h : sK T J) : T 40 = (32, 5) := (h.1 10 (by decide)).2
theorem sK.c10_0 {T : Nat → Nat × Nat} {J : mR} (h : sK T J) : J 40 0 = 108 := h.2 10 0 (by decide) (by decide)
theorem sK.c10_1 {T : Nat → Nat × Nat} {J : mR} (h : sK T J) : J 40 1 = 111 := h.2 10 1 (by decide) (by decide)
theorem sK.c10_2 {T : Nat → Nat × Nat} {J : mR} (h : sK T J) : J 40 2 = 115 := h.2 10 2 (by decide) (by decide)
theorem sK.c10_3 {T : Nat → Nat × Nat} {J : mR} (h : sK T J) : J 40 3 = 116 := h.2 10 3 (by decide) (by decide)
theorem sK.c10_4 {T : Nat → Nat × Nat} {J : mR} (h : sK T J) : J 40 4 = 32 := h.2 10 4 (by decide) (by decide)
theorem sK.t11 {T : Nat → Nat × Nat} {J : mR} (h : sK T J) : T 21 = (31, 0) := (h.1 11 (by decide)).1
theorem sK.b11 {T : Nat → Nat × Nat} {J : mR} (h : sK T J) : T 41 = (32, 4) := (h.1 11 (by decide)).2
theorem sK.c11_0 {T : Nat → Nat × Nat} {J : mR} (h : sK T J) : J 41 0 = 119 := h.2 11 0 (by decide) (by decide)
theorem sK.c11_1 {T : Nat → Nat × Nat} {J : mR} (h : sK T J) : J 41 1 = 101 := h.2 11 1 (by decide) (by decide)
theorem sK.c11_2 {T : Nat → Nat × Nat} {J : mR} (h : sK T J) : J 41 2 = 116 := h.2 11 2 (by decide) (by decide)
theorem sK.c11_3 {T : Nat → Nat × Nat} {J : mR} (h : sK T J) : J 41 3 = 32 := h.2 11 3 (by decide) (by decide)
theorem sK.t12 {T : Nat → Nat × Nat} {J : mR} (h : sK T J) : T 22 = (31, 0) := (h.1 12 (by decide)).1
theorem sK.b12 {T : Nat → Nat × Nat} {J : mR} (h : sK T J) : T 42 = (32, 3) := (h.1 12 (by decide)).2
theorem sK.c12_0 {T : Nat → Nat × Nat} {J : mR} (h : sK T J) : J 42 0 = 99 := h.2 12 0 (by decide) (by decide)
theorem sK.c12_1 {T : Nat → Nat × Nat} {J : mR} (h : sK T J) : J 42 1 = 97 := h.2 12 1 (by decide) (by decide)
theorem sK.c12_2 {T : Nat → Nat × Nat} {J : mR} (h : sK T J) : J 42 2 = 114 := h.2 12 2 (by decide) (by decide)
theorem sK.t13 {T : Nat → Nat × Nat} {J : mR} (h : sK T J) : T 23 = (31, 0) := (h.1 13 (by decide)).1
theorem sK.b13 {T : Nat → Nat × Nat} {J : mR} (h : sK T J) : T 43 = (32, 3) := (h.1 13 (by decide)).2
theorem sK.c13_0 {T : Nat → Nat × Nat} {J : mR} (h : sK T J) : J 43 0 = 114 := h.2 13 0 (by decide) (by decide)
theorem sK.c13_1 {T : Nat → Nat × Nat} {J : mR} (h : sK T J) : J 43 1 = 121 := h.2 13 1 (by decide) (by decide)
theorem sK.c13_2 {T : Nat → Nat × Nat} {J : mR} (h : sK T J) : J 43 2 = 32 := h.2 13 2 (by decide) (by decide)
theorem sK.t14 {T : Nat → Nat × Nat} {J : mR} (h : sK T J) : T 24 = (31, 0) := (h.1 14 (by decide)).1
theorem sK.b14 {T : Nat → Nat × Nat} {J : mR} (h : sK T J) : T 44 = (32, 2) := (h.1 14 (by decide)).2
theorem sK.c14_0 {T : Nat → Nat × Nat} {J : mR} (h : sK T J) : J 44 0 = 116 := h.2 14 0 (by decide) (by decide)
theorem sK.c14_1 {T : Nat → Nat × Nat} {J : mR} (h : sK T J) : J 44 1 = 32 := h.2 14 1 (by decide) (by decide)
theorem i2c_e {v : Int} (h : 0 ≤ v ∧ v < 65536) : ((iI v).toUInt32 % 65536).toInt32 = iI v := by
  have e : v = ((v.toNat : Nat) : Int) := by omega
  rw [e, iI_nI, pk_char, pk_tn (by omega), Nat.mod_eq_of_lt (by omega)]
theorem nar_c {v : Int} (h : 0 ≤ v ∧ v < 65536) : narrow .char (.int (iI v)) = .int (iI v) := by
  have e : v = ((v.toNat : Nat) : Int) := by omega
  rw [e, iI_nI]
  exact (pk_charN (by omega)).1
theorem nar_b0 : narrow .byte (.int (iI 0)) = .int (iI 0) := rfl
theorem shr0 (x : Int32) : x >>> (iI 0 &&& 31) = x := by
  apply Int32.toInt_inj.mp
  rw [pk_shr x (iI 0 &&& 31) 0 (by decide)]
  exact Int.shiftRight_zero _
section ST
variable {d : Nat} {T : Nat → Nat × Nat} {L : Nat → Nat → Int64} {R : Nat → Nat → Option Nat} {z w : Nat} {J : mR}
theorem j_len {a m : Nat} (hT : T a = (31, 0)) (hB : T (a + 20) = (32, m)) (hm : m < 1000) : rn_c (d + 1) 177 [.ref a] (T, oI J, L, R, z, w) = some (some (.int (iI m)), (T, oI J, L, R, z, w)) := by
  simp (disch := first | omega | exact hJ _ _ | exact rJ_g hJ _ _ | (simp (disch := omega) only [ur_r, ur_o, up_r, up_o]; omega) | assumption) only [c177, s177_0, s177_0v, s177_1, s177_4, s177_5, s177_5v, s177_6, s177_9, s177_10, c181, s181_0, b181_3, s181_6, s181_6v, s181_7, s181_10, s181_13, s181_14, hT, hB, shr0, nar_b0, iI_ofNat, List.contains_cons, Nat.reduceBEq, Bool.or_true, Bool.true_or, Bool.or_false, Bool.false_or, kl_i, kl_r, kl_l, kl_n, kl_z, bd_s, tl_s, tl_n, ap_c, ap_n, v_s, v_n, nd_1, nd_0, ct13, eq_self, iI_add, iI_sub, iI_mul, iI_nat, iI_eq, iI_lt, iI_le, iI_eq0, iI_lt0, ↓reduceIte, if_true, if_false, not_true_eq_false, not_false_eq_true, true_and, and_true, false_and, and_false, true_or, or_true, false_or, or_false, Int.reduceLT, Int.reduceLE, Int.reduceEq, Int.reduceAdd, Int.reduceSub, Int.reduceMul, Nat.reduceAdd, Nat.reduceLT, Nat.reduceEqDiff, Int.reduceNeg, nc_s, nc_0, Int.zero_add, Int.add_zero, oI_r, oI_w, oI_f0, oI_g0, oI_f1, oI_g1, oI_f2, oI_g2, oI_f3, oI_g3, oI_f4, oI_g4, oI_f5, oI_g5, oI_f6, oI_g6, oI_f7, oI_g7, oI_f8, oI_g8, oI_f9, oI_g9, oI_f10, oI_g10, oI_f11, oI_g11, oI_f12, oI_g12, oI_f13, oI_g13, oI_f14, oI_g14, oI_f15, oI_g15, oI_f16, oI_g16, oI_f17, oI_g17, oI_f18, oI_g18, oI_f19, oI_g19, oI_f20, oI_g20, oI_f21, oI_g21, oI_f22, oI_g22, oI_f23, oI_g23, oI_f24, oI_g24, oI_f25, oI_g25, ur_r, ur_o, ur_s, up_r, up_o, up_s, jI_add, jI_sub, jI_mul, jI_neg, jI_i, jI_n, lgc_j, cj_lt, cj_ge, cj_gt, cj_le, cj_eq, oL_r, oL_w, oL_f6, oL_g6, oL_f7, oL_g7, oL_f17, oL_g17, oL_f18, oL_g18, dl_T, dl_F, de_T, de_F, dle_T, dle_F, iI_divn, rem_n, nd_v, ct_s, Bool.false_eq_true]
theorem j_char {a m : Nat} {k v : Int} (hT : T a = (31, 0)) (hB : T (a + 20) = (32, m)) (hk : 0 ≤ k ∧ k < m) (hm : m < 1000) (hv : J (a + 20) k = v) (hr : 0 ≤ v ∧ v < 128) : rn_c (d + 4) 178 [.ref a, .int (iI k)] (T, oI J, L, R, z, w) = some (some (.int (iI v)), (T, oI J, L, R, z, w)) := by
  have ar : am_arr T [22, 23, 32] (a + 20) (iI k) = true := ar_ok hB rfl (by omega) hk
  have hm1 : v % 256 = v := by omega
  simp (disch := first | omega | exact hJ _ _ | exact rJ_g hJ _ _ | (simp (disch := omega) only [ur_r, ur_o, up_r, up_o]; omega) | assumption) only [c178, s178_0, s178_0v, s178_1, b178_4, s178_7, s178_7v, s178_8, s178_11, s178_12, s178_15, s178_16, s178_16v, s178_17, s178_20, c182, s182_0, b182_3, s182_6, s182_6v, s182_7, b182_10, s182_13, s182_14, s182_17, s182_18, c184, s184_0, s184_1, s184_1v, s184_2, s184_3, s184_6, s184_6v, s184_7, s184_8, s184_9, s184_12, s184_13, s184_14, c183, s183_0, s183_1, s183_2, s183_5, s183_8, s183_9, c188, s188_0, b188_1, s188_4, s188_5, b188_6, s188_9, s188_9v, s188_10, s188_11, s188_16, s188_17, hT, hB, ar, hv, and255, i2c_e, nar_c, iI_ofNat, hm1, List.contains_cons, Nat.reduceBEq, Bool.or_true, Bool.true_or, Bool.or_false, Bool.false_or, kl_i, kl_r, kl_l, kl_n, kl_z, bd_s, tl_s, tl_n, ap_c, ap_n, v_s, v_n, nd_1, nd_0, ct13, eq_self, iI_add, iI_sub, iI_mul, iI_nat, iI_eq, iI_lt, iI_le, iI_eq0, iI_lt0, ↓reduceIte, if_true, if_false, not_true_eq_false, not_false_eq_true, true_and, and_true, false_and, and_false, true_or, or_true, false_or, or_false, Int.reduceLT, Int.reduceLE, Int.reduceEq, Int.reduceAdd, Int.reduceSub, Int.reduceMul, Nat.reduceAdd, Nat.reduceLT, Nat.reduceEqDiff, Int.reduceNeg, nc_s, nc_0, Int.zero_add, Int.add_zero, oI_r, oI_w, oI_f0, oI_g0, oI_f1, oI_g1, oI_f2, oI_g2, oI_f3, oI_g3, oI_f4, oI_g4, oI_f5, oI_g5, oI_f6, oI_g6, oI_f7, oI_g7, oI_f8, oI_g8, oI_f9, oI_g9, oI_f10, oI_g10, oI_f11, oI_g11, oI_f12, oI_g12, oI_f13, oI_g13, oI_f14, oI_g14, oI_f15, oI_g15, oI_f16, oI_g16, oI_f17, oI_g17, oI_f18, oI_g18, oI_f19, oI_g19, oI_f20, oI_g20, oI_f21, oI_g21, oI_f22, oI_g22, oI_f23, oI_g23, oI_f24, oI_g24, oI_f25, oI_g25, ur_r, ur_o, ur_s, up_r, up_o, up_s, jI_add, jI_sub, jI_mul, jI_neg, jI_i, jI_n, lgc_j, cj_lt, cj_ge, cj_gt, cj_le, cj_eq, oL_r, oL_w, oL_f6, oL_g6, oL_f7, oL_g7, oL_f17, oL_g17, oL_f18, oL_g18, dl_T, dl_F, de_T, de_F, dle_T, dle_F, iI_divn, rem_n, nd_v, ct_s, Bool.false_eq_true]
end ST
