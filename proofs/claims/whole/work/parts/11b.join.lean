/-! the class: a town is read; what is joined -/
section TB
variable {d : Nat} {T : Nat → Nat × Nat} {L : Nat → Nat → Int64} {R : Nat → Nat → Option Nat} {z w : Nat} {J : mR} {t : Nat} {n i k : Int} {x V : Int → Int}
theorem faP_0 : faP x n 0 i = teP x n i := by
  simp only [faP]
  split
  · rename_i e
    have : ix5 (atP x n i) = -1 := by rw [e]; rfl
    unfold teP; rw [if_pos this]
  split
  · rename_i e
    have : ix5 (atP x n i) = -1 := by rw [e]; rfl
    unfold teP; rw [if_pos this]
  · rfl
theorem laV_j {V : Int → Int} {k : Int} {ts us : List Int} {tok : Int} (ht : trC tok = tok) : laV V k ((ts ++ ([tok] ++ us)).map trC) = laV (up (laV V k (ts.map trC)) (k + ts.length) tok) (k + ts.length + 1) (us.map trC) := by
  rw [List.map_append, laV_a, List.length_map]
  show laV (up _ _ (trC tok)) _ (us.map trC) = _
  rw [ht]
theorem bw_01 (r : PR) : 0 ≤ bw r ∧ bw r ≤ 1 := by unfold bw; split <;> omega
theorem rb_loop (h : txK T R J t x n) {f : Int → PR} (hf : gP n f) {o : Int} (hr : runsK T R J t x n L z w (d + 2) 38 [.int (iI o)] f) : ∀ (m : Nat) (q i k : Int) (V : Int → Int), (m : Int) + q = 121 → 0 ≤ q → q < i → i ≤ n → 0 ≤ k → k ≤ i → ∃ (k' : Int) (V' : Int → Int), rn_r (d + 3) 37 12 [some (.ref t), some (.int (iI o)), some (.int (iI q))] [] (T, oI (pC J t i k V), L, R, z, w) = some (some (.int (iI (1 - bw (lpP x n 38 (-2) f m i)))), (T, oI (pC J t (lpP x n 38 (-2) f m i).1 k' V'), L, R, z, w)) ∧ ∀ ts, (lpP x n 38 (-2) f m i).2 = some ts → k' = k + (ts.length : Int) ∧ V' = laV V k (ts.map trC) := by
  have hn := h.2.2.2.1
  have t0 := h.t0
  intro m
  induction m with
  | zero => intro q i k V hm h0 hqi hi; exfalso; omega
  | succ m ih =>
    intro q i k V hm hq hqi hi hk hki
    have sk := t_skip (d := d + 1) (L := L) (z := z) (w := w) (k := k) (V := V) h 38 (by omega) (i := i) (by omega)
    by_cases e : atP x n i = 38
    · have hin := atP_n e (by decide)
      rw [if_pos e, if_pos e] at sk
      obtain ⟨k1, V1, hrun1, r1⟩ := hr (i + 1) k V (by omega) (by omega) hk (by omega)
      obtain ⟨g1, g2, g3⟩ := hf (i + 1) (by omega) (by omega)
      have el : lpP x n 38 (-2) f (m + 1) i = bnd (f (i + 1)) (fun j => bnd (j, some [-2]) (lpP x n 38 (-2) f m)) := by simp only [lpP, if_pos e]
      rw [el]
      generalize f (i + 1) = r at *
      obtain ⟨j, ots⟩ := r
      cases ots with
      | none =>
        refine ⟨k1, V1, ?_, fun ts q => by cases q⟩
        simp only [bnd_nn, bw_n] at hrun1 ⊢
        simp (disch := first | omega | exact hJ _ _ | exact rJ_g hJ _ _ | (simp (disch := omega) only [ur_r, ur_o, up_r, up_o]; omega) | assumption) only [s37_12, s37_13, b37_15, s37_18, s37_18v, s37_19, s37_21, b37_24, s37_27, s37_27v, s37_28, s37_29, b37_32, s37_35, s37_35v, s37_36, s37_38, b37_41, s37_44, s37_45, t0, sk, hrun1, kl_i, kl_r, kl_l, kl_n, kl_z, bd_s, tl_s, tl_n, ap_c, ap_n, v_s, v_n, nd_1, nd_0, ct13, eq_self, iI_add, iI_sub, iI_mul, iI_nat, iI_eq, iI_lt, iI_le, iI_eq0, iI_lt0, ↓reduceIte, if_true, if_false, not_true_eq_false, not_false_eq_true, true_and, and_true, false_and, and_false, true_or, or_true, false_or, or_false, Int.reduceLT, Int.reduceLE, Int.reduceEq, Int.reduceAdd, Int.reduceSub, Int.reduceMul, Nat.reduceAdd, Nat.reduceLT, Nat.reduceEqDiff, Int.reduceNeg, nc_s, nc_0, Int.zero_add, Int.add_zero, oI_r, oI_w, oI_f0, oI_g0, oI_f1, oI_g1, oI_f2, oI_g2, oI_f3, oI_g3, oI_f4, oI_g4, oI_f5, oI_g5, oI_f6, oI_g6, oI_f7, oI_g7, oI_f8, oI_g8, oI_f9, oI_g9, oI_f10, oI_g10, oI_f11, oI_g11, oI_f12, oI_g12, oI_f13, oI_g13, oI_f14, oI_g14, oI_f15, oI_g15, oI_f16, oI_g16, oI_f17, oI_g17, oI_f18, oI_g18, oI_f19, oI_g19, oI_f20, oI_g20, oI_f21, oI_g21, oI_f22, oI_g22, oI_f23, oI_g23, oI_f24, oI_g24, oI_f25, oI_g25, ur_r, ur_o, ur_s, up_r, up_o, up_s, jI_add, jI_sub, jI_mul, jI_neg, jI_i, jI_n, lgc_j, cj_lt, cj_ge, cj_gt, cj_le, cj_eq, oL_r, oL_w, oL_f6, oL_g6, oL_f7, oL_g7, oL_f17, oL_g17, oL_f18, oL_g18, dl_T, dl_F, de_T, de_F, dle_T, dle_F, iI_divn, rem_n, nd_v, ct_s, Bool.false_eq_true]
      | some ts =>
        obtain ⟨rfl, rfl⟩ := r1 ts rfl
        have hl := g3 ts rfl
        simp only [bw_s] at hrun1
        simp only [] at hl g1 g2
        have pu := t_put (d := d + 2) (L := L) (z := z) (w := w) (i := j) (k := k + (ts.length : Int)) (V := laV V k (ts.map trC)) h (-2) (by omega)
        obtain ⟨k2, V2, hrun2, r2⟩ := ih (q + 1) j (k + (ts.length : Int) + 1) (up (laV V k (ts.map trC)) (k + (ts.length : Int)) (-2)) (by omega) (by omega) (by omega) g2 (by omega) (by omega)
        refine ⟨k2, V2, ?_, ?_⟩
        · simp only [bnd_some, bnd_bw]
          refine Eq.trans ?_ ((s37_49 ..).trans hrun2)
          simp (disch := first | omega | exact hJ _ _ | exact rJ_g hJ _ _ | (simp (disch := omega) only [ur_r, ur_o, up_r, up_o]; omega) | assumption) only [s37_12, s37_13, b37_15, s37_18, s37_18v, s37_19, s37_21, b37_24, s37_27, s37_27v, s37_28, s37_29, b37_32, s37_35, s37_35v, s37_36, s37_38, b37_41, s37_44, s37_45, s37_46, t0, sk, hrun1, pu, kl_i, kl_r, kl_l, kl_n, kl_z, bd_s, tl_s, tl_n, ap_c, ap_n, v_s, v_n, nd_1, nd_0, ct13, eq_self, iI_add, iI_sub, iI_mul, iI_nat, iI_eq, iI_lt, iI_le, iI_eq0, iI_lt0, ↓reduceIte, if_true, if_false, not_true_eq_false, not_false_eq_true, true_and, and_true, false_and, and_false, true_or, or_true, false_or, or_false, Int.reduceLT, Int.reduceLE, Int.reduceEq, Int.reduceAdd, Int.reduceSub, Int.reduceMul, Nat.reduceAdd, Nat.reduceLT, Nat.reduceEqDiff, Int.reduceNeg, nc_s, nc_0, Int.zero_add, Int.add_zero, oI_r, oI_w, oI_f0, oI_g0, oI_f1, oI_g1, oI_f2, oI_g2, oI_f3, oI_g3, oI_f4, oI_g4, oI_f5, oI_g5, oI_f6, oI_g6, oI_f7, oI_g7, oI_f8, oI_g8, oI_f9, oI_g9, oI_f10, oI_g10, oI_f11, oI_g11, oI_f12, oI_g12, oI_f13, oI_g13, oI_f14, oI_g14, oI_f15, oI_g15, oI_f16, oI_g16, oI_f17, oI_g17, oI_f18, oI_g18, oI_f19, oI_g19, oI_f20, oI_g20, oI_f21, oI_g21, oI_f22, oI_g22, oI_f23, oI_g23, oI_f24, oI_g24, oI_f25, oI_g25, ur_r, ur_o, ur_s, up_r, up_o, up_s, jI_add, jI_sub, jI_mul, jI_neg, jI_i, jI_n, lgc_j, cj_lt, cj_ge, cj_gt, cj_le, cj_eq, oL_r, oL_w, oL_f6, oL_g6, oL_f7, oL_g7, oL_f17, oL_g17, oL_f18, oL_g18, dl_T, dl_F, de_T, de_F, dle_T, dle_F, iI_divn, rem_n, nd_v, ct_s, Bool.false_eq_true]
        · intro us q
          generalize hz : lpP x n 38 (-2) f m j = zz at *
          obtain ⟨p, ovs⟩ := zz
          cases ovs with
          | none => rw [bnd_sn (bnd_sn hz)] at q; cases q
          | some vs =>
            rw [bnd_ss (bnd_ss hz)] at q
            cases q
            obtain ⟨rfl, rfl⟩ := r2 vs rfl
            refine ⟨?_, (laV_j rfl).symm⟩
            rw [List.length_append, List.length_append]
            show _ = k + ((ts.length + (1 + vs.length) : Nat) : Int)
            omega
    · rw [if_neg e, if_neg e] at sk
      refine ⟨k, V, ?_, fun ts q => ?_⟩
      · simp only [lpP, if_neg e, bw_s]
        simp (disch := first | omega | exact hJ _ _ | exact rJ_g hJ _ _ | (simp (disch := omega) only [ur_r, ur_o, up_r, up_o]; omega) | assumption) only [s37_12, s37_13, b37_15, s37_18, s37_18v, s37_19, s37_21, b37_24, s37_52, s37_53, t0, sk, kl_i, kl_r, kl_l, kl_n, kl_z, bd_s, tl_s, tl_n, ap_c, ap_n, v_s, v_n, nd_1, nd_0, ct13, eq_self, iI_add, iI_sub, iI_mul, iI_nat, iI_eq, iI_lt, iI_le, iI_eq0, iI_lt0, ↓reduceIte, if_true, if_false, not_true_eq_false, not_false_eq_true, true_and, and_true, false_and, and_false, true_or, or_true, false_or, or_false, Int.reduceLT, Int.reduceLE, Int.reduceEq, Int.reduceAdd, Int.reduceSub, Int.reduceMul, Nat.reduceAdd, Nat.reduceLT, Nat.reduceEqDiff, Int.reduceNeg, nc_s, nc_0, Int.zero_add, Int.add_zero, oI_r, oI_w, oI_f0, oI_g0, oI_f1, oI_g1, oI_f2, oI_g2, oI_f3, oI_g3, oI_f4, oI_g4, oI_f5, oI_g5, oI_f6, oI_g6, oI_f7, oI_g7, oI_f8, oI_g8, oI_f9, oI_g9, oI_f10, oI_g10, oI_f11, oI_g11, oI_f12, oI_g12, oI_f13, oI_g13, oI_f14, oI_g14, oI_f15, oI_g15, oI_f16, oI_g16, oI_f17, oI_g17, oI_f18, oI_g18, oI_f19, oI_g19, oI_f20, oI_g20, oI_f21, oI_g21, oI_f22, oI_g22, oI_f23, oI_g23, oI_f24, oI_g24, oI_f25, oI_g25, ur_r, ur_o, ur_s, up_r, up_o, up_s, jI_add, jI_sub, jI_mul, jI_neg, jI_i, jI_n, lgc_j, cj_lt, cj_ge, cj_gt, cj_le, cj_eq, oL_r, oL_w, oL_f6, oL_g6, oL_f7, oL_g7, oL_f17, oL_g17, oL_f18, oL_g18, dl_T, dl_F, de_T, de_F, dle_T, dle_F, iI_divn, rem_n, nd_v, ct_s, Bool.false_eq_true]
      · simp only [lpP, if_neg e] at q
        cases q
        exact ⟨(Int.add_zero k).symm, rfl⟩
theorem t_rb (h : txK T R J t x n) {f : Int → PR} (hf : gP n f) {o : Int} (hr : runsK T R J t x n L z w (d + 2) 38 [.int (iI o)] f) : runsK T R J t x n L z w (d + 3) 37 [.int (iI o)] (evP x n f) := by
  intro i k V h0 hi hk hki
  have hn := h.2.2.2.1
  have t0 := h.t0
  obtain ⟨k1, V1, hrun1, r1⟩ := hr i k V h0 hi hk hki
  obtain ⟨g1, g2, g3⟩ := hf i h0 hi
  unfold evP
  generalize f i = r at *
  obtain ⟨j, ots⟩ := r
  cases ots with
  | none =>
    refine ⟨k1, V1, ?_, fun ts q => by cases q⟩
    simp only [bnd_nn, bw_n] at hrun1 ⊢
    simp (disch := first | omega | exact hJ _ _ | exact rJ_g hJ _ _ | (simp (disch := omega) only [ur_r, ur_o, up_r, up_o]; omega) | assumption) only [c37, s37_0, s37_0v, s37_1, s37_2, b37_5, s37_8, s37_9, s37_10, s37_11, t0, hrun1, kl_i, kl_r, kl_l, kl_n, kl_z, bd_s, tl_s, tl_n, ap_c, ap_n, v_s, v_n, nd_1, nd_0, ct13, eq_self, iI_add, iI_sub, iI_mul, iI_nat, iI_eq, iI_lt, iI_le, iI_eq0, iI_lt0, ↓reduceIte, if_true, if_false, not_true_eq_false, not_false_eq_true, true_and, and_true, false_and, and_false, true_or, or_true, false_or, or_false, Int.reduceLT, Int.reduceLE, Int.reduceEq, Int.reduceAdd, Int.reduceSub, Int.reduceMul, Nat.reduceAdd, Nat.reduceLT, Nat.reduceEqDiff, Int.reduceNeg, nc_s, nc_0, Int.zero_add, Int.add_zero, oI_r, oI_w, oI_f0, oI_g0, oI_f1, oI_g1, oI_f2, oI_g2, oI_f3, oI_g3, oI_f4, oI_g4, oI_f5, oI_g5, oI_f6, oI_g6, oI_f7, oI_g7, oI_f8, oI_g8, oI_f9, oI_g9, oI_f10, oI_g10, oI_f11, oI_g11, oI_f12, oI_g12, oI_f13, oI_g13, oI_f14, oI_g14, oI_f15, oI_g15, oI_f16, oI_g16, oI_f17, oI_g17, oI_f18, oI_g18, oI_f19, oI_g19, oI_f20, oI_g20, oI_f21, oI_g21, oI_f22, oI_g22, oI_f23, oI_g23, oI_f24, oI_g24, oI_f25, oI_g25, ur_r, ur_o, ur_s, up_r, up_o, up_s, jI_add, jI_sub, jI_mul, jI_neg, jI_i, jI_n, lgc_j, cj_lt, cj_ge, cj_gt, cj_le, cj_eq, oL_r, oL_w, oL_f6, oL_g6, oL_f7, oL_g7, oL_f17, oL_g17, oL_f18, oL_g18, dl_T, dl_F, de_T, de_F, dle_T, dle_F, iI_divn, rem_n, nd_v, ct_s, Bool.false_eq_true]
  | some ts =>
    obtain ⟨rfl, rfl⟩ := r1 ts rfl
    have hl := g3 ts rfl
    simp only [bw_s] at hrun1
    simp only [] at hl g1 g2
    obtain ⟨k2, V2, hrun2, r2⟩ := rb_loop h hf hr 121 0 j (k + (ts.length : Int)) (laV V k (ts.map trC)) (by omega) (by omega) (by omega) g2 (by omega) (by omega)
    refine ⟨k2, V2, ?_, ?_⟩
    · simp only [bnd_some, bnd_bw]
      refine Eq.trans ?_ hrun2
      simp (disch := first | omega | exact hJ _ _ | exact rJ_g hJ _ _ | (simp (disch := omega) only [ur_r, ur_o, up_r, up_o]; omega) | assumption) only [c37, s37_0, s37_0v, s37_1, s37_2, b37_5, s37_8, s37_9, s37_10, s37_11, t0, hrun1, kl_i, kl_r, kl_l, kl_n, kl_z, bd_s, tl_s, tl_n, ap_c, ap_n, v_s, v_n, nd_1, nd_0, ct13, eq_self, iI_add, iI_sub, iI_mul, iI_nat, iI_eq, iI_lt, iI_le, iI_eq0, iI_lt0, ↓reduceIte, if_true, if_false, not_true_eq_false, not_false_eq_true, true_and, and_true, false_and, and_false, true_or, or_true, false_or, or_false, Int.reduceLT, Int.reduceLE, Int.reduceEq, Int.reduceAdd, Int.reduceSub, Int.reduceMul, Nat.reduceAdd, Nat.reduceLT, Nat.reduceEqDiff, Int.reduceNeg, nc_s, nc_0, Int.zero_add, Int.add_zero, oI_r, oI_w, oI_f0, oI_g0, oI_f1, oI_g1, oI_f2, oI_g2, oI_f3, oI_g3, oI_f4, oI_g4, oI_f5, oI_g5, oI_f6, oI_g6, oI_f7, oI_g7, oI_f8, oI_g8, oI_f9, oI_g9, oI_f10, oI_g10, oI_f11, oI_g11, oI_f12, oI_g12, oI_f13, oI_g13, oI_f14, oI_g14, oI_f15, oI_g15, oI_f16, oI_g16, oI_f17, oI_g17, oI_f18, oI_g18, oI_f19, oI_g19, oI_f20, oI_g20, oI_f21, oI_g21, oI_f22, oI_g22, oI_f23, oI_g23, oI_f24, oI_g24, oI_f25, oI_g25, ur_r, ur_o, ur_s, up_r, up_o, up_s, jI_add, jI_sub, jI_mul, jI_neg, jI_i, jI_n, lgc_j, cj_lt, cj_ge, cj_gt, cj_le, cj_eq, oL_r, oL_w, oL_f6, oL_g6, oL_f7, oL_g7, oL_f17, oL_g17, oL_f18, oL_g18, dl_T, dl_F, de_T, de_F, dle_T, dle_F, iI_divn, rem_n, nd_v, ct_s, Bool.false_eq_true]
    · intro us q
      generalize hz : lpP x n 38 (-2) f 121 j = zz at *
      obtain ⟨p, ovs⟩ := zz
      cases ovs with
      | none => rw [bnd_sn hz] at q; cases q
      | some vs =>
        rw [bnd_ss hz] at q
        cases q
        obtain ⟨rfl, rfl⟩ := r2 vs rfl
        refine ⟨?_, ?_⟩
        · rw [List.length_append]; omega
        · rw [List.map_append, laV_a, List.length_map]
theorem re_loop (h : txK T R J t x n) {f : Int → PR} (hf : gP n f) {o : Int} (hr : runsK T R J t x n L z w (d + 2) 37 [.int (iI o)] f) : ∀ (m : Nat) (q i k : Int) (V : Int → Int), (m : Int) + q = 121 → 0 ≤ q → q < i → i ≤ n → 0 ≤ k → k ≤ i → ∃ (k' : Int) (V' : Int → Int), rn_r (d + 3) 36 12 [some (.ref t), some (.int (iI o)), some (.int (iI q))] [] (T, oI (pC J t i k V), L, R, z, w) = some (some (.int (iI (1 - bw (lpP x n 124 (-3) f m i)))), (T, oI (pC J t (lpP x n 124 (-3) f m i).1 k' V'), L, R, z, w)) ∧ ∀ ts, (lpP x n 124 (-3) f m i).2 = some ts → k' = k + (ts.length : Int) ∧ V' = laV V k (ts.map trC) := by
  have hn := h.2.2.2.1
  have t0 := h.t0
  intro m
  induction m with
  | zero => intro q i k V hm h0 hqi hi; exfalso; omega
  | succ m ih =>
    intro q i k V hm hq hqi hi hk hki
    have sk := t_skip (d := d + 1) (L := L) (z := z) (w := w) (k := k) (V := V) h 124 (by omega) (i := i) (by omega)
    by_cases e : atP x n i = 124
    · have hin := atP_n e (by decide)
      rw [if_pos e, if_pos e] at sk
      obtain ⟨k1, V1, hrun1, r1⟩ := hr (i + 1) k V (by omega) (by omega) hk (by omega)
      obtain ⟨g1, g2, g3⟩ := hf (i + 1) (by omega) (by omega)
      have el : lpP x n 124 (-3) f (m + 1) i = bnd (f (i + 1)) (fun j => bnd (j, some [-3]) (lpP x n 124 (-3) f m)) := by simp only [lpP, if_pos e]
      rw [el]
      generalize f (i + 1) = r at *
      obtain ⟨j, ots⟩ := r
      cases ots with
      | none =>
        refine ⟨k1, V1, ?_, fun ts q => by cases q⟩
        simp only [bnd_nn, bw_n] at hrun1 ⊢
        simp (disch := first | omega | exact hJ _ _ | exact rJ_g hJ _ _ | (simp (disch := omega) only [ur_r, ur_o, up_r, up_o]; omega) | assumption) only [s36_12, s36_13, b36_15, s36_18, s36_18v, s36_19, s36_21, b36_24, s36_27, s36_27v, s36_28, s36_29, b36_32, s36_35, s36_35v, s36_36, s36_38, b36_41, s36_44, s36_45, t0, sk, hrun1, kl_i, kl_r, kl_l, kl_n, kl_z, bd_s, tl_s, tl_n, ap_c, ap_n, v_s, v_n, nd_1, nd_0, ct13, eq_self, iI_add, iI_sub, iI_mul, iI_nat, iI_eq, iI_lt, iI_le, iI_eq0, iI_lt0, ↓reduceIte, if_true, if_false, not_true_eq_false, not_false_eq_true, true_and, and_true, false_and, and_false, true_or, or_true, false_or, or_false, Int.reduceLT, Int.reduceLE, Int.reduceEq, Int.reduceAdd, Int.reduceSub, Int.reduceMul, Nat.reduceAdd, Nat.reduceLT, Nat.reduceEqDiff, Int.reduceNeg, nc_s, nc_0, Int.zero_add, Int.add_zero, oI_r, oI_w, oI_f0, oI_g0, oI_f1, oI_g1, oI_f2, oI_g2, oI_f3, oI_g3, oI_f4, oI_g4, oI_f5, oI_g5, oI_f6, oI_g6, oI_f7, oI_g7, oI_f8, oI_g8, oI_f9, oI_g9, oI_f10, oI_g10, oI_f11, oI_g11, oI_f12, oI_g12, oI_f13, oI_g13, oI_f14, oI_g14, oI_f15, oI_g15, oI_f16, oI_g16, oI_f17, oI_g17, oI_f18, oI_g18, oI_f19, oI_g19, oI_f20, oI_g20, oI_f21, oI_g21, oI_f22, oI_g22, oI_f23, oI_g23, oI_f24, oI_g24, oI_f25, oI_g25, ur_r, ur_o, ur_s, up_r, up_o, up_s, jI_add, jI_sub, jI_mul, jI_neg, jI_i, jI_n, lgc_j, cj_lt, cj_ge, cj_gt, cj_le, cj_eq, oL_r, oL_w, oL_f6, oL_g6, oL_f7, oL_g7, oL_f17, oL_g17, oL_f18, oL_g18, dl_T, dl_F, de_T, de_F, dle_T, dle_F, iI_divn, rem_n, nd_v, ct_s, Bool.false_eq_true]
      | some ts =>
        obtain ⟨rfl, rfl⟩ := r1 ts rfl
        have hl := g3 ts rfl
        simp only [bw_s] at hrun1
        simp only [] at hl g1 g2
        have pu := t_put (d := d + 2) (L := L) (z := z) (w := w) (i := j) (k := k + (ts.length : Int)) (V := laV V k (ts.map trC)) h (-3) (by omega)
        obtain ⟨k2, V2, hrun2, r2⟩ := ih (q + 1) j (k + (ts.length : Int) + 1) (up (laV V k (ts.map trC)) (k + (ts.length : Int)) (-3)) (by omega) (by omega) (by omega) g2 (by omega) (by omega)
        refine ⟨k2, V2, ?_, ?_⟩
        · simp only [bnd_some, bnd_bw]
          refine Eq.trans ?_ ((s36_49 ..).trans hrun2)
          simp (disch := first | omega | exact hJ _ _ | exact rJ_g hJ _ _ | (simp (disch := omega) only [ur_r, ur_o, up_r, up_o]; omega) | assumption) only [s36_12, s36_13, b36_15, s36_18, s36_18v, s36_19, s36_21, b36_24, s36_27, s36_27v, s36_28, s36_29, b36_32, s36_35, s36_35v, s36_36, s36_38, b36_41, s36_44, s36_45, s36_46, t0, sk, hrun1, pu, kl_i, kl_r, kl_l, kl_n, kl_z, bd_s, tl_s, tl_n, ap_c, ap_n, v_s, v_n, nd_1, nd_0, ct13, eq_self, iI_add, iI_sub, iI_mul, iI_nat, iI_eq, iI_lt, iI_le, iI_eq0, iI_lt0, ↓reduceIte, if_true, if_false, not_true_eq_false, not_false_eq_true, true_and, and_true, false_and, and_false, true_or, or_true, false_or, or_false, Int.reduceLT, Int.reduceLE, Int.reduceEq, Int.reduceAdd, Int.reduceSub, Int.reduceMul, Nat.reduceAdd, Nat.reduceLT, Nat.reduceEqDiff, Int.reduceNeg, nc_s, nc_0, Int.zero_add, Int.add_zero, oI_r, oI_w, oI_f0, oI_g0, oI_f1, oI_g1, oI_f2, oI_g2, oI_f3, oI_g3, oI_f4, oI_g4, oI_f5, oI_g5, oI_f6, oI_g6, oI_f7, oI_g7, oI_f8, oI_g8, oI_f9, oI_g9, oI_f10, oI_g10, oI_f11, oI_g11, oI_f12, oI_g12, oI_f13, oI_g13, oI_f14, oI_g14, oI_f15, oI_g15, oI_f16, oI_g16, oI_f17, oI_g17, oI_f18, oI_g18, oI_f19, oI_g19, oI_f20, oI_g20, oI_f21, oI_g21, oI_f22, oI_g22, oI_f23, oI_g23, oI_f24, oI_g24, oI_f25, oI_g25, ur_r, ur_o, ur_s, up_r, up_o, up_s, jI_add, jI_sub, jI_mul, jI_neg, jI_i, jI_n, lgc_j, cj_lt, cj_ge, cj_gt, cj_le, cj_eq, oL_r, oL_w, oL_f6, oL_g6, oL_f7, oL_g7, oL_f17, oL_g17, oL_f18, oL_g18, dl_T, dl_F, de_T, de_F, dle_T, dle_F, iI_divn, rem_n, nd_v, ct_s, Bool.false_eq_true]
        · intro us q
          generalize hz : lpP x n 124 (-3) f m j = zz at *
          obtain ⟨p, ovs⟩ := zz
          cases ovs with
          | none => rw [bnd_sn (bnd_sn hz)] at q; cases q
          | some vs =>
            rw [bnd_ss (bnd_ss hz)] at q
            cases q
            obtain ⟨rfl, rfl⟩ := r2 vs rfl
            refine ⟨?_, (laV_j rfl).symm⟩
            rw [List.length_append, List.length_append]
            show _ = k + ((ts.length + (1 + vs.length) : Nat) : Int)
            omega
    · rw [if_neg e, if_neg e] at sk
      refine ⟨k, V, ?_, fun ts q => ?_⟩
      · simp only [lpP, if_neg e, bw_s]
        simp (disch := first | omega | exact hJ _ _ | exact rJ_g hJ _ _ | (simp (disch := omega) only [ur_r, ur_o, up_r, up_o]; omega) | assumption) only [s36_12, s36_13, b36_15, s36_18, s36_18v, s36_19, s36_21, b36_24, s36_52, s36_53, t0, sk, kl_i, kl_r, kl_l, kl_n, kl_z, bd_s, tl_s, tl_n, ap_c, ap_n, v_s, v_n, nd_1, nd_0, ct13, eq_self, iI_add, iI_sub, iI_mul, iI_nat, iI_eq, iI_lt, iI_le, iI_eq0, iI_lt0, ↓reduceIte, if_true, if_false, not_true_eq_false, not_false_eq_true, true_and, and_true, false_and, and_false, true_or, or_true, false_or, or_false, Int.reduceLT, Int.reduceLE, Int.reduceEq, Int.reduceAdd, Int.reduceSub, Int.reduceMul, Nat.reduceAdd, Nat.reduceLT, Nat.reduceEqDiff, Int.reduceNeg, nc_s, nc_0, Int.zero_add, Int.add_zero, oI_r, oI_w, oI_f0, oI_g0, oI_f1, oI_g1, oI_f2, oI_g2, oI_f3, oI_g3, oI_f4, oI_g4, oI_f5, oI_g5, oI_f6, oI_g6, oI_f7, oI_g7, oI_f8, oI_g8, oI_f9, oI_g9, oI_f10, oI_g10, oI_f11, oI_g11, oI_f12, oI_g12, oI_f13, oI_g13, oI_f14, oI_g14, oI_f15, oI_g15, oI_f16, oI_g16, oI_f17, oI_g17, oI_f18, oI_g18, oI_f19, oI_g19, oI_f20, oI_g20, oI_f21, oI_g21, oI_f22, oI_g22, oI_f23, oI_g23, oI_f24, oI_g24, oI_f25, oI_g25, ur_r, ur_o, ur_s, up_r, up_o, up_s, jI_add, jI_sub, jI_mul, jI_neg, jI_i, jI_n, lgc_j, cj_lt, cj_ge, cj_gt, cj_le, cj_eq, oL_r, oL_w, oL_f6, oL_g6, oL_f7, oL_g7, oL_f17, oL_g17, oL_f18, oL_g18, dl_T, dl_F, de_T, de_F, dle_T, dle_F, iI_divn, rem_n, nd_v, ct_s, Bool.false_eq_true]
      · simp only [lpP, if_neg e] at q
        cases q
        exact ⟨(Int.add_zero k).symm, rfl⟩
theorem t_re (h : txK T R J t x n) {f : Int → PR} (hf : gP n f) {o : Int} (hr : runsK T R J t x n L z w (d + 2) 37 [.int (iI o)] f) : runsK T R J t x n L z w (d + 3) 36 [.int (iI o)] (soQ x n f) := by
  intro i k V h0 hi hk hki
  have hn := h.2.2.2.1
  have t0 := h.t0
  obtain ⟨k1, V1, hrun1, r1⟩ := hr i k V h0 hi hk hki
  obtain ⟨g1, g2, g3⟩ := hf i h0 hi
  unfold soQ
  generalize f i = r at *
  obtain ⟨j, ots⟩ := r
  cases ots with
  | none =>
    refine ⟨k1, V1, ?_, fun ts q => by cases q⟩
    simp only [bnd_nn, bw_n] at hrun1 ⊢
    simp (disch := first | omega | exact hJ _ _ | exact rJ_g hJ _ _ | (simp (disch := omega) only [ur_r, ur_o, up_r, up_o]; omega) | assumption) only [c36, s36_0, s36_0v, s36_1, s36_2, b36_5, s36_8, s36_9, s36_10, s36_11, t0, hrun1, kl_i, kl_r, kl_l, kl_n, kl_z, bd_s, tl_s, tl_n, ap_c, ap_n, v_s, v_n, nd_1, nd_0, ct13, eq_self, iI_add, iI_sub, iI_mul, iI_nat, iI_eq, iI_lt, iI_le, iI_eq0, iI_lt0, ↓reduceIte, if_true, if_false, not_true_eq_false, not_false_eq_true, true_and, and_true, false_and, and_false, true_or, or_true, false_or, or_false, Int.reduceLT, Int.reduceLE, Int.reduceEq, Int.reduceAdd, Int.reduceSub, Int.reduceMul, Nat.reduceAdd, Nat.reduceLT, Nat.reduceEqDiff, Int.reduceNeg, nc_s, nc_0, Int.zero_add, Int.add_zero, oI_r, oI_w, oI_f0, oI_g0, oI_f1, oI_g1, oI_f2, oI_g2, oI_f3, oI_g3, oI_f4, oI_g4, oI_f5, oI_g5, oI_f6, oI_g6, oI_f7, oI_g7, oI_f8, oI_g8, oI_f9, oI_g9, oI_f10, oI_g10, oI_f11, oI_g11, oI_f12, oI_g12, oI_f13, oI_g13, oI_f14, oI_g14, oI_f15, oI_g15, oI_f16, oI_g16, oI_f17, oI_g17, oI_f18, oI_g18, oI_f19, oI_g19, oI_f20, oI_g20, oI_f21, oI_g21, oI_f22, oI_g22, oI_f23, oI_g23, oI_f24, oI_g24, oI_f25, oI_g25, ur_r, ur_o, ur_s, up_r, up_o, up_s, jI_add, jI_sub, jI_mul, jI_neg, jI_i, jI_n, lgc_j, cj_lt, cj_ge, cj_gt, cj_le, cj_eq, oL_r, oL_w, oL_f6, oL_g6, oL_f7, oL_g7, oL_f17, oL_g17, oL_f18, oL_g18, dl_T, dl_F, de_T, de_F, dle_T, dle_F, iI_divn, rem_n, nd_v, ct_s, Bool.false_eq_true]
  | some ts =>
    obtain ⟨rfl, rfl⟩ := r1 ts rfl
    have hl := g3 ts rfl
    simp only [bw_s] at hrun1
    simp only [] at hl g1 g2
    obtain ⟨k2, V2, hrun2, r2⟩ := re_loop h hf hr 121 0 j (k + (ts.length : Int)) (laV V k (ts.map trC)) (by omega) (by omega) (by omega) g2 (by omega) (by omega)
    refine ⟨k2, V2, ?_, ?_⟩
    · simp only [bnd_some, bnd_bw]
      refine Eq.trans ?_ hrun2
      simp (disch := first | omega | exact hJ _ _ | exact rJ_g hJ _ _ | (simp (disch := omega) only [ur_r, ur_o, up_r, up_o]; omega) | assumption) only [c36, s36_0, s36_0v, s36_1, s36_2, b36_5, s36_8, s36_9, s36_10, s36_11, t0, hrun1, kl_i, kl_r, kl_l, kl_n, kl_z, bd_s, tl_s, tl_n, ap_c, ap_n, v_s, v_n, nd_1, nd_0, ct13, eq_self, iI_add, iI_sub, iI_mul, iI_nat, iI_eq, iI_lt, iI_le, iI_eq0, iI_lt0, ↓reduceIte, if_true, if_false, not_true_eq_false, not_false_eq_true, true_and, and_true, false_and, and_false, true_or, or_true, false_or, or_false, Int.reduceLT, Int.reduceLE, Int.reduceEq, Int.reduceAdd, Int.reduceSub, Int.reduceMul, Nat.reduceAdd, Nat.reduceLT, Nat.reduceEqDiff, Int.reduceNeg, nc_s, nc_0, Int.zero_add, Int.add_zero, oI_r, oI_w, oI_f0, oI_g0, oI_f1, oI_g1, oI_f2, oI_g2, oI_f3, oI_g3, oI_f4, oI_g4, oI_f5, oI_g5, oI_f6, oI_g6, oI_f7, oI_g7, oI_f8, oI_g8, oI_f9, oI_g9, oI_f10, oI_g10, oI_f11, oI_g11, oI_f12, oI_g12, oI_f13, oI_g13, oI_f14, oI_g14, oI_f15, oI_g15, oI_f16, oI_g16, oI_f17, oI_g17, oI_f18, oI_g18, oI_f19, oI_g19, oI_f20, oI_g20, oI_f21, oI_g21, oI_f22, oI_g22, oI_f23, oI_g23, oI_f24, oI_g24, oI_f25, oI_g25, ur_r, ur_o, ur_s, up_r, up_o, up_s, jI_add, jI_sub, jI_mul, jI_neg, jI_i, jI_n, lgc_j, cj_lt, cj_ge, cj_gt, cj_le, cj_eq, oL_r, oL_w, oL_f6, oL_g6, oL_f7, oL_g7, oL_f17, oL_g17, oL_f18, oL_g18, dl_T, dl_F, de_T, de_F, dle_T, dle_F, iI_divn, rem_n, nd_v, ct_s, Bool.false_eq_true]
    · intro us q
      generalize hz : lpP x n 124 (-3) f 121 j = zz at *
      obtain ⟨p, ovs⟩ := zz
      cases ovs with
      | none => rw [bnd_sn hz] at q; cases q
      | some vs =>
        rw [bnd_ss hz] at q
        cases q
        obtain ⟨rfl, rfl⟩ := r2 vs rfl
        refine ⟨?_, ?_⟩
        · rw [List.length_append]; omega
        · rw [List.map_append, laV_a, List.length_map]
theorem t_single (h : txK T R J t x n) (hs : sK T J) : ∀ (l d : Nat) (o : Int), o = 5 - l → l ≤ 5 → runsK T R J t x n L z w (d + 6 + 3 * l) 38 [.int (iI o)] (faP x n l) := by
  have hn := h.2.2.2.1
  have t0 := h.t0
  intro l
  induction l with
  | zero =>
    intro d o ho _ i k V h0 hi hk hki
    obtain ⟨k1, V1, hrun1, r1⟩ := t_test (d := d) (L := L) (z := z) (w := w) h hs i k V h0 hi hk hki
    rw [faP_0]
    have hb := bw_01 (teP x n i)
    refine ⟨k1, V1, ?_, r1⟩
    have ho5 : o = 5 := by omega
    subst ho5
    simp (disch := first | omega | exact hJ _ _ | exact rJ_g hJ _ _ | (simp (disch := omega) only [ur_r, ur_o, up_r, up_o]; omega) | assumption) only [c38, s38_0, s38_1, b38_2, s38_5, s38_5v, s38_6, s38_8, b38_11, s38_14, s38_14v, s38_15, s38_16, s38_17, s38_18, b38_21, s38_24, s38_24v, s38_25, s38_26, b38_29, s38_32, s38_33, s38_36, s38_37, s38_38, s38_39, b38_40, s38_43, s38_43v, s38_44, s38_46, b38_49, s38_52, s38_52v, s38_53, s38_54, s38_55, s38_56, b38_59, s38_62, s38_62v, s38_63, s38_65, b38_68, s38_71, s38_72, s38_75, s38_76, s38_77, s38_77v, s38_78, s38_81, Nat.mul_zero, Nat.add_zero, t0, hrun1, kl_i, kl_r, kl_l, kl_n, kl_z, bd_s, tl_s, tl_n, ap_c, ap_n, v_s, v_n, nd_1, nd_0, ct13, eq_self, iI_add, iI_sub, iI_mul, iI_nat, iI_eq, iI_lt, iI_le, iI_eq0, iI_lt0, ↓reduceIte, if_true, if_false, not_true_eq_false, not_false_eq_true, true_and, and_true, false_and, and_false, true_or, or_true, false_or, or_false, Int.reduceLT, Int.reduceLE, Int.reduceEq, Int.reduceAdd, Int.reduceSub, Int.reduceMul, Nat.reduceAdd, Nat.reduceLT, Nat.reduceEqDiff, Int.reduceNeg, nc_s, nc_0, Int.zero_add, Int.add_zero, oI_r, oI_w, oI_f0, oI_g0, oI_f1, oI_g1, oI_f2, oI_g2, oI_f3, oI_g3, oI_f4, oI_g4, oI_f5, oI_g5, oI_f6, oI_g6, oI_f7, oI_g7, oI_f8, oI_g8, oI_f9, oI_g9, oI_f10, oI_g10, oI_f11, oI_g11, oI_f12, oI_g12, oI_f13, oI_g13, oI_f14, oI_g14, oI_f15, oI_g15, oI_f16, oI_g16, oI_f17, oI_g17, oI_f18, oI_g18, oI_f19, oI_g19, oI_f20, oI_g20, oI_f21, oI_g21, oI_f22, oI_g22, oI_f23, oI_g23, oI_f24, oI_g24, oI_f25, oI_g25, ur_r, ur_o, ur_s, up_r, up_o, up_s, jI_add, jI_sub, jI_mul, jI_neg, jI_i, jI_n, lgc_j, cj_lt, cj_ge, cj_gt, cj_le, cj_eq, oL_r, oL_w, oL_f6, oL_g6, oL_f7, oL_g7, oL_f17, oL_g17, oL_f18, oL_g18, dl_T, dl_F, de_T, de_F, dle_T, dle_F, iI_divn, rem_n, nd_v, ct_s, Bool.false_eq_true]
  | succ l ih =>
    intro d o ho hl5 i k V h0 hi hk hki
    have eD : d + 6 + 3 * (l + 1) = (d + 3 * l) + 9 := by omega
    rw [eD]
    have hS : runsK T R J t x n L z w ((d + 3 * l) + 8) 38 [.int (iI (o + 1))] (faP x n l) := by
      have := ih (d + 2) (o + 1) (by omega) (by omega)
      rwa [show d + 2 + 6 + 3 * l = (d + 3 * l) + 8 by omega] at this
    have hE : runsK T R J t x n L z w ((d + 3 * l) + 8) 36 [.int (iI (o + 1))] (soP x n (faP x n l)) := by
      have h6 := ih d (o + 1) (by omega) (by omega)
      rw [show d + 6 + 3 * l = (d + 3 * l + 4) + 2 by omega] at h6
      exact t_re (d := d + 3 * l + 5) h (evP_g (faP_g x n l)) (t_rb (d := d + 3 * l + 4) h (faP_g x n l) h6)
    have sk1 := t_skip (d := d + 3 * l + 7) (L := L) (z := z) (w := w) (k := k) (V := V) h 33 (by omega) (i := i) (by omega)
    have sk2 := t_skip (d := d + 3 * l + 7) (L := L) (z := z) (w := w) (k := k) (V := V) h 40 (by omega) (i := i) (by omega)
    simp only [faP]
    by_cases e1 : atP x n i = 33
    · have hin := atP_n e1 (by decide)
      rw [if_pos e1, if_pos e1] at sk1
      rw [if_pos e1]
      obtain ⟨k1, V1, hrun1, r1⟩ := hS (i + 1) k V (by omega) (by omega) hk (by omega)
      obtain ⟨g1, g2, g3⟩ := faP_g x n l (i + 1) (by omega) (by omega)
      generalize faP x n l (i + 1) = r at *
      obtain ⟨j, ots⟩ := r
      cases ots with
      | none =>
        refine ⟨k1, V1, ?_, fun ts q => by cases q⟩
        simp only [bnd_nn, bw_n] at hrun1 ⊢
        simp (disch := first | omega | exact hJ _ _ | exact rJ_g hJ _ _ | (simp (disch := omega) only [ur_r, ur_o, up_r, up_o]; omega) | assumption) only [c38, s38_0, s38_1, b38_2, s38_5, s38_5v, s38_6, s38_8, b38_11, s38_14, s38_14v, s38_15, s38_16, s38_17, s38_18, b38_21, s38_24, s38_24v, s38_25, s38_26, b38_29, s38_32, s38_33, s38_36, s38_37, t0, sk1, hrun1, kl_i, kl_r, kl_l, kl_n, kl_z, bd_s, tl_s, tl_n, ap_c, ap_n, v_s, v_n, nd_1, nd_0, ct13, eq_self, iI_add, iI_sub, iI_mul, iI_nat, iI_eq, iI_lt, iI_le, iI_eq0, iI_lt0, ↓reduceIte, if_true, if_false, not_true_eq_false, not_false_eq_true, true_and, and_true, false_and, and_false, true_or, or_true, false_or, or_false, Int.reduceLT, Int.reduceLE, Int.reduceEq, Int.reduceAdd, Int.reduceSub, Int.reduceMul, Nat.reduceAdd, Nat.reduceLT, Nat.reduceEqDiff, Int.reduceNeg, nc_s, nc_0, Int.zero_add, Int.add_zero, oI_r, oI_w, oI_f0, oI_g0, oI_f1, oI_g1, oI_f2, oI_g2, oI_f3, oI_g3, oI_f4, oI_g4, oI_f5, oI_g5, oI_f6, oI_g6, oI_f7, oI_g7, oI_f8, oI_g8, oI_f9, oI_g9, oI_f10, oI_g10, oI_f11, oI_g11, oI_f12, oI_g12, oI_f13, oI_g13, oI_f14, oI_g14, oI_f15, oI_g15, oI_f16, oI_g16, oI_f17, oI_g17, oI_f18, oI_g18, oI_f19, oI_g19, oI_f20, oI_g20, oI_f21, oI_g21, oI_f22, oI_g22, oI_f23, oI_g23, oI_f24, oI_g24, oI_f25, oI_g25, ur_r, ur_o, ur_s, up_r, up_o, up_s, jI_add, jI_sub, jI_mul, jI_neg, jI_i, jI_n, lgc_j, cj_lt, cj_ge, cj_gt, cj_le, cj_eq, oL_r, oL_w, oL_f6, oL_g6, oL_f7, oL_g7, oL_f17, oL_g17, oL_f18, oL_g18, dl_T, dl_F, de_T, de_F, dle_T, dle_F, iI_divn, rem_n, nd_v, ct_s, Bool.false_eq_true]
      | some ts =>
        obtain ⟨rfl, rfl⟩ := r1 ts rfl
        have hl := g3 ts rfl
        simp only [bw_s] at hrun1
        simp only [] at hl g1 g2
        have pu := t_put (d := d + 3 * l + 8) (L := L) (z := z) (w := w) (i := j) (k := k + (ts.length : Int)) (V := laV V k (ts.map trC)) h (-1) (by omega)
        refine ⟨k + (ts.length : Int) + 1, up (laV V k (ts.map trC)) (k + (ts.length : Int)) (-1), ?_, ?_⟩
        · simp only [bnd_some, bnd_bw, bw_s]
          simp (disch := first | omega | exact hJ _ _ | exact rJ_g hJ _ _ | (simp (disch := omega) only [ur_r, ur_o, up_r, up_o]; omega) | assumption) only [c38, s38_0, s38_1, b38_2, s38_5, s38_5v, s38_6, s38_8, b38_11, s38_14, s38_14v, s38_15, s38_16, s38_17, s38_18, b38_21, s38_24, s38_24v, s38_25, s38_26, b38_29, s38_32, s38_33, s38_36, s38_37, t0, sk1, hrun1, pu, kl_i, kl_r, kl_l, kl_n, kl_z, bd_s, tl_s, tl_n, ap_c, ap_n, v_s, v_n, nd_1, nd_0, ct13, eq_self, iI_add, iI_sub, iI_mul, iI_nat, iI_eq, iI_lt, iI_le, iI_eq0, iI_lt0, ↓reduceIte, if_true, if_false, not_true_eq_false, not_false_eq_true, true_and, and_true, false_and, and_false, true_or, or_true, false_or, or_false, Int.reduceLT, Int.reduceLE, Int.reduceEq, Int.reduceAdd, Int.reduceSub, Int.reduceMul, Nat.reduceAdd, Nat.reduceLT, Nat.reduceEqDiff, Int.reduceNeg, nc_s, nc_0, Int.zero_add, Int.add_zero, oI_r, oI_w, oI_f0, oI_g0, oI_f1, oI_g1, oI_f2, oI_g2, oI_f3, oI_g3, oI_f4, oI_g4, oI_f5, oI_g5, oI_f6, oI_g6, oI_f7, oI_g7, oI_f8, oI_g8, oI_f9, oI_g9, oI_f10, oI_g10, oI_f11, oI_g11, oI_f12, oI_g12, oI_f13, oI_g13, oI_f14, oI_g14, oI_f15, oI_g15, oI_f16, oI_g16, oI_f17, oI_g17, oI_f18, oI_g18, oI_f19, oI_g19, oI_f20, oI_g20, oI_f21, oI_g21, oI_f22, oI_g22, oI_f23, oI_g23, oI_f24, oI_g24, oI_f25, oI_g25, ur_r, ur_o, ur_s, up_r, up_o, up_s, jI_add, jI_sub, jI_mul, jI_neg, jI_i, jI_n, lgc_j, cj_lt, cj_ge, cj_gt, cj_le, cj_eq, oL_r, oL_w, oL_f6, oL_g6, oL_f7, oL_g7, oL_f17, oL_g17, oL_f18, oL_g18, dl_T, dl_F, de_T, de_F, dle_T, dle_F, iI_divn, rem_n, nd_v, ct_s, Bool.false_eq_true]
        · intro us q
          have q2 : bnd (j, some ts) (fun j => (j, some [-1])) = (j, some (ts ++ [-1])) := bnd_ss rfl
          rw [q2] at q
          cases q
          refine ⟨?_, ?_⟩
          · rw [List.length_append]; simp only [List.length_cons, List.length_nil]; omega
          · have := laV_j (V := V) (k := k) (ts := ts) (us := []) (tok := -1) rfl
            rw [List.append_nil] at this
            exact this.symm
    rw [if_neg e1, if_neg e1] at sk1
    rw [if_neg e1]
    by_cases e2 : atP x n i = 40
    · have hin := atP_n e2 (by decide)
      rw [if_pos e2, if_pos e2] at sk2
      rw [if_pos e2]
      obtain ⟨k1, V1, hrun1, r1⟩ := hE (i + 1) k V (by omega) (by omega) hk (by omega)
      obtain ⟨g1, g2, g3⟩ := soP_g (faP_g x n l) (i + 1) (by omega) (by omega)
      generalize soP x n (faP x n l) (i + 1) = r at *
      obtain ⟨j, ots⟩ := r
      cases ots with
      | none =>
        refine ⟨k1, V1, ?_, fun ts q => by cases q⟩
        simp only [bnd_nn, bw_n] at hrun1 ⊢
        simp (disch := first | omega | exact hJ _ _ | exact rJ_g hJ _ _ | (simp (disch := omega) only [ur_r, ur_o, up_r, up_o]; omega) | assumption) only [c38, s38_0, s38_1, b38_2, s38_5, s38_5v, s38_6, s38_8, b38_11, s38_38, s38_39, b38_40, s38_43, s38_43v, s38_44, s38_46, b38_49, s38_52, s38_52v, s38_53, s38_54, s38_55, s38_56, b38_59, s38_62, s38_62v, s38_63, s38_65, b38_68, s38_71, s38_72, s38_75, s38_76, t0, sk1, sk2, hrun1, kl_i, kl_r, kl_l, kl_n, kl_z, bd_s, tl_s, tl_n, ap_c, ap_n, v_s, v_n, nd_1, nd_0, ct13, eq_self, iI_add, iI_sub, iI_mul, iI_nat, iI_eq, iI_lt, iI_le, iI_eq0, iI_lt0, ↓reduceIte, if_true, if_false, not_true_eq_false, not_false_eq_true, true_and, and_true, false_and, and_false, true_or, or_true, false_or, or_false, Int.reduceLT, Int.reduceLE, Int.reduceEq, Int.reduceAdd, Int.reduceSub, Int.reduceMul, Nat.reduceAdd, Nat.reduceLT, Nat.reduceEqDiff, Int.reduceNeg, nc_s, nc_0, Int.zero_add, Int.add_zero, oI_r, oI_w, oI_f0, oI_g0, oI_f1, oI_g1, oI_f2, oI_g2, oI_f3, oI_g3, oI_f4, oI_g4, oI_f5, oI_g5, oI_f6, oI_g6, oI_f7, oI_g7, oI_f8, oI_g8, oI_f9, oI_g9, oI_f10, oI_g10, oI_f11, oI_g11, oI_f12, oI_g12, oI_f13, oI_g13, oI_f14, oI_g14, oI_f15, oI_g15, oI_f16, oI_g16, oI_f17, oI_g17, oI_f18, oI_g18, oI_f19, oI_g19, oI_f20, oI_g20, oI_f21, oI_g21, oI_f22, oI_g22, oI_f23, oI_g23, oI_f24, oI_g24, oI_f25, oI_g25, ur_r, ur_o, ur_s, up_r, up_o, up_s, jI_add, jI_sub, jI_mul, jI_neg, jI_i, jI_n, lgc_j, cj_lt, cj_ge, cj_gt, cj_le, cj_eq, oL_r, oL_w, oL_f6, oL_g6, oL_f7, oL_g7, oL_f17, oL_g17, oL_f18, oL_g18, dl_T, dl_F, de_T, de_F, dle_T, dle_F, iI_divn, rem_n, nd_v, ct_s, Bool.false_eq_true]
      | some ts =>
        obtain ⟨rfl, rfl⟩ := r1 ts rfl
        have hl := g3 ts rfl
        simp only [bw_s] at hrun1
        simp only [] at hl g1 g2
        have sk3 := t_skip (d := d + 3 * l + 7) (L := L) (z := z) (w := w) (k := k + (ts.length : Int)) (V := laV V k (ts.map trC)) h 41 (by omega) (i := j) (by omega)
        refine ⟨k + (ts.length : Int), laV V k (ts.map trC), ?_, ?_⟩
        · simp only [bnd_some, bnd_bw]
          by_cases e3 : atP x n j = 41
          · rw [if_pos e3, if_pos e3] at sk3
            rw [if_pos e3, bw_s]
            simp (disch := first | omega | exact hJ _ _ | exact rJ_g hJ _ _ | (simp (disch := omega) only [ur_r, ur_o, up_r, up_o]; omega) | assumption) only [c38, s38_0, s38_1, b38_2, s38_5, s38_5v, s38_6, s38_8, b38_11, s38_38, s38_39, b38_40, s38_43, s38_43v, s38_44, s38_46, b38_49, s38_52, s38_52v, s38_53, s38_54, s38_55, s38_56, b38_59, s38_62, s38_62v, s38_63, s38_65, b38_68, s38_71, s38_72, s38_75, s38_76, t0, sk1, sk2, hrun1, sk3, kl_i, kl_r, kl_l, kl_n, kl_z, bd_s, tl_s, tl_n, ap_c, ap_n, v_s, v_n, nd_1, nd_0, ct13, eq_self, iI_add, iI_sub, iI_mul, iI_nat, iI_eq, iI_lt, iI_le, iI_eq0, iI_lt0, ↓reduceIte, if_true, if_false, not_true_eq_false, not_false_eq_true, true_and, and_true, false_and, and_false, true_or, or_true, false_or, or_false, Int.reduceLT, Int.reduceLE, Int.reduceEq, Int.reduceAdd, Int.reduceSub, Int.reduceMul, Nat.reduceAdd, Nat.reduceLT, Nat.reduceEqDiff, Int.reduceNeg, nc_s, nc_0, Int.zero_add, Int.add_zero, oI_r, oI_w, oI_f0, oI_g0, oI_f1, oI_g1, oI_f2, oI_g2, oI_f3, oI_g3, oI_f4, oI_g4, oI_f5, oI_g5, oI_f6, oI_g6, oI_f7, oI_g7, oI_f8, oI_g8, oI_f9, oI_g9, oI_f10, oI_g10, oI_f11, oI_g11, oI_f12, oI_g12, oI_f13, oI_g13, oI_f14, oI_g14, oI_f15, oI_g15, oI_f16, oI_g16, oI_f17, oI_g17, oI_f18, oI_g18, oI_f19, oI_g19, oI_f20, oI_g20, oI_f21, oI_g21, oI_f22, oI_g22, oI_f23, oI_g23, oI_f24, oI_g24, oI_f25, oI_g25, ur_r, ur_o, ur_s, up_r, up_o, up_s, jI_add, jI_sub, jI_mul, jI_neg, jI_i, jI_n, lgc_j, cj_lt, cj_ge, cj_gt, cj_le, cj_eq, oL_r, oL_w, oL_f6, oL_g6, oL_f7, oL_g7, oL_f17, oL_g17, oL_f18, oL_g18, dl_T, dl_F, de_T, de_F, dle_T, dle_F, iI_divn, rem_n, nd_v, ct_s, Bool.false_eq_true]
          · rw [if_neg e3, if_neg e3] at sk3
            rw [if_neg e3, bw_n]
            simp (disch := first | omega | exact hJ _ _ | exact rJ_g hJ _ _ | (simp (disch := omega) only [ur_r, ur_o, up_r, up_o]; omega) | assumption) only [c38, s38_0, s38_1, b38_2, s38_5, s38_5v, s38_6, s38_8, b38_11, s38_38, s38_39, b38_40, s38_43, s38_43v, s38_44, s38_46, b38_49, s38_52, s38_52v, s38_53, s38_54, s38_55, s38_56, b38_59, s38_62, s38_62v, s38_63, s38_65, b38_68, s38_71, s38_72, s38_75, s38_76, t0, sk1, sk2, hrun1, sk3, kl_i, kl_r, kl_l, kl_n, kl_z, bd_s, tl_s, tl_n, ap_c, ap_n, v_s, v_n, nd_1, nd_0, ct13, eq_self, iI_add, iI_sub, iI_mul, iI_nat, iI_eq, iI_lt, iI_le, iI_eq0, iI_lt0, ↓reduceIte, if_true, if_false, not_true_eq_false, not_false_eq_true, true_and, and_true, false_and, and_false, true_or, or_true, false_or, or_false, Int.reduceLT, Int.reduceLE, Int.reduceEq, Int.reduceAdd, Int.reduceSub, Int.reduceMul, Nat.reduceAdd, Nat.reduceLT, Nat.reduceEqDiff, Int.reduceNeg, nc_s, nc_0, Int.zero_add, Int.add_zero, oI_r, oI_w, oI_f0, oI_g0, oI_f1, oI_g1, oI_f2, oI_g2, oI_f3, oI_g3, oI_f4, oI_g4, oI_f5, oI_g5, oI_f6, oI_g6, oI_f7, oI_g7, oI_f8, oI_g8, oI_f9, oI_g9, oI_f10, oI_g10, oI_f11, oI_g11, oI_f12, oI_g12, oI_f13, oI_g13, oI_f14, oI_g14, oI_f15, oI_g15, oI_f16, oI_g16, oI_f17, oI_g17, oI_f18, oI_g18, oI_f19, oI_g19, oI_f20, oI_g20, oI_f21, oI_g21, oI_f22, oI_g22, oI_f23, oI_g23, oI_f24, oI_g24, oI_f25, oI_g25, ur_r, ur_o, ur_s, up_r, up_o, up_s, jI_add, jI_sub, jI_mul, jI_neg, jI_i, jI_n, lgc_j, cj_lt, cj_ge, cj_gt, cj_le, cj_eq, oL_r, oL_w, oL_f6, oL_g6, oL_f7, oL_g7, oL_f17, oL_g17, oL_f18, oL_g18, dl_T, dl_F, de_T, de_F, dle_T, dle_F, iI_divn, rem_n, nd_v, ct_s, Bool.false_eq_true]
        · intro us q
          by_cases e3 : atP x n j = 41
          · have q2 : bnd (j, some ts) (fun j => if atP x n j = 41 then (j + 1, some []) else (j, none)) = (j + 1, some (ts ++ [])) := bnd_ss (if_pos e3)
            rw [q2] at q
            cases q
            rw [List.append_nil]
            exact ⟨rfl, rfl⟩
          · have q2 : bnd (j, some ts) (fun j => if atP x n j = 41 then (j + 1, some []) else (j, none)) = (j, none) := bnd_sn (if_neg e3)
            rw [q2] at q
            cases q
    · rw [if_neg e2, if_neg e2] at sk2
      rw [if_neg e2]
      obtain ⟨k1, V1, hrun1, r1⟩ := t_test (d := d + 3 * l + 3) (L := L) (z := z) (w := w) h hs i k V h0 hi hk hki
      refine ⟨k1, V1, ?_, r1⟩
      have hb := bw_01 (teP x n i)
      simp (disch := first | omega | exact hJ _ _ | exact rJ_g hJ _ _ | (simp (disch := omega) only [ur_r, ur_o, up_r, up_o]; omega) | assumption) only [c38, s38_0, s38_1, b38_2, s38_5, s38_5v, s38_6, s38_8, b38_11, s38_38, s38_39, b38_40, s38_43, s38_43v, s38_44, s38_46, b38_49, s38_77, s38_77v, s38_78, s38_81, t0, sk1, sk2, hrun1, kl_i, kl_r, kl_l, kl_n, kl_z, bd_s, tl_s, tl_n, ap_c, ap_n, v_s, v_n, nd_1, nd_0, ct13, eq_self, iI_add, iI_sub, iI_mul, iI_nat, iI_eq, iI_lt, iI_le, iI_eq0, iI_lt0, ↓reduceIte, if_true, if_false, not_true_eq_false, not_false_eq_true, true_and, and_true, false_and, and_false, true_or, or_true, false_or, or_false, Int.reduceLT, Int.reduceLE, Int.reduceEq, Int.reduceAdd, Int.reduceSub, Int.reduceMul, Nat.reduceAdd, Nat.reduceLT, Nat.reduceEqDiff, Int.reduceNeg, nc_s, nc_0, Int.zero_add, Int.add_zero, oI_r, oI_w, oI_f0, oI_g0, oI_f1, oI_g1, oI_f2, oI_g2, oI_f3, oI_g3, oI_f4, oI_g4, oI_f5, oI_g5, oI_f6, oI_g6, oI_f7, oI_g7, oI_f8, oI_g8, oI_f9, oI_g9, oI_f10, oI_g10, oI_f11, oI_g11, oI_f12, oI_g12, oI_f13, oI_g13, oI_f14, oI_g14, oI_f15, oI_g15, oI_f16, oI_g16, oI_f17, oI_g17, oI_f18, oI_g18, oI_f19, oI_g19, oI_f20, oI_g20, oI_f21, oI_g21, oI_f22, oI_g22, oI_f23, oI_g23, oI_f24, oI_g24, oI_f25, oI_g25, ur_r, ur_o, ur_s, up_r, up_o, up_s, jI_add, jI_sub, jI_mul, jI_neg, jI_i, jI_n, lgc_j, cj_lt, cj_ge, cj_gt, cj_le, cj_eq, oL_r, oL_w, oL_f6, oL_g6, oL_f7, oL_g7, oL_f17, oL_g17, oL_f18, oL_g18, dl_T, dl_F, de_T, de_F, dle_T, dle_F, iI_divn, rem_n, nd_v, ct_s, Bool.false_eq_true]
/-- an E -/
theorem t_E (h : txK T R J t x n) (hs : sK T J) : runsK T R J t x n L z w (d + 23) 36 [.int (iI 0)] (soP x n (faP x n 5)) := by
  have h6 := t_single (L := L) (z := z) (w := w) h hs 5 d 0 (by omega) (by omega)
  exact t_re (d := d + 20) h (evP_g (faP_g x n 5)) (t_rb (d := d + 19) h (faP_g x n 5) h6)
end TB
