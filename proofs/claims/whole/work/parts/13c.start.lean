/-! the law: its start, its loop -/
section WA
variable {d : Nat} {T T0 : Nat → Nat × Nat} {L : Nat → Nat → Int64} {R R0 : Nat → Nat → Option Nat} {z w N : Nat} {J : mR} {xs : Nat → Int32}
/-- all numbers as the law finds them -/
def jS (xs : Nat → Int32) : mR := fun b j => (am_I0 xs b j.toNat).toInt
theorem jS_o : am_I0 xs = oI (jS xs) := by
  funext b j
  unfold oI jS
  rw [Int.toNat_natCast]
  exact iI_self _
theorem jS_z {b : Nat} (hb : 45 ≤ b) : jS xs b = z0 := by
  funext j
  unfold jS am_I0
  rw [if_neg (by omega), if_neg (by omega)]
  rfl
theorem jS_r : rg (jS xs) := fun b j => iI_rng _
theorem str_ok : ∀ i : Nat, i < 15 → (am_str i).2.2.2.2.length = (sl i).length ∧ ∀ k : Nat, k < (sl i).length → ((am_str i).2.2.2.2.getD k 0).toInt = (sl i).getD k 0 := by decide +kernel
theorem sx_z : rainS [] = fun _ _ => 0 := by funext h s; rfl
theorem nS0_o {j : Int} (h : ¬ j = 20) (h1 : ¬ (174 ≤ j ∧ j < 180)) : nS0 j = 0 := by
  unfold nS0
  rw [up_o (by omega), up_o (by omega), up_o (by omega), up_o (by omega), up_o (by omega), up_o (by omega), up_o h]
theorem nS0_s {j : Int} (h1 : 174 ≤ j ∧ j < 180) : nS0 j = 1 := by
  have : j = 174 ∨ j = 175 ∨ j = 176 ∨ j = 177 ∨ j = 178 ∨ j = 179 := by omega
  unfold nS0
  rcases this with rfl | rfl | rfl | rfl | rfl | rfl <;> simp (disch := omega) only [up_r, up_o]
theorem nS0_20 : nS0 20 = -1 := by unfold nS0; simp (disch := omega) only [up_r, up_o]
theorem oS_0 : oS nS0 := by
  refine ⟨fun p hp => ?_, fun j hj => ?_, ?_, ?_, ?_⟩
  · rw [nS0_o (j := 162 + p) (by omega) (by omega), nS0_o (j := 168 + p) (by omega) (by omega), nS0_o (j := 4 + p) (by omega) (by omega), nS0_s (j := 174 + p) (by omega), nS0_o (j := 150 + p) (by omega) (by omega), nS0_o (j := 156 + p) (by omega) (by omega)]; omega
  · rw [nS0_o (by omega) (by omega)]; omega
  · rw [nS0_o (by omega) (by omega)]; omega
  · rw [nS0_o (by omega) (by omega)]; omega
  · rw [nS0_o (by omega) (by omega)]; omega
theorem tl_0 (a b : Int) : tlS nS0 a b = b := by unfold tlS; rw [nS0_20, if_pos rfl]
theorem oR_0 : oR (tokL []) nS0 := ⟨oS_0, Or.inl ⟨nS0_20, rfl⟩, trivial, ⟨by rw [nS0_20]; omega, by rw [tl_0]; omega, by rw [tl_0]; omega, by rw [tl_0]; omega⟩, ⟨by rw [nS0_o (by omega) (by omega)]; omega, by rw [nS0_o (by omega) (by omega)]; omega, by rw [nS0_o (by omega) (by omega)]; omega⟩, by rw [nS0_o (by omega) (by omega)]; omega⟩
theorem oW_0 : oW nS0 := by
  unfold oW
  rw [nS0_o (j := 15) (by omega) (by omega), nS0_o (j := 16) (by omega) (by omega), nS0_o (j := 17) (by omega) (by omega), nS0_o (j := 18) (by omega) (by omega), nS0_o (j := 19) (by omega) (by omega), nS0_20]
  exact ⟨by omega, by omega, by omega, by omega, fun k k0 k1 => by omega, fun k k0 k1 => by omega, fun k k0 k1 => by omega, by omega, fun p p0 p1 => by omega⟩
/-- both new objects -/
def nJ (xs : Nat → Int32) : mR := ur (cJ1 (jS xs)) 194 nS0
theorem nJ_o {b : Nat} (h1 : ¬ b = 100) (h2 : ¬ b = 108) (h3 : ¬ b = 126) (h4 : ¬ b = 194) : nJ xs b = jS xs b := by
  unfold nJ cJ1; rw [ur_o h4, ur_o h3, ur_o h2, ur_o h1]
theorem nJ_z {b : Nat} (h0 : 45 ≤ b) (h1 : ¬ b = 100) (h2 : ¬ b = 108) (h3 : ¬ b = 126) (h4 : ¬ b = 194) : nJ xs b = z0 := (nJ_o h1 h2 h3 h4).trans (jS_z h0)
theorem z0_e (j : Int) : z0 j = 0 := rfl
theorem z0_r : ∀ j, i32 (z0 j) := fun j => by rw [z0_e]; omega
theorem fit_0 : fits .byte (.int (iI 0)) = true := by decide
theorem inV_r : ∀ j, i32 (inV z0 j) := by
  unfold inV
  exact up_rng (up_rng (up_rng (up_rng (up_rng (up_rng (up_rng z0_r (by omega)) (by omega)) (by omega)) (by omega)) (by omega)) (by omega)) (by omega)
theorem nS0_r : ∀ j, i32 (nS0 j) := by
  unfold nS0
  exact up_rng (up_rng (up_rng (up_rng (up_rng (up_rng (up_rng z0_r (by omega)) (by omega)) (by omega)) (by omega)) (by omega)) (by omega)) (by omega)
theorem nJ_rg : rg (nJ xs) := by
  unfold nJ cJ1
  exact rg_up (rg_up (rg_up (rg_up jS_r (up_rng z0_r (by omega))) inV_r) inV_r) nS0_r
theorem cl_start (hL : N ≤ 2048) : ∃ (T' : Nat → Nat × Nat) (R' : Nat → Nat → Option Nat) (L' : Nat → Nat → Int64), rn_r (d + 101) 194 0 [some (.ref 0), none, none, none] [] (am_M0 N xs) = rn_r (d + 101) 194 18 [some (.ref 0), some (.ref 100), some (.ref 193), some (.int (iI 0))] [] (T', oI (nJ xs), L', R', 205, 3383) ∧ clR T' R' (nJ xs) 205 ∧ T' 0 = (30, N) := by
  have t0 : ∀ b, 45 ≤ b → am_T0 N b = (0, 0) := fun b hb => by unfold am_T0; rw [if_neg (by omega), if_neg (by omega), if_neg (by omega)]
  obtain ⟨T1, R1, L1, run1, hM, htc, h4, h6, h24, hf, hR1⟩ := c_init (d := d + 95) (T := am_tu (am_T0 N) 100 (12, 0)) (J := jS xs) (L := fun _ _ => 0) (R := fun _ _ => none) (w := 9) tu_r (fun b hb => jS_z (by omega)) (fun _ _ _ => rfl)
  obtain ⟨T2, hT2⟩ : ∃ T2, T2 = nT1 (am_tu T1 193 (13, 0)) := ⟨_, rfl⟩
  obtain ⟨R2, hR2⟩ : ∃ R2, R2 = nR1 R1 := ⟨_, rfl⟩
  have run2 := n_init (d := d + 95) (T := am_tu T1 193 (13, 0)) (J := cJ1 (jS xs)) (L := L1) (R := R1) (w := 1223) tu_r (by unfold cJ1; rw [ur_o (by omega), ur_o (by omega), ur_o (by omega)]; exact jS_z (by omega))
  rw [← hT2, ← hR2] at run2
  have to : ∀ b, ¬ (193 ≤ b ∧ b ≤ 204) → T2 b = T1 b := by
    intro b hb
    rw [hT2]; unfold nT1
    rw [tu_o (by omega), tu_o (by omega), tu_o (by omega), tu_o (by omega), tu_o (by omega), tu_o (by omega), tu_o (by omega), tu_o (by omega), tu_o (by omega), tu_o (by omega), tu_o (by omega), tu_o (by omega)]
  have ro : ∀ b j, ¬ b = 193 → R2 b j = R1 b j := by
    intro b j hb
    rw [hR2]; unfold nR1
    rw [am_u_o (by omega), am_u_o (by omega), am_u_o (by omega), am_u_o (by omega), am_u_o (by omega), am_u_o (by omega), am_u_o (by omega), am_u_o (by omega), am_u_o (by omega), am_u_o (by omega), am_u_o (by omega)]
  have t1 : ∀ b, 193 ≤ b → T1 b = (0, 0) := fun b hb => by rw [hf b (by omega), tu_o (by omega)]; exact t0 b (by omega)
  have tlo : ∀ b, b < 100 → T2 b = am_T0 N b := fun b hb => by rw [to b (by omega), hf b (by omega), tu_o (by omega)]
  have tE2 : tE T1 T2 := by
    intro b hb
    refine to b (fun q => hb ?_)
    rw [t1 b q.1]
  have hE2 : rE T1 R1 R2 := by
    intro b j hb _ _ _ _
    refine ro b j (fun q => hb ?_)
    rw [t1 b (by omega)]
  have hM2 := cM_x hM tE2 hE2
  have hr2 : rM T2 R2 := by
    rw [hT2, hR2]
    unfold rM nT1 nR1
    refine ⟨?_, ?_, ?_, ?_, ?_, ?_, ?_, ?_, ?_, ?_, ?_, ?_, ?_, ?_, ?_, ?_, ?_, ?_, ?_, ?_, ?_, ?_, ?_⟩
    all_goals simp (disch := omega) only [tu_r, tu_o, am_u_r, am_u_o]
  refine ⟨T2, R2, L1, ?_, ⟨hM2, hr2, ⟨fun i hi => ?_, fun i k hi hk => ?_⟩, ⟨nJ_rg, fun j => ?_⟩, by omega, fun b hb => ?_, fun b hb j => ?_, ⟨108, [], ⟨⟨⟨?_, ?_, ?_, ?_, ?_, ?_, ?_⟩, ?_, ?_, ?_, ?_, ?_, ?_⟩, ⟨?_, ?_, ?_, ?_, ?_⟩, ?_⟩, ⟨⟨?_, ?_, ?_, ?_⟩, ?_, ?_, ?_, ?_⟩, ?_, ?_⟩, fun k x _ hx => ?_, fun k x _ hx => ?_, ⟨?_, ?_⟩, fun hq => ?_, ⟨?_, ?_, fun j _ _ => ?_⟩⟩, ?_⟩
  · have e0 : am_M0 N xs = (am_T0 N, oI (jS xs), (fun _ _ => 0), (fun _ _ => none), 100, 0) := by
      show (am_T0 N, am_I0 xs, (fun _ _ => 0), (fun _ _ => none), 100, 0) = _
      rw [jS_o]
    have t13 : am_tu T1 193 (13, 0) 193 = (13, 0) := tu_r
    rw [e0]
    show _ = rn_r (d + 101) 194 18 _ [] (T2, oI (ur (cJ1 (jS xs)) 194 nS0), L1, R2, 205, 3383)
    simp (disch := first | omega | exact hJ _ _ | exact rJ_g hJ _ _ | (simp (disch := omega) only [ur_r, ur_o, up_r, up_o]; omega) | assumption) only [s194_0, s194_3, s194_4, s194_7, s194_7n, s194_7v, s194_8, s194_11, s194_12, s194_15, s194_15n, s194_15v, s194_16, s194_17, tu_r, run1, run2, t13, Nat.add_assoc, Nat.reduceLeDiff, List.contains_cons, List.contains_nil, beq_self_eq_true, Bool.or_false, kl_i, kl_r, kl_l, kl_n, kl_z, bd_s, tl_s, tl_n, ap_c, ap_n, v_s, v_n, nd_1, nd_0, ct13, eq_self, iI_add, iI_sub, iI_mul, iI_nat, iI_eq, iI_lt, iI_le, iI_eq0, iI_lt0, ↓reduceIte, if_true, if_false, not_true_eq_false, not_false_eq_true, true_and, and_true, false_and, and_false, true_or, or_true, false_or, or_false, Int.reduceLT, Int.reduceLE, Int.reduceEq, Int.reduceAdd, Int.reduceSub, Int.reduceMul, Nat.reduceAdd, Nat.reduceLT, Nat.reduceEqDiff, Int.reduceNeg, nc_s, nc_0, Int.zero_add, Int.add_zero, oI_r, oI_w, oI_f0, oI_g0, oI_f1, oI_g1, oI_f2, oI_g2, oI_f3, oI_g3, oI_f4, oI_g4, oI_f5, oI_g5, oI_f6, oI_g6, oI_f7, oI_g7, oI_f8, oI_g8, oI_f9, oI_g9, oI_f10, oI_g10, oI_f11, oI_g11, oI_f12, oI_g12, oI_f13, oI_g13, oI_f14, oI_g14, oI_f15, oI_g15, oI_f16, oI_g16, oI_f17, oI_g17, oI_f18, oI_g18, oI_f19, oI_g19, oI_f20, oI_g20, oI_f21, oI_g21, oI_f22, oI_g22, oI_f23, oI_g23, oI_f24, oI_g24, oI_f25, oI_g25, ur_r, ur_o, ur_s, up_r, up_o, up_s, jI_add, jI_sub, jI_mul, jI_neg, jI_i, jI_n, lgc_j, cj_lt, cj_ge, cj_gt, cj_le, cj_eq, oL_r, oL_w, oL_f6, oL_g6, oL_f7, oL_g7, oL_f17, oL_g17, oL_f18, oL_g18, dl_T, dl_F, de_T, de_F, dle_T, dle_F, iI_divn, rem_n, nd_v, ct_s, Bool.false_eq_true]
  · rw [tlo _ (by omega), tlo _ (by omega)]
    unfold am_T0
    rw [if_neg (by omega), if_pos (by omega), if_neg (by omega), if_neg (by omega), if_pos (by omega), show 30 + i - 30 = i by omega, (str_ok i hi).1]
    exact ⟨rfl, rfl⟩
  · rw [nJ_o (by omega) (by omega) (by omega) (by omega)]
    unfold jS am_I0
    rw [if_neg (by omega), if_pos (by omega), show 30 + i - 30 = i by omega, Int.toNat_natCast]
    exact (str_ok i hi).2 k hk
  · rw [nJ_z (by omega) (by omega) (by omega) (by omega) (by omega), z0_e]; omega
  · rw [to b (by omega)]; exact t1 b (by omega)
  · rw [nJ_z (by omega) (by omega) (by omega) (by omega) (by omega)]
  · exact tc_e htc (fun b b1 b2 => to b (by omega)) (fun j => ro 108 j (by omega))
  · exact fun c hc => absurd hc (List.not_mem_nil)
  · intro h s a1 a2 a3 a4
    rw [nJ_z (by omega) (by omega) (by omega) (by omega) (by omega)]; rfl
  · constructor
    · unfold nJ cJ1; rw [ur_o (by omega), ur_o (by omega), ur_r]; unfold inV; simp (disch := omega) only [up_r, up_o]
    · unfold nJ cJ1; rw [ur_o (by omega), ur_o (by omega), ur_r]; unfold inV; simp (disch := omega) only [up_r, up_o]
  · unfold nJ cJ1; rw [ur_o (by omega), ur_o (by omega), ur_r]; unfold inV; simp (disch := omega) only [up_r, up_o]; omega
  · unfold nJ cJ1; rw [ur_o (by omega), ur_o (by omega), ur_r]; unfold inV; simp (disch := omega) only [up_r, up_o]; omega
  · intro j _ _
    rw [nJ_z (by omega) (by omega) (by omega) (by omega) (by omega), z0_e]; omega
  · rw [ro 101 4 (by omega)]; exact h4
  · have e194 : nJ xs 194 = nS0 := by unfold nJ; rw [ur_r]
    rw [e194]
    refine ⟨fun p hp => ?_, ?_⟩
    · rw [nS0_o (by omega) (by omega)] at hp; omega
    · rw [nJ_z (by omega) (by omega) (by omega) (by omega) (by omega), nS0_o (by omega) (by omega)]
  · have e194 : nJ xs 194 = nS0 := by unfold nJ; rw [ur_r]
    rw [e194, tl_0]; unfold nJ cJ1; rw [ur_o (by omega), ur_o (by omega), ur_r]; unfold inV; simp (disch := omega) only [up_r, up_o]
  · have e194 : nJ xs 194 = nS0 := by unfold nJ; rw [ur_r]
    rw [e194, tl_0]; unfold nJ cJ1; rw [ur_o (by omega), ur_o (by omega), ur_r]; unfold inV; simp (disch := omega) only [up_r, up_o]
  · have e194 : nJ xs 194 = nS0 := by unfold nJ; rw [ur_r]
    rw [e194, tl_0]; unfold nJ cJ1; rw [ur_o (by omega), ur_o (by omega), ur_r]; unfold inV; simp (disch := omega) only [up_r, up_o]
  · exact Or.inl rfl
  · intro j hj
    have e194 : nJ xs 194 = nS0 := by unfold nJ; rw [ur_r]
    rw [e194, nJ_z (by omega) (by omega) (by omega) (by omega) (by omega), nS0_o (by omega) (by omega)]
  · intro p hp
    have e194 : nJ xs 194 = nS0 := by unfold nJ; rw [ur_r]
    rw [e194, nJ_z (by omega) (by omega) (by omega) (by omega) (by omega)]
    unfold dOf
    rw [nS0_o (j := 4 + p) (by omega) (by omega), if_pos rfl, nS0_o (by omega) (by omega)]
  · have e194 : nJ xs 194 = nS0 := by unfold nJ; rw [ur_r]
    rw [e194, nJ_z (by omega) (by omega) (by omega) (by omega) (by omega), nS0_o (by omega) (by omega)]
  · have e194 : nJ xs 194 = nS0 := by unfold nJ; rw [ur_r]
    rw [e194, nJ_z (by omega) (by omega) (by omega) (by omega) (by omega), nS0_o (by omega) (by omega)]
  · intro j hj
    rw [nJ_z (by omega) (by omega) (by omega) (by omega) (by omega)]
  · intro k hk j hj
    rw [nJ_z (by omega) (by omega) (by omega) (by omega) (by omega)]
  · have e194 : nJ xs 194 = nS0 := by unfold nJ; rw [ur_r]
    rw [e194, nJ_z (by omega) (by omega) (by omega) (by omega) (by omega), nS0_o (by omega) (by omega)]
  · have e194 : nJ xs 194 = nS0 := by unfold nJ; rw [ur_r]
    rw [e194, nJ_z (by omega) (by omega) (by omega) (by omega) (by omega), nS0_o (by omega) (by omega)]
  · have e194 : nJ xs 194 = nS0 := by unfold nJ; rw [ur_r]
    rw [e194, nJ_z (by omega) (by omega) (by omega) (by omega) (by omega), nS0_o (by omega) (by omega)]
  · have e194 : nJ xs 194 = nS0 := by unfold nJ; rw [ur_r]
    rw [e194, nJ_z (by omega) (by omega) (by omega) (by omega) (by omega), nS0_o (by omega) (by omega)]
  · intro k k0 k1
    have e194 : nJ xs 194 = nS0 := by unfold nJ; rw [ur_r]
    rw [e194, nS0_o (by omega) (by omega)] at k1; omega
  · intro k k0 k1
    have e194 : nJ xs 194 = nS0 := by unfold nJ; rw [ur_r]
    rw [e194, nS0_o (by omega) (by omega)] at k1; omega
  · intro k k0 k1
    have e194 : nJ xs 194 = nS0 := by unfold nJ; rw [ur_r]
    rw [e194, nS0_o (by omega) (by omega)] at k1; omega
  · intro k k0 k1
    rw [nJ_z (by omega) (by omega) (by omega) (by omega) (by omega)]; exact fit_0
  · have e194 : nJ xs 194 = nS0 := by unfold nJ; rw [ur_r]
    rw [e194]; exact oR_0
  · have e194 : nJ xs 194 = nS0 := by unfold nJ; rw [ur_r]
    rw [e194]; exact oW_0
  · rw [ro 106 k (by omega), h6] at hx; cases hx
  · rw [ro 124 k (by omega), h24] at hx; cases hx
  · have e193 : nJ xs 193 = z0 := nJ_z (by omega) (by omega) (by omega) (by omega) (by omega)
    rw [e193]; unfold nJ cJ1; rw [ur_o (by omega), ur_o (by omega), ur_o (by omega), ur_r, up_o (by omega)]
  · have e193 : nJ xs 193 = z0 := nJ_z (by omega) (by omega) (by omega) (by omega) (by omega)
    rw [e193]; exact Or.inl rfl
  · have e193 : nJ xs 193 = z0 := nJ_z (by omega) (by omega) (by omega) (by omega) (by omega)
    rw [e193] at hq; exact absurd hq (by decide)
  · rw [nJ_z (b := 137) (by omega) (by omega) (by omega) (by omega) (by omega), nJ_z (b := 193) (by omega) (by omega) (by omega) (by omega) (by omega)]
  · rw [nJ_z (b := 193) (by omega) (by omega) (by omega) (by omega) (by omega), z0_e]; omega
  · rw [nJ_z (b := 138) (by omega) (by omega) (by omega) (by omega) (by omega), nJ_z (b := 204) (by omega) (by omega) (by omega) (by omega) (by omega)]
  · rw [tlo 0 (by omega)]; unfold am_T0; rw [if_pos rfl]
end WA
