/-! both sides: plain calls that change -/
section UD
variable {d : Nat} {T T' : Nat → Nat × Nat} {L : Nat → Nat → Int64} {R R' : Nat → Nat → Option Nat} {z z' w : Nat} {J J1 J2 J3 Q : mR} {t t' : Nat} {S S' : Int → Int} {cs cs' : List CL} {ts : List Int}
theorem oR_e (h : oR ts S) (e : ∀ j, 220 ≤ j ∨ j = 20 → S' j = S j) (hS : oS S') (hb : tB 0 S') (h10 : S' 10 ≤ 999) : oR ts S' := by
  obtain ⟨h1, h2, h3, ⟨q1, q2, q3, q4⟩, _, _⟩ := h
  have tl : ∀ a b, 220 ≤ a → tlS S' a b = tlS S a b := by
    intro a b ha
    unfold tlS
    rw [e 20 (by omega)]
    split
    · rfl
    · rw [e _ (by omega)]
  refine ⟨hS, ?_, h3, ⟨by rw [e 20 (by omega)]; exact q1, by rw [tl _ _ (by omega)]; exact q2, by rw [tl _ _ (by omega)]; exact q3, by rw [tl _ _ (by omega)]; exact q4⟩, hb, h10⟩
  unfold held at h2 ⊢
  rw [e 20 (by omega)]
  rcases h2 with h2 | ⟨a1, a2, a3, a4, a5⟩
  · exact Or.inl h2
  · exact Or.inr ⟨a1, a2, by rw [e _ (by omega)]; exact a3, seg_e _ _ (fun j j0 _ => e j (by omega)) a4, a5⟩
theorem oW_g (h : oW S) (e : ∀ j, (15 ≤ j ∧ j ≤ 20) ∨ (30 ≤ j ∧ j < 150) ∨ (162 ≤ j ∧ j < 174) ∨ (180 ≤ j ∧ j < 220) → S' j = S j) (h15 : S 15 ≤ 6) : oW S' := by
  obtain ⟨w1, w2, w3, w4, w5, w6, w7, w8, w9⟩ := h
  unfold oW
  rw [e 15 (by omega), e 16 (by omega), e 17 (by omega), e 18 (by omega), e 19 (by omega), e 20 (by omega)]
  refine ⟨w1, w2, w3, w4, fun k k0 k1 => ?_, fun k k0 k1 => ?_, fun k k0 k1 => ?_, w8, fun p p0 p1 => ?_⟩
  · rw [e _ (by omega)]; exact w5 k k0 k1
  · rw [e _ (by omega), e _ (by omega)]; exact w6 k k0 k1
  · rw [e _ (by omega)]; exact w7 k k0 k1
  · rw [e _ (by omega), e _ (by omega)]; exact w9 p p0 p1
theorem oS_e (h : oS S) (e : ∀ j, j < 16 ∨ (150 ≤ j ∧ j < 180) → S' j = S j) : oS S' := by
  obtain ⟨h1, h2, h3, h4, h5⟩ := h
  refine ⟨fun p hp => ?_, fun j hj => ?_, ?_, ?_, ?_⟩
  · rw [e (162 + p) (by omega), e (168 + p) (by omega), e (4 + p) (by omega), e (174 + p) (by omega), e (150 + p) (by omega), e (156 + p) (by omega)]; exact h1 p hp
  · rw [e j (by omega)]; exact h2 j hj
  · rw [e 10 (by omega)]; exact h3
  · rw [e 11 (by omega)]; exact h4
  · rw [e 15 (by omega)]; exact h5
theorem tB_e {c : Int} (h : tB c S) (e : ∀ j, 12 ≤ j ∧ j ≤ 14 → S' j = S j) : tB c S' := by
  unfold tB at h ⊢
  rw [e 12 (by omega), e 13 (by omega), e 14 (by omega)]; exact h
/-- S' within reach -/
theorem rJ_s (hJ : rJ J) (hV : ∀ j, i32 (S' j)) : rJ (ur J 194 S') := ⟨rg_up hJ.1 hV, fun j => by rw [ur_o (by omega)]; exact hJ.2 j⟩
theorem finM (h : clR T R J z) (hS : cS T R J t cs (J 194)) (f : fM t J J1) (hS1 : cS T R J1 t cs S') (hP1 : cPl J1 S') (ho : oR (tokL cs) S') (hw : oW S') (g : fG (nmI J1) J3) (r2 : rJ J3) (r3 : J3 194 = S') : clR T R J3 z ∧ ∀ b, b < 100 → J3 b = J b := by
  obtain ⟨hM, hr, hsk, hJ, hz5, hz0, hJ0, _, hq1, hq2, ⟨s1, s2⟩, hk, ⟨t1, t2, t3⟩⟩ := id h
  have htp := hS.1.2.2.2.2.2.2
  have htp2 := htp
  unfold tpl at htp2
  have htc := hS.1.1.1
  have tz : t + 6 < z := by
    rcases Nat.lt_or_ge (t + 6) z with q | q
    · exact q
    · have c7 : T (t + 6) = (20, 5) := htc.2.2.2.2.2.2.1
      rw [hz0 _ q] at c7
      exact absurd c7 (by decide)
  exact fin2 h tE.i (fun _ _ _ _ _ _ _ => rfl) (fun _ => rfl) rfl hq1 (Nat.le_refl _) hz0 htc htp (fun b _ b1 b2 _ b4 b5 => f b (by omega) b2 b4 b5) (fun b hb j => by rw [f b (by omega) (by omega) (by omega) (by omega)]; exact hJ0 b hb j) (by rw [f 100 (by omega) (by omega) (by omega) (by omega)]) hS1.1.1.2.2.2.2.2.2 (f 137 (by omega) (by omega) (by omega) (by omega)) (f 138 (by omega) (by omega) (by omega) (by omega)) (stB_of hS1 hP1) hS1.2.1.2.2.2.2 hS1.2.2 ho hw g r2 r3
theorem e194 (hJ : rJ J) (htp : tpl t) (f : fM t J J1) : nmI J1 194 = J 194 ∧ J1 198 = J 198 := by
  unfold tpl at htp
  exact ⟨nm_row hJ.1 (f 194 (by omega) (by omega) (by omega) (by omega)), f 198 (by omega) (by omega) (by omega) (by omega)⟩
theorem stand_ok (ho : oR ts S) (hw : oW S) (a n : Int) : oR ts (standS S a n) ∧ oW (standS S a n) ∧ ((∀ j, i32 (S j)) → ∀ j, i32 (standS S a n j)) := by
  by_cases c : 0 ≤ a ∧ a ≤ 3 ∧ 0 ≤ n ∧ n ≤ 9
  · have es : standS S a n = up S a n := by unfold standS; rw [if_neg (by omega), if_neg (by omega), if_neg (by omega), if_neg (by omega)]
    rw [es]
    obtain ⟨h1, h2, h3, h4, h5⟩ := ho.1
    refine ⟨oR_e ho (fun j hj => up_o (by omega)) ⟨fun p hp => ?_, fun j hj => ?_, ?_, ?_, ?_⟩ (tB_e ho.2.2.2.2.1 (fun j hj => up_o (by omega))) (by rw [up_o (by omega)]; exact ho.2.2.2.2.2), oW_g hw (fun j hj => up_o (by omega)) h5.2, fun hr => up_rng hr (by omega)⟩
    · rw [up_o (by omega), up_o (by omega), up_o (by omega), up_o (by omega), up_o (by omega), up_o (by omega)]; exact h1 p hp
    · unfold up; split
      · omega
      · exact h2 j hj
    · rw [up_o (by omega)]; exact h3
    · rw [up_o (by omega)]; exact h4
    · rw [up_o (by omega)]; exact h5
  · have es : standS S a n = S := by
      unfold standS
      repeat' split
      all_goals first | rfl | omega
    rw [es]; exact ⟨ho, hw, fun q => q⟩
theorem step_ok (ho : oR ts S) (hw : oW S) (p n : Int) : oR ts (stepS S p n) ∧ oW (stepS S p n) ∧ ((∀ j, i32 (S j)) → ∀ j, i32 (stepS S p n j)) := by
  obtain ⟨h1, h2, h3, h4, h5⟩ := ho.1
  by_cases c : 0 ≤ p ∧ p < S 15 ∧ 1 ≤ n ∧ n ≤ 9
  · have es : stepS S p n = up S (174 + p) n := by unfold stepS; rw [if_neg (by omega), if_neg (by omega), if_neg (by omega), if_neg (by omega)]
    rw [es]
    refine ⟨oR_e ho (fun j hj => up_o (by omega)) ⟨fun q hq => ?_, fun j hj => ?_, ?_, ?_, ?_⟩ (tB_e ho.2.2.2.2.1 (fun j hj => up_o (by omega))) (by rw [up_o (by omega)]; exact ho.2.2.2.2.2), oW_g hw (fun j hj => up_o (by omega)) h5.2, fun hr => up_rng hr (by omega)⟩
    · obtain ⟨q1, q2, q3, q4, q5⟩ := h1 q hq
      rw [up_o (by omega), up_o (by omega), up_o (by omega), up_o (show ¬ 150 + q = 174 + p by omega), up_o (show ¬ 156 + q = 174 + p by omega)]
      refine ⟨q1, q2, q3, ?_, q5⟩
      unfold up; split
      · omega
      · exact q4
    · rw [up_o (by omega)]; exact h2 j hj
    · rw [up_o (by omega)]; exact h3
    · rw [up_o (by omega)]; exact h4
    · rw [up_o (by omega)]; exact h5
  · have es : stepS S p n = S := by
      unfold stepS
      repeat' split
      all_goals first | rfl | omega
    rw [es]; exact ⟨ho, hw, fun q => q⟩
theorem row_ok (ho : oR ts S) (hw : oW S) (s : Int) : oR ts (rowS S s) ∧ oW (rowS S s) ∧ ((∀ j, i32 (S j)) → ∀ j, i32 (rowS S s j)) := by
  have hw0 := hw
  obtain ⟨w1, w2, w3, w4, w5, w6, w7, w8, w9⟩ := hw
  have h5 := ho.1.2.2.2.2
  by_cases c0 : s = -1
  · have es : rowS S s = up S 17 0 := by unfold rowS; rw [if_pos c0]
    rw [es]
    refine ⟨oR_e ho (fun j hj => up_o (by omega)) (oS_e ho.1 (fun j hj => up_o (by omega))) (tB_e ho.2.2.2.2.1 (fun j hj => up_o (by omega))) (by rw [up_o (by omega)]; exact ho.2.2.2.2.2), ?_, fun hr => up_rng hr (by omega)⟩
    have e : ∀ j, ¬ j = 17 → up S 17 0 j = S j := fun j hj => up_o hj
    unfold oW
    rw [e 15 (by omega), e 16 (by omega), up_r, e 18 (by omega), e 19 (by omega), e 20 (by omega)]
    refine ⟨w1, by omega, w3, w4, fun k k0 k1 => by omega, fun k k0 k1 => ?_, fun k k0 k1 => ?_, w8, fun p p0 p1 => ?_⟩
    · rw [e _ (by omega), e _ (by omega)]; exact w6 k k0 k1
    · rw [e _ (by omega)]; exact w7 k k0 k1
    · rw [e _ (by omega), e _ (by omega)]; exact w9 p p0 p1
  by_cases c : 0 ≤ s ∧ s ≤ 1 ∧ ¬ S 17 = 20
  · have es : rowS S s = up (up S (180 + S 17) s) 17 (S 17 + 1) := by unfold rowS; rw [if_neg c0, if_neg (by omega), if_neg (by omega), if_neg (by omega)]
    rw [es]
    have e : ∀ j, ¬ j = 17 → ¬ j = 180 + S 17 → up (up S (180 + S 17) s) 17 (S 17 + 1) j = S j := fun j h1 h2 => by rw [up_o h1, up_o h2]
    refine ⟨oR_e ho (fun j hj => e j (by omega) (by omega)) (oS_e ho.1 (fun j hj => e j (by omega) (by omega))) (tB_e ho.2.2.2.2.1 (fun j hj => e j (by omega) (by omega))) (by rw [e 10 (by omega) (by omega)]; exact ho.2.2.2.2.2), ?_, fun hr => up_rng (up_rng hr (by omega)) (by omega)⟩
    have e17 : up (up S (180 + S 17) s) 17 (S 17 + 1) 17 = S 17 + 1 := up_r
    unfold oW
    rw [e 15 (by omega) (by omega), e 16 (by omega) (by omega), e17, e 18 (by omega) (by omega), e 19 (by omega) (by omega), e 20 (by omega) (by omega)]
    refine ⟨w1, by omega, w3, w4, fun k k0 k1 => ?_, fun k k0 k1 => ?_, fun k k0 k1 => ?_, w8, fun p p0 p1 => ?_⟩
    · by_cases ek : k = S 17
      · rw [up_o (by omega), ek, up_r]; omega
      · rw [e _ (by omega) (by omega)]; exact w5 k k0 (by omega)
    · rw [e _ (by omega) (by omega), e _ (by omega) (by omega)]; exact w6 k k0 k1
    · rw [e _ (by omega) (by omega)]; exact w7 k k0 k1
    · rw [e _ (by omega) (by omega), e _ (by omega) (by omega)]; exact w9 p p0 p1
  · have es : rowS S s = S := by
      unfold rowS
      repeat' split
      all_goals first | rfl | omega
    rw [es]; exact ⟨ho, hw0, fun q => q⟩
theorem book_ok (ho : oR ts S) (hw : oW S) (a n : Int) : oR ts (bookS S a n) ∧ oW (bookS S a n) ∧ ((∀ j, i32 (S j)) → ∀ j, i32 (bookS S a n j)) := by
  have hw0 := hw
  obtain ⟨w1, w2, w3, w4, w5, w6, w7, w8, w9⟩ := hw
  have h5 := ho.1.2.2.2.2
  by_cases c : 0 ≤ a ∧ a ≤ 3 ∧ 0 ≤ n ∧ n ≤ 99 ∧ ¬ S 18 = 10
  · have es : bookS S a n = up (up (up S (200 + S 18) a) (210 + S 18) n) 18 (S 18 + 1) := by unfold bookS; rw [if_neg (by omega), if_neg (by omega), if_neg (by omega), if_neg (by omega), if_neg (by omega)]
    rw [es]
    have e : ∀ j, ¬ j = 18 → ¬ j = 200 + S 18 → ¬ j = 210 + S 18 → up (up (up S (200 + S 18) a) (210 + S 18) n) 18 (S 18 + 1) j = S j := fun j h1 h2 h3 => by rw [up_o h1, up_o h3, up_o h2]
    refine ⟨oR_e ho (fun j hj => e j (by omega) (by omega) (by omega)) (oS_e ho.1 (fun j hj => e j (by omega) (by omega) (by omega))) (tB_e ho.2.2.2.2.1 (fun j hj => e j (by omega) (by omega) (by omega))) (by rw [e 10 (by omega) (by omega) (by omega)]; exact ho.2.2.2.2.2), ?_, fun hr => up_rng (up_rng (up_rng hr (by omega)) (by omega)) (by omega)⟩
    have e18 : up (up (up S (200 + S 18) a) (210 + S 18) n) 18 (S 18 + 1) 18 = S 18 + 1 := up_r
    unfold oW
    rw [e 15 (by omega) (by omega) (by omega), e 16 (by omega) (by omega) (by omega), e 17 (by omega) (by omega) (by omega), e18, e 19 (by omega) (by omega) (by omega), e 20 (by omega) (by omega) (by omega)]
    refine ⟨w1, w2, by omega, w4, fun k k0 k1 => ?_, fun k k0 k1 => ?_, fun k k0 k1 => ?_, w8, fun p p0 p1 => ?_⟩
    · rw [e _ (by omega) (by omega) (by omega)]; exact w5 k k0 k1
    · by_cases ek : k = S 18
      · rw [ek, up_o (show ¬ 200 + S 18 = 18 by omega), up_o (show ¬ 200 + S 18 = 210 + S 18 by omega), up_r, up_o (show ¬ 210 + S 18 = 18 by omega), up_r]; omega
      · rw [e (200 + k) (by omega) (by omega) (by omega), e (210 + k) (by omega) (by omega) (by omega)]; exact w6 k k0 (by omega)
    · rw [e _ (by omega) (by omega) (by omega)]; exact w7 k k0 k1
    · rw [e _ (by omega) (by omega) (by omega), e _ (by omega) (by omega) (by omega)]; exact w9 p p0 p1
  · have es : bookS S a n = S := by
      unfold bookS
      repeat' split
      all_goals first | rfl | omega
    rw [es]; exact ⟨ho, hw0, fun q => q⟩
theorem fdS_p (u : Int64) : ∀ (k : Nat) (S : Int → Int), 0 ≤ S 19 → S 19 + k ≤ 120 → k ≤ 8 → fdS u k S 19 = S 19 + k ∧ ((∀ q, 0 ≤ q → q < S 19 → 0 ≤ S (30 + q) ∧ S (30 + q) ≤ 255) → ∀ q, 0 ≤ q → q < S 19 + k → 0 ≤ fdS u k S (30 + q) ∧ fdS u k S (30 + q) ≤ 255) ∧ ((∀ j, i32 (S j)) → ∀ j, i32 (fdS u k S j)) := by
  intro k
  induction k with
  | zero =>
    intro S h0 h1 _
    simp only [fdS, nc_0, Int.add_zero]
    exact ⟨trivial, fun q => q, fun q => q⟩
  | succ k ih =>
    intro S h0 h1 hk
    simp only [fdS]
    have br := byS_r u k
    have e19 : up (up S (30 + S 19) (byS u k)) 19 (S 19 + 1) 19 = S 19 + 1 := up_r
    obtain ⟨a1, a2, a3⟩ := ih (up (up S (30 + S 19) (byS u k)) 19 (S 19 + 1)) (by rw [e19]; omega) (by rw [e19]; omega) (by omega)
    rw [e19] at a1 a2
    refine ⟨by rw [a1]; omega, fun hq q q0 q1 => a2 (fun q q0 q1 => ?_) q q0 (by omega), fun hr => a3 (up_rng (up_rng hr (by omega)) (by omega))⟩
    by_cases e : q = S 19
    · rw [up_o (by omega), e, up_r]; omega
    · rw [up_o (by omega), up_o (by omega)]; exact hq q q0 (by omega)
theorem feed_ok (ho : oR ts S) (hw : oW S) (u : Int64) (n : Int) : oR ts (feedS u S n) ∧ oW (feedS u S n) ∧ ((∀ j, i32 (S j)) → ∀ j, i32 (feedS u S n j)) := by
  have hw0 := hw
  obtain ⟨w1, w2, w3, w4, w5, w6, w7, w8, w9⟩ := hw
  have h5 := ho.1.2.2.2.2
  unfold feedS
  by_cases c : 1 ≤ n ∧ n ≤ 8 ∧ S 19 + n ≤ 120
  · rw [if_neg (by omega), if_neg (by omega), if_neg (by omega)]
    have e := fdS_o u n.toNat S w4.1 (by omega)
    obtain ⟨a1, a2, a3⟩ := fdS_p u n.toNat S w4.1 (by omega) (by omega)
    refine ⟨oR_e ho (fun j hj => e j (by omega) (by omega)) (oS_e ho.1 (fun j hj => e j (by omega) (by omega))) (tB_e ho.2.2.2.2.1 (fun j hj => e j (by omega) (by omega))) (by rw [e 10 (by omega) (by omega)]; exact ho.2.2.2.2.2), ?_, a3⟩
    unfold oW
    rw [e 15 (by omega) (by omega), e 16 (by omega) (by omega), e 17 (by omega) (by omega), e 18 (by omega) (by omega), a1, e 20 (by omega) (by omega)]
    refine ⟨w1, w2, w3, by omega, fun k k0 k1 => ?_, fun k k0 k1 => ?_, a2 w7, w8, fun p p0 p1 => ?_⟩
    · rw [e _ (by omega) (by omega)]; exact w5 k k0 k1
    · rw [e _ (by omega) (by omega), e _ (by omega) (by omega)]; exact w6 k k0 k1
    · rw [e _ (by omega) (by omega), e _ (by omega) (by omega)]; exact w9 p p0 p1
  · have es : (if n < 1 then S else if 8 < n then S else if 120 < S 19 + n then S else fdS u n.toNat S) = S := by
      repeat' split
      all_goals first | rfl | omega
    rw [es]; exact ⟨ho, hw0, fun q => q⟩
theorem cart_ok (ho : oR ts S) (hw : oW S) : oR ts (caS S (tlS S 230 2)) ∧ oW (caS S (tlS S 230 2)) ∧ ((∀ j, i32 (S j)) → ∀ j, i32 (caS S (tlS S 230 2) j)) := by
  obtain ⟨c1, c2, c3, c4, c5⟩ := caS_p (load := tlS S 230 2) ho.1 ho.2.2.2.1.2.2.2.1
  refine ⟨oR_e ho (fun j hj => c3 j (by omega)) c1 (tB_e ho.2.2.2.2.1 (fun j hj => c3 j (by omega))) (by rw [c3 10 (by omega)]; exact ho.2.2.2.2.2), oW_g hw (fun j hj => c3 j (by omega)) ho.1.2.2.2.2.2, fun hr j => ?_⟩
  by_cases hj : 4 ≤ j
  · rw [c3 j hj]; exact hr j
  · by_cases h0 : 0 ≤ j
    · have := c1.2.1 j (by omega); omega
    · have g := c1.2.1
      unfold caS
      split
      · exact hr j
      · rename_i e
        have hga : 0 ≤ gaS S := by unfold gaS; simp only []; repeat' split
                                   all_goals omega
        have hla : 0 ≤ laS S := by unfold laS; simp only []; repeat' split
                                   all_goals omega
        rw [up_o (by omega), up_o (by omega)]; exact hr j
theorem go_ok (ho : oR ts S) (hw : oW S) (s : Int) : oR ts (goS ts S s) ∧ oW (goS ts S s) := by
  have sxx := go_x ts ho.2.2.1 ho.1 ho.2.2.2.2.1 ho.2.2.2.1 ho.2.2.2.2.2 s
  by_cases c : 0 ≤ s ∧ s ≤ 1 ∧ ¬ S 10 = 999
  · have h10 := ho.2.2.2.2.2
    obtain ⟨a1, a2, a3, a4, a5⟩ := hr_p (sky := s) ho.2.2.1 ho.1 ho.2.2.2.2.1 ho.2.2.2.1 (by omega) (by omega)
    have es : goS ts S s = up (up (up (hrS ts S s) 12 0) 13 0) 14 0 := by unfold goS; rw [if_neg (by omega), if_neg (by omega), if_neg (by omega)]
    refine ⟨oR_e ho (fun j hj => sxx j (by omega)) ?_ ?_ ?_, oW_g hw (fun j hj => sxx j (by omega)) ho.1.2.2.2.2.2⟩
    · rw [es]
      obtain ⟨h1, h2, h3, h4, h5⟩ := a1
      refine ⟨fun p hp => ?_, fun j hj => ?_, ?_, ?_, ?_⟩
      · simp (disch := omega) only [up_o]; exact h1 p hp
      · simp (disch := omega) only [up_o]; exact h2 j hj
      · simp (disch := omega) only [up_o]; exact h3
      · simp (disch := omega) only [up_o]; exact h4
      · simp (disch := omega) only [up_o]; exact h5
    · rw [es]; unfold tB; simp (disch := omega) only [up_o, up_r]; omega
    · rw [es]; simp (disch := omega) only [up_o]; omega
  · have es : goS ts S s = S := by
      unfold goS
      repeat' split
      all_goals first | rfl | omega
    rw [es]; exact ⟨ho, hw⟩
end UD
