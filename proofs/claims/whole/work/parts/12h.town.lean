/-! both sides: town -/
section UH
variable {d : Nat} {T T' : Nat → Nat × Nat} {L : Nat → Nat → Int64} {R R' : Nat → Nat → Option Nat} {z z' w : Nat} {J J1 J2 J3 Q : mR} {t t' b : Nat} {S S' : Int → Int} {cs cs' : List CL} {ts : List Int} {x : Int → Int} {n a : Int}
theorem lsW_r {k v : Int} : ∀ (cs : List CL) (v : Int), wfL cs → 0 ≤ v ∧ v ≤ 99 → 0 ≤ lsW k cs v ∧ lsW k cs v ≤ 99 := by
  intro cs
  induction cs with
  | nil => intro v _ hv; exact hv
  | cons c cs ih =>
    intro v hw hv
    have hc := (hw c (List.mem_cons_self ..)).2.1
    refine ih _ (fun q hq => hw q (List.mem_cons_of_mem _ hq)) ?_
    dsimp only
    split
    · exact hc
    · exact hv
theorem oS_i (h : oS S) (e : ∀ j, j < 16 ∨ (150 ≤ j ∧ j < 180) → S' j = S j) : oS S' := oS_e h e
/-- all of the class's state but the town and the tape -/
theorem stB_w (hB : stB T R J 101 t cs S) (hT : tE T T') (hR6 : ∀ k, R' 106 k = R 106 k) (hw : ∀ x, [1, 2, 3, 4, 5, 6, 10].contains (T x).1 = true → J1 x = J x) (hr : ∀ a, (102 ≤ a ∧ a ≤ 104) ∨ a = 107 ∨ (115 ≤ a ∧ a ≤ 118) → J1 a = J a) (hW : oW S) (h15 : 0 ≤ S 15 ∧ S 15 ≤ 6) (e : ∀ j, j < 16 ∨ j = 17 ∨ j = 18 ∨ (150 ≤ j ∧ j < 220) → S' j = S j) (e19 : S' 19 = 0) (e1 : ∀ j, j = 3 ∨ j = 9 ∨ j = 12 → J1 101 j = J 101 j) (e5 : J1 101 5 = S' 16) (e7 : J1 101 7 = 0) (htk : tk T' R' J1 t' cs') (h4 : R' 101 4 = some t') (hwt : J1 t' 0 = tlS S' 220 9 ∧ J1 t' 1 = tlS S' 225 1 ∧ J1 t' 2 = tlS S' 230 2) (htp : tpl t') : stB T' R' J1 101 t' cs' S' := by
  obtain ⟨g1, g2, g3, g4, g7, ⟨n1, n2, n3, n4⟩, ⟨g8, p1, p2, p3, p4⟩, p5, p6, p7, p8⟩ := hB
  obtain ⟨w1, w2, w3, w4, _⟩ := hW
  refine ⟨htk, h4, fun p hp => ?_, hwt, htp, ⟨fun j hj => by rw [hr 103 (by omega), e j (by omega)]; exact n1 j hj, fun p hp => ?_, by rw [hr 102 (by omega), e 10 (by omega)]; exact n3, by rw [hr 102 (by omega), e 11 (by omega)]; exact n4⟩, ⟨by rw [e1 3 (by omega), e 15 (by omega)]; exact g8, e5, by rw [e7, e19], by rw [e1 9 (by omega), e 17 (by omega)]; exact p3, by rw [e1 12 (by omega), e 18 (by omega)]; exact p4⟩, fun k k0 k1 => ?_, fun k k0 k1 => ?_, fun k k0 k1 => by omega, fun k k0 k1 => by rw [hr 115 (by omega)]; exact p8 k k0 k1⟩
  · rw [e 15 (by omega)] at hp
    obtain ⟨⟨x, x1, x2⟩, x3, x4⟩ := g3 p hp
    refine ⟨⟨x, by rw [hR6]; exact x1, ?_⟩, by rw [hr 107 (by omega), e _ (by omega)]; exact x3, by rw [e _ (by omega), e _ (by omega)]; exact x4⟩
    have tg := x2.tg
    unfold pc1 at x2 ⊢
    rw [hT x (by intro e; rw [e] at tg; exact absurd tg (by decide)), hw x tg, e (150 + (p : Int)) (by omega), e (162 + (p : Int)) (by omega), e (168 + (p : Int)) (by omega), e (156 + (p : Int)) (by omega)]
    exact x2
  · rw [hr 104 (by omega), n2 p hp]; unfold dOf
    rw [e (4 + p) (by omega), e (162 + p) (by omega), e (168 + p) (by omega)]
  · rw [e 17 (by omega)] at k1
    rw [hr 116 (by omega), e _ (by omega)]; exact p5 k k0 k1
  · rw [e 18 (by omega)] at k1
    rw [hr 117 (by omega), hr 118 (by omega), e _ (by omega), e _ (by omega)]; exact p6 k k0 k1
theorem oW_t (hw : oW S) (h15 : 0 ≤ S 15 ∧ S 15 ≤ 6) (e : ∀ j, j = 15 ∨ j = 17 ∨ j = 18 ∨ (150 ≤ j ∧ j < 220) → S' j = S j) (e19 : S' 19 = 0) (h16 : 0 ≤ S' 16 ∧ S' 16 ≤ 5) (h20 : S' 20 < S' 16) : oW S' := by
  obtain ⟨w1, w2, w3, w4, w5, w6, w7, w8, w9⟩ := hw
  unfold oW
  rw [e 15 (by omega), e 17 (by omega), e 18 (by omega), e19]
  refine ⟨h16, w2, w3, by omega, fun k k0 k1 => ?_, fun k k0 k1 => ?_, fun k k0 k1 => by omega, h20, fun p p0 p1 => ?_⟩
  · rw [e _ (by omega)]; exact w5 k k0 k1
  · rw [e _ (by omega), e _ (by omega)]; exact w6 k k0 k1
  · rw [e _ (by omega), e _ (by omega)]; exact w9 p p0 p1
/-- a fault leaves the town that held -/
theorem oR_t (h : oR ts S) (ha : 0 ≤ a ∧ a ≤ 4) (h20 : S 20 < a) (e : ∀ j, ¬ j = 19 → ¬ j = 220 + a → ¬ j = 225 + a → ¬ j = 230 + a → ¬ j = 235 + a → (j < 240 + 140 * a ∨ 380 + 140 * a ≤ j) → S' j = S j) : oR ts S' ∧ (∀ p q, p = 220 ∨ p = 225 ∨ p = 230 → tlS S' p q = tlS S p q) := by
  obtain ⟨h1, h2, h3, ⟨q1, q2, q3, q4⟩, ⟨b1, b2, b3⟩, h6⟩ := h
  have e20 : S' 20 = S 20 := e 20 (by omega) (by omega) (by omega) (by omega) (by omega) (by omega)
  have lo : ∀ j, j < 16 ∨ (150 ≤ j ∧ j < 180) → S' j = S j := fun j hj => e j (by omega) (by omega) (by omega) (by omega) (by omega) (by omega)
  have tl : ∀ p q, p = 220 ∨ p = 225 ∨ p = 230 → tlS S' p q = tlS S p q := by
    intro p q hp
    unfold tlS
    rw [e20]
    split
    · rfl
    · rw [e _ (by omega) (by omega) (by omega) (by omega) (by omega) (by omega)]
  refine ⟨⟨oS_e h1 lo, ?_, h3, ⟨by rw [e20]; exact q1, by rw [tl _ _ (by omega)]; exact q2, by rw [tl _ _ (by omega)]; exact q3, by rw [tl _ _ (by omega)]; exact q4⟩, ⟨by rw [lo 12 (by omega)]; exact b1, by rw [lo 13 (by omega)]; exact b2, by rw [lo 14 (by omega)]; exact b3⟩, by rw [lo 10 (by omega)]; exact h6⟩, tl⟩
  unfold held at h2 ⊢
  rw [e20]
  rcases h2 with h2 | ⟨a1, a2, a3, a4, a5⟩
  · exact Or.inl h2
  · refine Or.inr ⟨a1, a2, by rw [e _ (by omega) (by omega) (by omega) (by omega) (by omega) (by omega)]; exact a3, seg_e _ _ (fun j j0 j1 => e j (by omega) (by omega) (by omega) (by omega) (by omega) (by omega)) a4, a5⟩
theorem beS_o (ha : 0 ≤ a ∧ a ≤ 4) {j : Int} (h : ¬ j = 19) (h1 : ¬ j = 220 + a) (h2 : ¬ j = 225 + a) (h3 : ¬ j = 230 + a) (h4 : ¬ j = 235 + a) : beS a S j = S j := by
  unfold beS; rw [up_o h4, up_o h3, up_o h2, up_o h1, up_o h]
theorem k_town (h : clR T R J z) : okC gI (d + 100) 65 125 [] T J L R z w := by
  obtain ⟨hM, hr, hsk, hJ, hz5, hz0, hJ0, ⟨t, cs, hS, hP, ho, hw⟩, hq1, hq2, ⟨s1, s2⟩, hk, ⟨t1, t2, t3⟩⟩ := id h
  have htp := hS.1.2.2.2.2.2.2
  have htp2 := htp
  unfold tpl at htp2
  have htk := hS.1.1
  have htc := htk.1
  have tz := tlt hz0 htc
  obtain ⟨w1, w2, w3, w4, w5, w6, w7, w8, w9⟩ := id hw
  have h15 := ho.1.2.2.2.2
  by_cases c5 : J 194 16 = 5
  · exact ⟨_, _, _, _, _, _, _, _, _, _, _, _, _, c_townF (d := d + 73) hM hP c5, n_townF (d := d + 73) hr c5, h, fun _ _ => rfl, tE.i, by omega, by omega, ⟨_, rfl⟩, tE.i, rfl⟩
  have ha : 0 ≤ J 194 16 ∧ J 194 16 ≤ 4 := by omega
  have hz1 : ∀ b, z ≤ b → (T b).1 = 0 := fun b hb => by rw [hz0 b hb]
  obtain ⟨R', J1, run1, f1, f2, hE, tc7, ro, r4, kk⟩ := c_town (d := d + 73) (L := L) (w := w) hM hz1 hJ0 hz5 hsk hw hP (by omega)
  have tE7 : tE T (T7 z T) := T7_E hz1
  have hr' := rM_x hr tE7 hE
  have e4 : nmI J1 194 = J 194 := nm_row hJ.1 (f1 194 (by omega) (by omega))
  have rj := rJ_nm hJ (f1 198 (by omega) (by omega))
  have lo1 : ∀ b, b < 100 → nmI J1 b = J b := fun b hb => nm_row hJ.1 (f1 b (by omega) (by omega))
  have hsk' : sK (T7 z T) (nmI J1) := ⟨fun i hi => by rw [T7_o (by omega), T7_o (by omega)]; exact hsk.1 i hi, fun i k hi hk => by rw [lo1 _ (by omega)]; exact hsk.2 i k hi hk⟩
  obtain ⟨X, S', run2, hX, okS, noS⟩ := n_town (d := d + 73) (J := nmI J1) (t := fun j => J 194 (30 + j)) (L := L) (z := z + 7) (w := w + 217) hr' hsk' rj.1 (by rw [e4]; exact ha) (by rw [e4]; exact w4) (by rw [e4]; exact fun j j0 j1 => ⟨rfl, w7 j j0 j1⟩)
  rw [e4] at run2 okS noS
  rw [nmI_o] at run2
  obtain ⟨G, hG⟩ : ∃ G, G = ur (ur (nmI J1) 193 X) 194 S' := ⟨_, rfl⟩
  rw [← hG, ← nmI_o (J := G)] at run2
  have g194 : G 194 = S' := by rw [hG, ur_r]
  have g193 : G 193 = X := by rw [hG, ur_o (by omega), ur_r]
  have go : ∀ b, ¬ b = 193 → ¬ b = 194 → nmI G b = nmI J1 b := fun b b1 b2 => nm_row rj.1 (by rw [hG, ur_o b2, ur_o b1])
  have sv : ∀ j v, S' j = v → i32 v → nmI G 194 j = v := fun j v e hv => nm_v (by rw [g194]; exact e) hv
  have c193 : nmI J1 193 = J 193 := nm_row hJ.1 (f1 193 (by omega) (by omega))
  have hfG : fG (nmI J1) (nmI G) := by
    refine ⟨fun b hb => go b (by omega) (by omega), ?_, ?_⟩
    · refine nm_v (by rw [g193, hX 3 (by omega) (by omega) (by omega) (by omega) (by omega)]) ?_
      exact rj.1 193 3
    · refine nm_v (by rw [g193, hX 22 (by omega) (by omega) (by omega) (by omega) (by omega)]) ?_
      exact rj.1 193 22
  have rjG : rJ (nmI G) := ⟨nmI_rg, fun j => by rw [go 198 (by omega) (by omega)]; exact rj.2 j⟩
  have c105 : ∀ j, 0 ≤ j ∧ j < 4 → J1 105 j = 0 := fun j hj => by rw [f1 105 (by omega) (by omega)]; exact hS.2.1.2.2.2.2 j hj
  have ccz : cz J1 := fun k hk j hj => by rw [f1 _ (by omega) (by omega)]; exact hS.2.2 k hk j hj
  have hFt : ∀ j, 0 ≤ j → j < 5 → i32 (J1 (t + 6) j) := fun j j0 j5 => by rw [f1 _ (by omega) (by omega)]; exact htk.2.2.2.2.2.2 j j0 j5
  have hB := stB_of hS hP
  have wk : ∀ x, [1, 2, 3, 4, 5, 6, 10].contains (T x).1 = true → J1 x = J x := by
    intro x tg
    obtain ⟨x1, x2, x3, x4, x5, x6⟩ := wkx hM hr htc tg
    refine f1 x (by omega) (fun q => ?_)
    rw [hz0 x q.1] at tg
    exact absurd tg (by decide)
  have rows : ∀ a, (102 ≤ a ∧ a ≤ 104) ∨ a = 107 ∨ (115 ≤ a ∧ a ≤ 118) → J1 a = J a := fun a ha => f1 a (by omega) (by omega)
  have hqn : qW (T7 z T) R' 106 := qW_x hq1 tE7 (fun k => ro 106 k (by omega) (by omega))
  have base : ∀ {t' : Nat} {cs' : List CL}, stB (T7 z T) R' J1 101 t' cs' (nmI G 194) → oR (tokL cs') (nmI G 194) → oW (nmI G 194) → okC gI (d + 100) 65 125 [] T J L R z w := by
    intro t' cs' q1 q2 q3
    obtain ⟨c1, c2⟩ := fin2 (z' := z + 7) h tE7 hE (fun k => ro 124 k (by omega) (by omega)) (ro 119 4 (by omega) (by omega)) hqn (by omega) (fun b hb => (T7_o (b := b) (by omega)).trans (hz0 b (by omega))) htc htp (fun b b0 b1 b2 b3 b4 b5 => f1 b (by omega) (by omega)) (fun b hb j => by rw [f1 b (by omega) (by omega)]; exact hJ0 b (by omega) j) (by rw [f1 100 (by omega) (by omega)]) hFt (f1 137 (by omega) (by omega)) (f1 138 (by omega) (by omega)) q1 c105 ccz q2 q3 hfG rjG rfl
    exact ⟨_, _, _, _, _, _, _, _, _, _, _, _, _, run1, run2, c1, c2, tE7, by omega, by omega, ⟨_, rfl⟩, tE7, f1 0 (by omega) (by omega)⟩
  have rg194 := hJ.1 194
  by_cases cok : townOk (fun j => J 194 (30 + j)) (J 194 19)
  · -- it is a town, and holds
    obtain ⟨o1, o2⟩ := id cok
    cases hcs : (tnP (fun j => J 194 (30 + j)) (J 194 19)).2 with
    | none => exfalso; unfold tw at o1; rw [hcs] at o1; exact absurd o1 (by decide)
    | some cs' =>
      have hSo := okS cok cs' hcs
      obtain ⟨k1, k2⟩ := kk cs' hcs o2
      obtain ⟨g1, g2, g3, g4, g5, g6, g7, g8⟩ := id k1
      have hn10 := tnP_n hcs
      have hlen := tokL_n cs' 0 0 g3
      have lk := loR_k J1 z cs' 0 0 g3
      obtain ⟨F, hF⟩ : ∃ F, F = cs'.foldl (clS (J 194 16)) (beS (J 194 16) (J 194)) := ⟨_, rfl⟩
      have b235 : beS (J 194 16) (J 194) (235 + J 194 16) = (([] : List Int).length : Int) := by unfold beS; rw [up_r]; rfl
      have hfold := fold_cl ha cs' [] (beS (J 194 16) (J 194)) g1 b235 trivial (by rw [List.nil_append]; omega)
      rw [List.nil_append, ← hF] at hfold
      obtain ⟨q1, q2, q3, q4, q5, q6⟩ := hfold
      have b220 : beS (J 194 16) (J 194) (220 + J 194 16) = 9 := by unfold beS; simp (disch := omega) only [up_o, up_r]
      have b225 : beS (J 194 16) (J 194) (225 + J 194 16) = 1 := by unfold beS; simp (disch := omega) only [up_o, up_r]
      have b230 : beS (J 194 16) (J 194) (230 + J 194 16) = 2 := by unfold beS; simp (disch := omega) only [up_o, up_r]
      rw [b220] at q3
      rw [b225] at q4
      rw [b230] at q5
      rw [← hF] at hSo
      have l1 := lsW_r (k := 1) (v := 0) cs' 9 g1 (by omega)
      have l2 := lsW_r (k := 2) (v := 0) cs' 1 g1 (by omega)
      have l4 := lsW_r (k := 4) (v := 0) cs' 2 g1 (by omega)
      have so : ∀ j, ¬ j = 16 → ¬ j = 20 → S' j = F j := fun j h1 h2 => by rw [hSo, up_o h2, up_o h1]
      have v16 : nmI G 194 16 = J 194 16 + 1 := sv 16 _ (by rw [hSo, up_o (by omega), up_r]) (by omega)
      have v20 : nmI G 194 20 = J 194 16 := sv 20 _ (by rw [hSo, up_r]) (by omega)
      have v235 : nmI G 194 (235 + J 194 16) = ((tokL cs').length : Int) := sv _ _ ((so _ (by omega) (by omega)).trans q1) (by omega)
      have v220 : nmI G 194 (220 + J 194 16) = lsW 1 cs' 9 := sv _ _ ((so _ (by omega) (by omega)).trans q3) (by omega)
      have v225 : nmI G 194 (225 + J 194 16) = lsW 2 cs' 1 := sv _ _ ((so _ (by omega) (by omega)).trans q4) (by omega)
      have v230 : nmI G 194 (230 + J 194 16) = lsW 4 cs' 2 := sv _ _ ((so _ (by omega) (by omega)).trans q5) (by omega)
      have vo : ∀ j, ¬ j = 16 → ¬ j = 20 → ¬ j = 19 → j < 220 → nmI G 194 j = J 194 j := fun j h1 h2 h3 h4 => sv j _ ((so j h1 h2).trans ((q6 j (by omega) (by omega) (by omega) (by omega) (by omega)).trans (beS_o ha h3 (by omega) (by omega) (by omega) (by omega)))) (rg194 j)
      have v19 : nmI G 194 19 = 0 := by
        refine sv 19 _ ((so 19 (by omega) (by omega)).trans ((q6 19 (by omega) (by omega) (by omega) (by omega) (by omega)).trans ?_)) (by omega)
        unfold beS; simp (disch := omega) only [up_o, up_r]
      have tl0 : tlS (nmI G 194) 220 9 = lsW 1 cs' 9 := by unfold tlS; rw [v20, if_neg (by omega)]; exact v220
      have tl1 : tlS (nmI G 194) 225 1 = lsW 2 cs' 1 := by unfold tlS; rw [v20, if_neg (by omega)]; exact v225
      have tl2 : tlS (nmI G 194) 230 2 = lsW 4 cs' 2 := by unfold tlS; rw [v20, if_neg (by omega)]; exact v230
      have j101 : J1 101 = up (up (J 101) 5 (J 194 16 + 1)) 7 0 := by rw [f2]; unfold toS; rw [if_pos o1, if_pos o2]
      have tkN : tk (T7 z T) R' J1 z cs' := ⟨tc7, g1, g2, g3, by omega, k2, g5⟩
      have lk9 : ((cs'.length : Nat) : Int) ≤ 10 := by omega
      refine base (t' := z) (cs' := cs') (stB_w hB tE7 (fun k => ro 106 k (by omega) (by omega)) wk rows hw h15 (fun j hj => vo j (by omega) (by omega) (by omega) (by omega)) v19 (fun j hj => by rw [j101, up_o (by omega), up_o (by omega)]) (by rw [j101, up_o (by omega), up_r, v16]) (by rw [j101, up_r]) tkN (by rw [r4, if_pos o1, if_pos o2]) ⟨by rw [tl0]; exact g6, by rw [tl1]; exact g7, by rw [tl2]; exact g8⟩ (Or.inr (Or.inr hz5))) ?_ ?_
      · refine ⟨oS_e ho.1 (fun j hj => vo j (by omega) (by omega) (by omega) (by omega)), Or.inr ⟨by rw [v20]; omega, by rw [v20]; omega, by rw [v20]; exact v235, ?_, by omega⟩, lk_wf cs' g1, ⟨by rw [v20]; omega, by rw [tl0]; exact l1, by rw [tl1]; exact l2, by rw [tl2]; exact l4⟩, tB_e ho.2.2.2.2.1 (fun j hj => vo j (by omega) (by omega) (by omega) (by omega)), by rw [vo 10 (by omega) (by omega) (by omega) (by omega)]; exact ho.2.2.2.2.2⟩
        rw [v20]
        refine seg_nm _ _ (tok_r cs' g1) ?_
        rw [g194]
        exact seg_e _ _ (fun j j0 j1 => so j (by omega) (by omega)) q2
      · exact oW_t hw h15 (fun j hj => vo j (by omega) (by omega) (by omega) (by omega)) v19 (by rw [v16]; omega) (by rw [v16, v20]; omega)
  · have hno := noS cok
    have vo : ∀ j, ¬ j = 19 → ¬ j = 220 + J 194 16 → ¬ j = 225 + J 194 16 → ¬ j = 230 + J 194 16 → ¬ j = 235 + J 194 16 → (j < 240 + 140 * J 194 16 ∨ 380 + 140 * J 194 16 ≤ j) → nmI G 194 j = J 194 j := fun j h0 h1 h2 h3 h4 h5 => sv j _ ((hno j h1 h2 h3 h4 h5).trans (beS_o ha h0 h1 h2 h3 h4)) (rg194 j)
    have v19 : nmI G 194 19 = 0 := by
      refine sv 19 _ ((hno 19 (by omega) (by omega) (by omega) (by omega) (by omega)).trans ?_) (by omega)
      unfold beS; simp (disch := omega) only [up_o, up_r]
    have vlo : ∀ j, ¬ j = 19 → j < 220 → nmI G 194 j = J 194 j := fun j h0 h1 => vo j h0 (by omega) (by omega) (by omega) (by omega) (by omega)
    obtain ⟨oo, tl⟩ := oR_t ho ha (by omega) vo
    have j101 : J1 101 = up (J 101) 7 0 := by
      rw [f2]; unfold toS
      split
      · rename_i q1
        rw [if_neg (fun q2 => cok ⟨q1, q2⟩)]
      · rfl
    have r4' : R' 101 4 = R 101 4 := by
      rw [r4]
      split
      · rename_i q1
        rw [if_neg (fun q2 => cok ⟨q1, q2⟩)]
      · rfl
    obtain ⟨g1, g2, g3, ⟨g4, g5, g6⟩, g7, ⟨n1, n2, n3, n4⟩, ⟨g8, p1, p2, p3, p4⟩, _⟩ := id hB
    obtain ⟨h1, h2, h3, h4, h5, h6, h7⟩ := id htk
    have ht : ∀ a, t ≤ a → a ≤ t + 6 → J1 a = J a := fun a a1 a2 => f1 a (by omega) (by omega)
    have et := ht t (by omega) (by omega)
    have tkN : tk (T7 z T) R' J1 t cs := ⟨tc_x h1 tE7 hE htp, h2, fun hh s a1 a2 a3 a4 => by rw [ht _ (by omega) (by omega)]; exact h3 hh s a1 a2 a3 a4, loR_x et (ht _ (by omega) (by omega)) (ht _ (by omega) (by omega)) (ht _ (by omega) (by omega)) (ht _ (by omega) (by omega)) cs 0 0 h4, by rw [et]; exact h5, by rw [et]; exact h6, hFt⟩
    refine base (t' := t) (cs' := cs) (stB_w hB tE7 (fun k => ro 106 k (by omega) (by omega)) wk rows hw h15 (fun j hj => vlo j (by omega) (by omega)) v19 (fun j hj => by rw [j101, up_o (by omega)]) (by rw [j101, up_o (by omega), vlo 16 (by omega) (by omega)]; exact p1) (by rw [j101, up_r]) tkN (by rw [r4']; exact g2) ⟨by rw [et, tl _ _ (by omega)]; exact g4, by rw [et, tl _ _ (by omega)]; exact g5, by rw [et, tl _ _ (by omega)]; exact g6⟩ htp) oo ?_
    exact oW_t hw h15 (fun j hj => vlo j (by omega) (by omega)) v19 (by rw [vlo 16 (by omega) (by omega)]; exact w1) (by rw [vlo 16 (by omega) (by omega), vlo 20 (by omega) (by omega)]; exact w8)
end UH
