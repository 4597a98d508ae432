/-! both sides: questions -/
section UC
variable {d : Nat} {T T' : Nat → Nat × Nat} {L : Nat → Nat → Int64} {R R' : Nat → Nat → Option Nat} {z z' w : Nat} {J J1 J2 J3 Q : mR} {t t' : Nat} {S S' : Int → Int} {cs cs' : List CL}
theorem nm_self (hJ : rg J) : nmI J = J := by funext b; exact nm_row hJ rfl
/-- what a call of the reference changes (but act's, image's) -/
def fG (J J' : mR) : Prop := (∀ b, ¬ (b = 193 ∨ b = 194 ∨ (196 ≤ b ∧ b ≤ 203)) → J' b = J b) ∧ J' 193 3 = J 193 3 ∧ J' 193 22 = J 193 22
theorem fE.g (h : fE J J1) : fG J J1 := ⟨fun b hb => h.1 b (by omega) (by omega) (by omega) (by omega) (by omega) (by omega) (by omega) (by omega) (by omega), h.2 3 (by omega) (by omega), h.2 22 (by omega) (by omega)⟩
theorem fD.g (h : fD J J1) : fG J J1 := ⟨fun b hb => h.1 b (by omega) (by omega) (by omega) (by omega) (by omega) (by omega) (by omega) (by omega), h.2 3 (by omega) (by omega), h.2 22 (by omega) (by omega)⟩
theorem fG.s (V : Int → Int) : fG J (ur J 194 V) := ⟨fun b hb => ur_o (by omega), by rw [ur_o (by omega)], by rw [ur_o (by omega)]⟩
theorem fG.i : fG J J := ⟨fun _ _ => rfl, rfl, rfl⟩
theorem fin2 (h : clR T R J z) (hT : tE T T') (hR : rE T R R') (hR5 : ∀ k, R' 124 k = R 124 k) (hR4 : R' 119 4 = R 119 4) (hq : qW T' R' 106) (hz : z ≤ z') (hTz : ∀ b, z' ≤ b → T' b = (0, 0)) (htc : tc T R t) (htp : tpl t) (f : fK z t J J1) (hfz : ∀ b, z' ≤ b → ∀ j, J1 b j = 0) (f2 : J1 100 2 = J 100 2) (hF : ∀ j, 0 ≤ j → j < 5 → i32 (J1 (t + 6) j)) (e7 : J1 137 = J 137) (e8 : J1 138 = J 138) (hs : stB T' R' J1 101 t' cs' S') (h5 : ∀ j, 0 ≤ j ∧ j < 4 → J1 105 j = 0) (hcz : cz J1) (ho : oR (tokL cs') S') (hw : oW S') (g : fG (nmI J1) J3) (r2 : rJ J3) (r3 : J3 194 = S') : clR T' R' J3 z' ∧ ∀ b, b < 100 → J3 b = J b := by
  obtain ⟨hM, hr, hsk, hJ, hz5, hz0, hJ0, _, _, hq2, ⟨s1, s2⟩, hk, ⟨t1, t2, t3⟩⟩ := id h
  unfold tpl at htp
  have c193 : nmI J1 193 = J 193 := nm_row hJ.1 (f 193 (by omega) (by omega) (by omega) (by omega) (by omega) (by omega))
  have c195 : nmI J1 195 = J 195 := nm_row hJ.1 (f 195 (by omega) (by omega) (by omega) (by omega) (by omega) (by omega))
  have c204 : nmI J1 204 = J 204 := nm_row hJ.1 (f 204 (by omega) (by omega) (by omega) (by omega) (by omega) (by omega))
  refine fin h hT hR hR5 hR4 hq hz hTz htc htp f hfz f2 hF hs h5 hcz ho hw (fun b hb => g.1 b (by omega)) r2 r3 ((g.1 195 (by omega)).trans c195) (by rw [g.2.1, c193]) ⟨by rw [g.2.2, c193, e7]; exact t1.symm, by rw [e7, t1]; exact t2⟩ (fun j j0 j1 => ?_)
  rw [g.1 204 (by omega), c204, e8]
  exact ⟨(t3 j j0 j1).symm, hJ.1 138 j⟩
theorem rJ_nm (hJ : rJ J) (e : J1 198 = J 198) : rJ (nmI J1) := ⟨nmI_rg, fun j => by rw [nm_row hJ.1 e]; exact hJ.2 j⟩
theorem finQ (h : clR T R J z) (hS : cS T R J t cs (J 194)) (hP : cPl J (J 194)) (ho : oR (tokL cs) (J 194)) (hw : oW (J 194)) (f1 : ∀ b, ¬ b = 100 → ¬ (141 ≤ b ∧ b ≤ 192) → ¬ b = t + 6 → J1 b = J b) (f2 : J1 100 2 = J 100 2) (hF : ∀ j, 0 ≤ j → j < 5 → i32 (J1 (t + 6) j)) (hcz : cz J1) (g : fG (nmI J1) J3) (r2 : rJ J3) (r3 : J3 194 = J 194) : clR T R J3 z ∧ ∀ b, b < 100 → J3 b = J b := by
  obtain ⟨hM, hr, hsk, hJ, hz5, hz0, hJ0, _, hq1, hq2, ⟨s1, s2⟩, hk, ⟨t1, t2, t3⟩⟩ := id h
  have htp := hS.1.2.2.2.2.2.2
  have htp2 := htp
  unfold tpl at htp2
  have htc := hS.1.1.1
  have tz : t + 6 < z := by
    rcases Nat.lt_or_ge (t + 6) z with q | q
    · exact q
    · have c7 : T (t + 6) = (20, 5) := htc.2.2.2.2.2.2.1
      rw [hz0 _ q] at c7
      exact absurd c7 (by decide)
  refine fin2 h tE.i (fun _ _ _ _ _ _ _ => rfl) (fun _ => rfl) rfl hq1 (Nat.le_refl _) hz0 htc htp (fun b _ b1 _ _ b4 b5 => f1 b (by omega) b4 b5) (fun b hb j => ?_) f2 hF (f1 137 (by omega) (by omega) (by omega)) (f1 138 (by omega) (by omega) (by omega)) (stB_x (stB_of hS hP) tE.i (fun _ => rfl) rfl (fun _ => rfl) (fun a a1 a2 => f1 a (by omega) (by omega) (by omega)) hF (fun x tg => ?_) (fun a ha => f1 a (by omega) (by omega) (by omega))) (fun j hj => ?_) hcz ho hw g r2 r3
  · rw [f1 b (by omega) (by omega) (by omega)]; exact hJ0 b hb j
  · obtain ⟨x1, x2, x3, x4, x5, x6⟩ := wkx hM hr htc tg
    exact f1 x (by omega) x4 x5
  · rw [f1 105 (by omega) (by omega) (by omega)]; exact hS.2.1.2.2.2.2 j hj
def gI (v : Value) : Prop := ∃ x : Int32, v = .int x
def gL (v : Value) : Prop := ∃ x : Int64, v = .long x
/-- a call of both, with the same answer -/
def okC (g : Value → Prop) (D yc yr : Nat) (as : List Value) (T : Nat → Nat × Nat) (J : mR) (L : Nat → Nat → Int64) (R : Nat → Nat → Option Nat) (z w : Nat) : Prop :=
  ∃ (v : Value) (T1 : Nat → Nat × Nat) (J1 : mR) (L1 : Nat → Nat → Int64) (R1 : Nat → Nat → Option Nat) (z1 w1 : Nat) (T' : Nat → Nat × Nat) (J' : mR) (L' : Nat → Nat → Int64) (R' : Nat → Nat → Option Nat) (z' w' : Nat), rn_c D yc (.ref 100 :: as) (T, oI J, L, R, z, w) = some (some v, (T1, oI J1, L1, R1, z1, w1)) ∧ rn_c D yr (.ref 193 :: as) (T1, oI J1, L1, R1, z1, w1) = some (some v, (T', oI J', L', R', z', w')) ∧ clR T' R' J' z' ∧ (∀ b, b < 100 → J' b = J b) ∧ tE T T' ∧ z' ≤ z + 7 ∧ w' ≤ w + 250 ∧ g v ∧ tE T T1 ∧ J1 0 = J 0
theorem oL_x (L : Nat → Nat → Int64) : ∃ Q, L = oL Q := by
  refine ⟨fun b j => (L b j.toNat).toInt, ?_⟩
  funext b j
  unfold oL
  show L b j = jI ((L b ((j : Int).toNat)).toInt)
  show L b j = jI ((L b ((j : Int).toNat)).toInt)
  show L b j = jI ((L b ((j : Int).toNat)).toInt)
  rw [Int.toNat_natCast]
  exact (Int64.ofInt_toInt _).symm
theorem qF.q (f : qF t J J1) : (∀ b, ¬ b = 100 → ¬ (141 ≤ b ∧ b ≤ 192) → ¬ b = t + 6 → J1 b = J b) ∧ (∀ j, 0 ≤ j → j < 5 → i32 (J1 (t + 6) j)) ∧ cz J1 := ⟨fun b _ b1 b2 => f.1 b b1 b2, f.2⟩
theorem q100 (h : tpl t) (f : qF t J J1) : J1 100 2 = J 100 2 := by unfold tpl at h; rw [f.1 100 (by omega) (by omega)]
theorem k_mean (h : clR T R J z) (n : Int) (what : Int) (part : Int) (hn : i32 n) (hwhat : i32 what) (hpart : i32 part) : okC gL (d + 100) 73 148 [.int (iI n), .int (iI what), .int (iI part)] T J L R z w := by
  obtain ⟨hM, hr, hsk, hJ, hz5, hz0, hJ0, ⟨t, cs, hS, hP, ho, hw⟩, _⟩ := id h
  obtain ⟨Q, rfl⟩ := oL_x L
  have htp := hS.1.2.2.2.2.2.2
  obtain ⟨J1, Q1, run1, f, _⟩ := c_mean (d := d + 80) (Q := Q) (z := z) (w := w) hM ho hS n what part hn hwhat hpart
  have fq := f.q
  have e4 : nmI J1 194 = J 194 := by unfold tpl at htp; exact nm_row hJ.1 (fq.1 194 (by omega) (by omega) (by omega))
  have e8 : J1 198 = J 198 := by unfold tpl at htp; exact fq.1 198 (by omega) (by omega) (by omega)
  obtain ⟨J3, Q3, run2, j3, fd, j4, _⟩ := n_mean (d := d + 80) (J := nmI J1) (Q := Q1) (z := z) (w := w) hr (tokL cs) n what part hn hwhat hpart (rJ_nm hJ e8) (by rw [e4]; exact ho)
  rw [e4] at run2 j4
  rw [nmI_o] at run2
  obtain ⟨c1, c2⟩ := finQ h hS hP ho hw fq.1 (q100 htp f) fq.2.1 fq.2.2 fd.g j3 j4
  exact ⟨_, _, _, _, _, _, _, _, _, _, _, _, _, run1, run2, c1, c2, tE.i, by omega, by omega, ⟨_, rfl⟩, tE.i, by unfold tpl at htp; exact fq.1 0 (by omega) (by omega) (by omega)⟩
theorem k_least (h : clR T R J z) (n : Int) (b : Int) (hn : i32 n) (hb : i32 b) : okC gI (d + 100) 74 151 [.int (iI n), .int (iI b)] T J L R z w := by
  obtain ⟨hM, hr, hsk, hJ, hz5, hz0, hJ0, ⟨t, cs, hS, hP, ho, hw⟩, _⟩ := id h
  obtain ⟨Q, rfl⟩ := oL_x L
  have htp := hS.1.2.2.2.2.2.2
  obtain ⟨J1, Q1, run1, f, _⟩ := c_least (d := d + 80) (Q := Q) (z := z) (w := w) hM ho hS n b hn hb
  have fq := f.q
  have e4 : nmI J1 194 = J 194 := by unfold tpl at htp; exact nm_row hJ.1 (fq.1 194 (by omega) (by omega) (by omega))
  have e8 : J1 198 = J 198 := by unfold tpl at htp; exact fq.1 198 (by omega) (by omega) (by omega)
  obtain ⟨J3, Q3, run2, j3, fd, j4, _⟩ := n_least (d := d + 80) (J := nmI J1) (Q := Q1) (z := z) (w := w) hr (tokL cs) n b hn hb (rJ_nm hJ e8) (by rw [e4]; exact ho)
  rw [e4] at run2 j4
  rw [nmI_o] at run2
  obtain ⟨c1, c2⟩ := finQ h hS hP ho hw fq.1 (q100 htp f) fq.2.1 fq.2.2 fd.g j3 j4
  exact ⟨_, _, _, _, _, _, _, _, _, _, _, _, _, run1, run2, c1, c2, tE.i, by omega, by omega, ⟨_, rfl⟩, tE.i, by unfold tpl at htp; exact fq.1 0 (by omega) (by omega) (by omega)⟩
theorem k_start (h : clR T R J z) (n : Int) (k : Int) (hn : i32 n) (hk : i32 k) : okC gI (d + 100) 75 152 [.int (iI n), .int (iI k)] T J L R z w := by
  obtain ⟨hM, hr, hsk, hJ, hz5, hz0, hJ0, ⟨t, cs, hS, hP, ho, hw⟩, _⟩ := id h
  obtain ⟨Q, rfl⟩ := oL_x L
  have htp := hS.1.2.2.2.2.2.2
  obtain ⟨J1, Q1, run1, f, _⟩ := c_start (d := d + 80) (Q := Q) (z := z) (w := w) hM ho hS n k hn hk
  have fq := f.q
  have e4 : nmI J1 194 = J 194 := by unfold tpl at htp; exact nm_row hJ.1 (fq.1 194 (by omega) (by omega) (by omega))
  have e8 : J1 198 = J 198 := by unfold tpl at htp; exact fq.1 198 (by omega) (by omega) (by omega)
  obtain ⟨J3, Q3, run2, j3, fd, j4, _⟩ := n_start (d := d + 80) (J := nmI J1) (Q := Q1) (z := z) (w := w) hr (tokL cs) n k hn hk (rJ_nm hJ e8) (by rw [e4]; exact ho)
  rw [e4] at run2 j4
  rw [nmI_o] at run2
  obtain ⟨c1, c2⟩ := finQ h hS hP ho hw fq.1 (q100 htp f) fq.2.1 fq.2.2 fd.g j3 j4
  exact ⟨_, _, _, _, _, _, _, _, _, _, _, _, _, run1, run2, c1, c2, tE.i, by omega, by omega, ⟨_, rfl⟩, tE.i, by unfold tpl at htp; exact fq.1 0 (by omega) (by omega) (by omega)⟩
theorem k_rule (h : clR T R J z) (p : Int) (n : Int) (hp : i32 p) (hn : i32 n) : okC gI (d + 100) 76 153 [.int (iI p), .int (iI n)] T J L R z w := by
  obtain ⟨hM, hr, hsk, hJ, hz5, hz0, hJ0, ⟨t, cs, hS, hP, ho, hw⟩, _⟩ := id h
  obtain ⟨Q, rfl⟩ := oL_x L
  have htp := hS.1.2.2.2.2.2.2
  obtain ⟨J1, Q1, run1, f, _⟩ := c_rule (d := d + 79) (Q := Q) (z := z) (w := w) hM ho hS p n hp hn
  have fq := f.q
  have e4 : nmI J1 194 = J 194 := by unfold tpl at htp; exact nm_row hJ.1 (fq.1 194 (by omega) (by omega) (by omega))
  have e8 : J1 198 = J 198 := by unfold tpl at htp; exact fq.1 198 (by omega) (by omega) (by omega)
  obtain ⟨J3, Q3, run2, j3, fd, j4, _⟩ := n_rule (d := d + 80) (J := nmI J1) (Q := Q1) (z := z) (w := w) hr (tokL cs) p n hp hn (rJ_nm hJ e8) (by rw [e4]; exact ho)
  rw [e4] at run2 j4
  rw [nmI_o] at run2
  obtain ⟨c1, c2⟩ := finQ h hS hP ho hw fq.1 (q100 htp f) fq.2.1 fq.2.2 fd.g j3 j4
  exact ⟨_, _, _, _, _, _, _, _, _, _, _, _, _, run1, run2, c1, c2, tE.i, by omega, by omega, ⟨_, rfl⟩, tE.i, by unfold tpl at htp; exact fq.1 0 (by omega) (by omega) (by omega)⟩
theorem k_gather (h : clR T R J z) (n : Int) (hn : i32 n) : okC gI (d + 100) 77 154 [.int (iI n)] T J L R z w := by
  obtain ⟨hM, hr, hsk, hJ, hz5, hz0, hJ0, ⟨t, cs, hS, hP, ho, hw⟩, _⟩ := id h
  obtain ⟨Q, rfl⟩ := oL_x L
  have htp := hS.1.2.2.2.2.2.2
  obtain ⟨J1, Q1, run1, f, _⟩ := c_gather (d := d + 80) (Q := Q) (z := z) (w := w) hM ho hS n hn
  have fq := f.q
  have e4 : nmI J1 194 = J 194 := by unfold tpl at htp; exact nm_row hJ.1 (fq.1 194 (by omega) (by omega) (by omega))
  have e8 : J1 198 = J 198 := by unfold tpl at htp; exact fq.1 198 (by omega) (by omega) (by omega)
  obtain ⟨J3, Q3, run2, j3, fd, j4, _⟩ := n_gather (d := d + 80) (J := nmI J1) (Q := Q1) (z := z) (w := w) hr (tokL cs) n hn (rJ_nm hJ e8) (by rw [e4]; exact ho)
  rw [e4] at run2 j4
  rw [nmI_o] at run2
  obtain ⟨c1, c2⟩ := finQ h hS hP ho hw fq.1 (q100 htp f) fq.2.1 fq.2.2 fd.g j3 j4
  exact ⟨_, _, _, _, _, _, _, _, _, _, _, _, _, run1, run2, c1, c2, tE.i, by omega, by omega, ⟨_, rfl⟩, tE.i, by unfold tpl at htp; exact fq.1 0 (by omega) (by omega) (by omega)⟩
theorem k_hand (h : clR T R J z) (n : Int) (x : Int) (hn : i32 n) (hx : i32 x) : okC gI (d + 100) 72 142 [.int (iI n), .int (iI x)] T J L R z w := by
  obtain ⟨hM, hr, hsk, hJ, hz5, hz0, hJ0, ⟨t, cs, hS, hP, ho, hw⟩, _⟩ := id h
  obtain ⟨Q, rfl⟩ := oL_x L
  have htp := hS.1.2.2.2.2.2.2
  obtain ⟨J1, Q1, run1, f, _⟩ := c_hand (d := d + 80) (Q := Q) (z := z) (w := w) hM ho hS hP hw.2.1 hw.2.2.2.2.1 n x hn hx
  have fq := f.q
  have e4 : nmI J1 194 = J 194 := by unfold tpl at htp; exact nm_row hJ.1 (fq.1 194 (by omega) (by omega) (by omega))
  have e8 : J1 198 = J 198 := by unfold tpl at htp; exact fq.1 198 (by omega) (by omega) (by omega)
  obtain ⟨J3, run2, j3, fd, j4⟩ := n_hand (d := d + 80) (J := nmI J1) (L := oL Q1) (z := z) (w := w) hr (tokL cs) (rJ_nm hJ e8) (by rw [e4]; exact ho) (by rw [e4]; exact hw.2.1) (by rw [e4]; exact hw.2.2.2.2.1) n x hn hx
  rw [e4] at run2 j4
  rw [nmI_o] at run2
  obtain ⟨c1, c2⟩ := finQ h hS hP ho hw fq.1 (q100 htp f) fq.2.1 fq.2.2 fd.g j3 j4
  exact ⟨_, _, _, _, _, _, _, _, _, _, _, _, _, run1, run2, c1, c2, tE.i, by omega, by omega, ⟨_, rfl⟩, tE.i, by unfold tpl at htp; exact fq.1 0 (by omega) (by omega) (by omega)⟩
theorem qGq (f : qG t J J1) : (∀ b, ¬ b = 100 → ¬ (141 ≤ b ∧ b ≤ 192) → ¬ b = t + 6 → J1 b = J b) ∧ (∀ j, 0 ≤ j → j < 5 → i32 (J1 (t + 6) j)) ∧ cz J1 := ⟨f.1, f.2.2⟩
theorem qG100 (f : qG t J J1) : J1 100 2 = J 100 2 := f.2.1 2 (by omega)
theorem k_needed (h : clR T R J z)   : okC gI (d + 100) 80 159 [] T J L R z w := by
  obtain ⟨hM, hr, hsk, hJ, hz5, hz0, hJ0, ⟨t, cs, hS, hP, ho, hw⟩, _⟩ := id h
  obtain ⟨Q, rfl⟩ := oL_x L
  have htp := hS.1.2.2.2.2.2.2
  obtain ⟨J1, Q1, run1, f, _⟩ := c_needed (d := d + 70) (Q := Q) (z := z) (w := w) hM ho hS hP hw.2.1 hw.2.2.2.2.1
  have fq := qGq f
  have e4 : nmI J1 194 = J 194 := by unfold tpl at htp; exact nm_row hJ.1 (fq.1 194 (by omega) (by omega) (by omega))
  have e8 : J1 198 = J 198 := by unfold tpl at htp; exact fq.1 198 (by omega) (by omega) (by omega)
  obtain ⟨J3, run2, j3, fd, j4⟩ := n_needed (d := d + 93) (J := nmI J1) (L := oL Q1) (z := z) (w := w) hr (tokL cs) (rJ_nm hJ e8) (by rw [e4]; exact ho) (by rw [e4]; exact hw.2.1) (by rw [e4]; exact hw.2.2.2.2.1)
  rw [e4] at run2 j4
  rw [nmI_o] at run2
  obtain ⟨c1, c2⟩ := finQ h hS hP ho hw fq.1 (qG100 f) fq.2.1 fq.2.2 fd.g j3 j4
  exact ⟨_, _, _, _, _, _, _, _, _, _, _, _, _, run1, run2, c1, c2, tE.i, by omega, by omega, ⟨_, rfl⟩, tE.i, by unfold tpl at htp; exact fq.1 0 (by omega) (by omega) (by omega)⟩
theorem k_told (h : clR T R J z) (x : Int) (hx : i32 x) : okC gI (d + 100) 66 129 [.int (iI x)] T J L R z w := by
  obtain ⟨hM, hr, hsk, hJ, hz5, hz0, hJ0, ⟨t, cs, hS, hP, ho, hw⟩, _, _, _, _, ⟨t1, t2, t3⟩⟩ := id h
  have run1 := c_told (d := d + 80) (L := L) (z := z) (w := w) hM ho hS x hx
  have hF := hS.1.1.2.2.2.2.2.2
  obtain ⟨J3, run2, j3, fd, j4⟩ := n_told (d := d + 80) (L := L) (z := z) (w := w) hr (tokL cs) hJ ho x hx
  obtain ⟨c1, c2⟩ := finQ (J1 := J) h hS hP ho hw (fun _ _ _ _ => rfl) rfl hF hS.2.2 (by rw [nm_self hJ.1]; exact fd.g) j3 j4
  exact ⟨_, _, _, _, _, _, _, _, _, _, _, _, _, run1, run2, c1, c2, tE.i, by omega, by omega, ⟨_, rfl⟩, tE.i, rfl⟩
theorem k_of (h : clR T R J z) (p : Int) (x : Int) (hp : i32 p) (hx : i32 x) : okC gI (d + 100) 69 135 [.int (iI p), .int (iI x)] T J L R z w := by
  obtain ⟨hM, hr, hsk, hJ, hz5, hz0, hJ0, ⟨t, cs, hS, hP, ho, hw⟩, _, _, _, _, ⟨t1, t2, t3⟩⟩ := id h
  have run1 := c_of (d := d + 80) (L := L) (z := z) (w := w) hM ho hS p x hp hx
  have hF := hS.1.1.2.2.2.2.2.2
  obtain ⟨J3, run2, j3, fd, j4⟩ := n_of (d := d + 80) (L := L) (z := z) (w := w) hr (tokL cs) hJ ho p x hp hx
  obtain ⟨c1, c2⟩ := finQ (J1 := J) h hS hP ho hw (fun _ _ _ _ => rfl) rfl hF hS.2.2 (by rw [nm_self hJ.1]; exact fd.g) j3 j4
  exact ⟨_, _, _, _, _, _, _, _, _, _, _, _, _, run1, run2, c1, c2, tE.i, by omega, by omega, ⟨_, rfl⟩, tE.i, rfl⟩
theorem k_as (h : clR T R J z) (p : Int) (x : Int) (hp : i32 p) (hx : i32 x) : okC gI (d + 100) 85 173 [.int (iI p), .int (iI x)] T J L R z w := by
  obtain ⟨hM, hr, hsk, hJ, hz5, hz0, hJ0, ⟨t, cs, hS, hP, ho, hw⟩, _, _, _, _, ⟨t1, t2, t3⟩⟩ := id h
  have run1 := c_as (d := d + 80) (L := L) (z := z) (w := w) hM ho hS p x hp hx
  have hF := hS.1.1.2.2.2.2.2.2
  have run2 := n_as (d := d + 98) (L := L) (z := z) (w := w) hr hJ.1 ho.1.2.2.2.2 p x hp hx
  exact ⟨_, _, _, _, _, _, _, _, _, _, _, _, _, run1, run2, h, fun _ _ => rfl, tE.i, by omega, by omega, ⟨_, rfl⟩, tE.i, rfl⟩
theorem k_count (h : clR T R J z) (x : Int) (hx : i32 x) : okC gI (d + 100) 88 176 [.int (iI x)] T J L R z w := by
  obtain ⟨hM, hr, hsk, hJ, hz5, hz0, hJ0, ⟨t, cs, hS, hP, ho, hw⟩, _, _, _, _, ⟨t1, t2, t3⟩⟩ := id h
  have run1 := c_count (d := d + 80) (L := L) (z := z) (w := w) hM hS hP x hx
  have hF := hS.1.1.2.2.2.2.2.2
  have run2 := n_count (d := d + 98) (L := L) (z := z) (w := w) hr hJ.1 x hx
  rw [t1] at run1
  exact ⟨_, _, _, _, _, _, _, _, _, _, _, _, _, run1, run2, h, fun _ _ => rfl, tE.i, by omega, by omega, ⟨_, rfl⟩, tE.i, rfl⟩
theorem k_trace (h : clR T R J z) (x : Int) (hx : i32 x) : okC gI (d + 100) 84 172 [.int (iI x)] T J L R z w := by
  obtain ⟨hM, hr, hsk, hJ, hz5, hz0, hJ0, ⟨t, cs, hS, hP, ho, hw⟩, _, _, _, _, ⟨t1, t2, t3⟩⟩ := id h
  have run1 := c_trace (d := d + 80) (L := L) (z := z) (w := w) hM (J := J) (by rw [t1]; omega) x hx
  have hF := hS.1.1.2.2.2.2.2.2
  have run2 := n_trace (d := d + 98) (L := L) (z := z) (w := w) hr hJ.1 t2.1 x hx
  have ev : traceV (J 138) (J 137 1) x = traceV (J 204) (J 193 22) x := by
    unfold traceV
    rw [t1]
    split
    · rfl
    split
    · rfl
    split
    · rfl
    · exact t3 x (by omega) (by omega)
  rw [ev] at run1
  exact ⟨_, _, _, _, _, _, _, _, _, _, _, _, _, run1, run2, h, fun _ _ => rfl, tE.i, by omega, by omega, ⟨_, rfl⟩, tE.i, rfl⟩
theorem k_vanish (h : clR T R J z) (x : Int) (hx : i32 x) : okC gI (d + 100) 82 161 [.int (iI x)] T J L R z w := by
  obtain ⟨hM, hr, hsk, hJ, hz5, hz0, hJ0, ⟨t, cs, hS, hP, ho, hw⟩, _, _, _, _, ⟨t1, t2, t3⟩⟩ := id h
  have run1 := c_vanish (d := d + 98) (L := L) (z := z) (w := w) hM hw hP x hx
  have hF := hS.1.1.2.2.2.2.2.2
  have run2 := n_vanish (d := d + 98) (L := L) (z := z) (w := w) hr hJ.1 hw.2.2.1 hw.2.2.2.2.2.1 x hx
  exact ⟨_, _, _, _, _, _, _, _, _, _, _, _, _, run1, run2, h, fun _ _ => rfl, tE.i, by omega, by omega, ⟨_, rfl⟩, tE.i, rfl⟩
end UC
