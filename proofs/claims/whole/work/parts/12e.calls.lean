/-! both sides: the calls that change -/
section UE
variable {d : Nat} {T T' : Nat → Nat × Nat} {L : Nat → Nat → Int64} {R R' : Nat → Nat → Option Nat} {z z' w : Nat} {J J1 J2 J3 Q : mR} {t t' : Nat} {S S' : Int → Int} {cs cs' : List CL} {ts : List Int}
theorem k_stand (h : clR T R J z) (a : Int) (n : Int) (ha : i32 a) (hn : i32 n) : okC gI (d + 100) 63 110 [.int (iI a), .int (iI n)] T J L R z w := by
  obtain ⟨hM, hr, hsk, hJ, hz5, hz0, hJ0, ⟨t, cs, hS, hP, ho, hw⟩, _⟩ := id h
  have htp := hS.1.2.2.2.2.2.2
  obtain ⟨J1, run1, f, s1, p1⟩ := c_stand (d := d + 80) (L := L) (z := z) (w := w) hM ho hS hP a n ha hn
  obtain ⟨e4, e8⟩ := e194 hJ htp f
  have rj := rJ_nm hJ e8
  have run2 := n_stand (d := d + 98) (J := nmI J1) (L := L) (z := z) (w := w) hr rj.1 a n ha hn
  rw [e4, nmI_o] at run2
  obtain ⟨o1, o2, o3⟩ := stand_ok ho hw a n
  obtain ⟨c1, c2⟩ := finM h hS f s1 p1 o1 o2 (fG.s _) (rJ_s rj (o3 (hJ.1 194))) ur_r
  exact ⟨_, _, _, _, _, _, _, _, _, _, _, _, _, run1, run2, c1, c2, tE.i, by omega, by omega, ⟨_, rfl⟩, tE.i, f 0 (by omega) (by omega) (by omega) (by omega)⟩
theorem k_step (h : clR T R J z) (p : Int) (n : Int) (hp : i32 p) (hn : i32 n) : okC gI (d + 100) 68 131 [.int (iI p), .int (iI n)] T J L R z w := by
  obtain ⟨hM, hr, hsk, hJ, hz5, hz0, hJ0, ⟨t, cs, hS, hP, ho, hw⟩, _⟩ := id h
  have htp := hS.1.2.2.2.2.2.2
  obtain ⟨J1, run1, f, s1, p1⟩ := c_step (d := d + 80) (L := L) (z := z) (w := w) hM ho hw hS hP p n hp hn
  obtain ⟨e4, e8⟩ := e194 hJ htp f
  have rj := rJ_nm hJ e8
  have run2 := n_step (d := d + 98) (J := nmI J1) (L := L) (z := z) (w := w) hr rj.1 (by rw [e4]; exact ho.1.2.2.2.2) p n hp hn
  rw [e4, nmI_o] at run2
  obtain ⟨o1, o2, o3⟩ := step_ok ho hw p n
  obtain ⟨c1, c2⟩ := finM h hS f s1 p1 o1 o2 (fG.s _) (rJ_s rj (o3 (hJ.1 194))) ur_r
  exact ⟨_, _, _, _, _, _, _, _, _, _, _, _, _, run1, run2, c1, c2, tE.i, by omega, by omega, ⟨_, rfl⟩, tE.i, f 0 (by omega) (by omega) (by omega) (by omega)⟩
theorem k_row (h : clR T R J z) (s : Int) (hs : i32 s) : okC gI (d + 100) 71 141 [.int (iI s)] T J L R z w := by
  obtain ⟨hM, hr, hsk, hJ, hz5, hz0, hJ0, ⟨t, cs, hS, hP, ho, hw⟩, _⟩ := id h
  have htp := hS.1.2.2.2.2.2.2
  obtain ⟨J1, run1, f, s1, p1⟩ := c_row (d := d + 80) (L := L) (z := z) (w := w) hM ho hw hS hP s hs
  obtain ⟨e4, e8⟩ := e194 hJ htp f
  have rj := rJ_nm hJ e8
  have run2 := n_row (d := d + 98) (J := nmI J1) (L := L) (z := z) (w := w) hr rj.1 (by rw [e4]; exact hw.2.1) s hs
  rw [e4, nmI_o] at run2
  obtain ⟨o1, o2, o3⟩ := row_ok ho hw s
  obtain ⟨c1, c2⟩ := finM h hS f s1 p1 o1 o2 (fG.s _) (rJ_s rj (o3 (hJ.1 194))) ur_r
  exact ⟨_, _, _, _, _, _, _, _, _, _, _, _, _, run1, run2, c1, c2, tE.i, by omega, by omega, ⟨_, rfl⟩, tE.i, f 0 (by omega) (by omega) (by omega) (by omega)⟩
theorem k_book (h : clR T R J z) (a : Int) (n : Int) (ha : i32 a) (hn : i32 n) : okC gI (d + 100) 81 160 [.int (iI a), .int (iI n)] T J L R z w := by
  obtain ⟨hM, hr, hsk, hJ, hz5, hz0, hJ0, ⟨t, cs, hS, hP, ho, hw⟩, _⟩ := id h
  have htp := hS.1.2.2.2.2.2.2
  obtain ⟨J1, run1, f, s1, p1⟩ := c_book (d := d + 80) (L := L) (z := z) (w := w) hM ho hw hS hP a n ha hn
  obtain ⟨e4, e8⟩ := e194 hJ htp f
  have rj := rJ_nm hJ e8
  have run2 := n_book (d := d + 98) (J := nmI J1) (L := L) (z := z) (w := w) hr rj.1 (by rw [e4]; exact hw.2.2.1) a n ha hn
  rw [e4, nmI_o] at run2
  obtain ⟨o1, o2, o3⟩ := book_ok ho hw a n
  obtain ⟨c1, c2⟩ := finM h hS f s1 p1 o1 o2 (fG.s _) (rJ_s rj (o3 (hJ.1 194))) ur_r
  exact ⟨_, _, _, _, _, _, _, _, _, _, _, _, _, run1, run2, c1, c2, tE.i, by omega, by omega, ⟨_, rfl⟩, tE.i, f 0 (by omega) (by omega) (by omega) (by omega)⟩
theorem k_feed (h : clR T R J z) (u : Int64) (n : Int) (hn : i32 n) : okC gI (d + 100) 64 111 [.long u, .int (iI n)] T J L R z w := by
  obtain ⟨hM, hr, hsk, hJ, hz5, hz0, hJ0, ⟨t, cs, hS, hP, ho, hw⟩, _⟩ := id h
  have htp := hS.1.2.2.2.2.2.2
  obtain ⟨J1, run1, f, s1, p1⟩ := c_feed (d := d + 80) (L := L) (z := z) (w := w) hM ho hw hS hP u n hn
  obtain ⟨e4, e8⟩ := e194 hJ htp f
  have rj := rJ_nm hJ e8
  have run2 := n_feed (d := d + 98) (J := nmI J1) (L := L) (z := z) (w := w) hr rj.1 (by rw [e4]; exact hw.2.2.2.1) u n hn
  rw [e4, nmI_o] at run2
  obtain ⟨o1, o2, o3⟩ := feed_ok ho hw u n
  obtain ⟨c1, c2⟩ := finM h hS f s1 p1 o1 o2 (fG.s _) (rJ_s rj (o3 (hJ.1 194))) ur_r
  exact ⟨_, _, _, _, _, _, _, _, _, _, _, _, _, run1, run2, c1, c2, tE.i, by omega, by omega, ⟨_, rfl⟩, tE.i, f 0 (by omega) (by omega) (by omega) (by omega)⟩
theorem k_cart (h : clR T R J z) : okC gI (d + 100) 79 156 [] T J L R z w := by
  obtain ⟨hM, hr, hsk, hJ, hz5, hz0, hJ0, ⟨t, cs, hS, hP, ho, hw⟩, _⟩ := id h
  have htp := hS.1.2.2.2.2.2.2
  obtain ⟨J1, run1, f, s1⟩ := c_cart (d := d + 80) (L := L) (z := z) (w := w) hM ho hS
  obtain ⟨e4, e8⟩ := e194 hJ htp f.m
  have rj := rJ_nm hJ e8
  have run2 := n_cart (d := d + 99) (J := nmI J1) (L := L) (z := z) (w := w) hr rj.1 (by rw [e4]; exact ho.1) (by rw [e4]; exact ho.2.2.2.1)
  rw [e4, nmI_o] at run2
  obtain ⟨o1, o2, o3⟩ := cart_ok ho hw
  obtain ⟨c1, c2⟩ := finM h hS f.m s1 (cPl_x hP f htp (caS_p ho.1 ho.2.2.2.1.2.2.2.1).2.1) o1 o2 (fG.s _) (rJ_s rj (o3 (hJ.1 194))) ur_r
  exact ⟨_, _, _, _, _, _, _, _, _, _, _, _, _, run1, run2, c1, c2, tE.i, by omega, by omega, ⟨_, rfl⟩, tE.i, f.m 0 (by omega) (by omega) (by omega) (by omega)⟩
theorem k_go (h : clR T R J z) (s : Int) (hs : i32 s) : okC gI (d + 100) 70 140 [.int (iI s)] T J L R z w := by
  obtain ⟨hM, hr, hsk, hJ, hz5, hz0, hJ0, ⟨t, cs, hS, hP, ho, hw⟩, _⟩ := id h
  have htp := hS.1.2.2.2.2.2.2
  obtain ⟨J1, run1, f, s1⟩ := c_go (d := d + 80) (L := L) (z := z) (w := w) hM ho hS s hs
  obtain ⟨e4, e8⟩ := e194 hJ htp f.m
  have rj := rJ_nm hJ e8
  obtain ⟨J3, run2, j3, fd, j4⟩ := n_go (d := d + 80) (J := nmI J1) (L := L) (z := z) (w := w) hr (tokL cs) rj (by rw [e4]; exact ho) s hs
  rw [e4] at run2 j4
  rw [nmI_o] at run2
  obtain ⟨o1, o2⟩ := go_ok ho hw s
  obtain ⟨c1, c2⟩ := finM h hS f.m s1 (cPl_x hP f htp (go_x _ ho.2.2.1 ho.1 ho.2.2.2.2.1 ho.2.2.2.1 ho.2.2.2.2.2 s)) o1 o2 fd.g j3 j4
  exact ⟨_, _, _, _, _, _, _, _, _, _, _, _, _, run1, run2, c1, c2, tE.i, by omega, by omega, ⟨_, rfl⟩, tE.i, f.m 0 (by omega) (by omega) (by omega) (by omega)⟩
theorem person_ok (ho : oR ts S) (hw : oW S) (k v ds : Int) : oR ts (personS S k v ds) ∧ oW (personS S k v ds) ∧ ((∀ j, i32 (S j)) → ∀ j, i32 (personS S k v ds j)) := by
  have hw0 := hw
  obtain ⟨w1, w2, w3, w4, w5, w6, w7, w8, w9⟩ := hw
  obtain ⟨h1, h2, h3, h4, h5⟩ := ho.1
  by_cases c : (0 ≤ k ∧ k ≤ 6) ∧ (0 ≤ ds ∧ ds ≤ 33) ∧ ds % 10 ≤ 3 ∧ (0 ≤ v ∧ v ≤ 9) ∧ ¬ ds / 10 = ds % 10 ∧ ¬ S 15 = 6
  · obtain ⟨ck, cd, cd2, cv, cab, c6⟩ := c
    have es : personS S k v ds = up (up (up (up (up (up (up S (150 + S 15) k) (156 + S 15) v) (162 + S 15) (ds / 10)) (168 + S 15) (ds % 10)) (174 + S 15) 1) (4 + S 15) 0) 15 (S 15 + 1) := by
      unfold personS
      rw [if_neg (by omega), if_neg (by omega), if_neg (by omega), if_neg (by omega), if_neg (by omega), if_neg (by omega), if_neg (by omega), if_neg (by omega), if_neg (by omega)]
    obtain ⟨X, hX⟩ : ∃ X, X = personS S k v ds := ⟨_, rfl⟩
    rw [← hX]
    rw [es] at hX
    have e : ∀ j, ¬ j = 150 + S 15 → ¬ j = 156 + S 15 → ¬ j = 162 + S 15 → ¬ j = 168 + S 15 → ¬ j = 174 + S 15 → ¬ j = 4 + S 15 → ¬ j = 15 → X j = S j := by
      intro j a1 a2 a3 a4 a5 a6 a7
      rw [hX, up_o a7, up_o a6, up_o a5, up_o a4, up_o a3, up_o a2, up_o a1]
    have x15 : X 15 = S 15 + 1 := by rw [hX, up_r]
    have xk : X (150 + S 15) = k := by rw [hX]; simp (disch := omega) only [up_o, up_r]
    have xv : X (156 + S 15) = v := by rw [hX]; simp (disch := omega) only [up_o, up_r]
    have xa : X (162 + S 15) = ds / 10 := by rw [hX]; simp (disch := omega) only [up_o, up_r]
    have xb : X (168 + S 15) = ds % 10 := by rw [hX]; simp (disch := omega) only [up_o, up_r]
    have xs : X (174 + S 15) = 1 := by rw [hX]; simp (disch := omega) only [up_o, up_r]
    have xt : X (4 + S 15) = 0 := by rw [hX]; simp (disch := omega) only [up_o, up_r]
    have ed : ∀ j, (j < 4) ∨ (10 ≤ j ∧ j < 15) ∨ (16 ≤ j ∧ j < 150) ∨ 180 ≤ j → X j = S j := fun j hj => e j (by omega) (by omega) (by omega) (by omega) (by omega) (by omega) (by omega)
    refine ⟨oR_e ho (fun j hj => ed j (by omega)) ⟨fun q hq => ?_, fun j hj => ?_, ?_, ?_, ?_⟩ (tB_e ho.2.2.2.2.1 (fun j hj => ed j (by omega))) (by rw [ed 10 (by omega)]; exact ho.2.2.2.2.2), ?_, fun hr => ?_⟩
    · by_cases eq : q = S 15
      · rw [eq, xa, xb, xt, xs, xk, xv]; omega
      · rw [e (162 + q) (by omega) (by omega) (by omega) (by omega) (by omega) (by omega) (by omega), e (168 + q) (by omega) (by omega) (by omega) (by omega) (by omega) (by omega) (by omega), e (4 + q) (by omega) (by omega) (by omega) (by omega) (by omega) (by omega) (by omega), e (174 + q) (by omega) (by omega) (by omega) (by omega) (by omega) (by omega) (by omega), e (150 + q) (by omega) (by omega) (by omega) (by omega) (by omega) (by omega) (by omega), e (156 + q) (by omega) (by omega) (by omega) (by omega) (by omega) (by omega) (by omega)]
        exact h1 q hq
    · rw [ed j (by omega)]; exact h2 j hj
    · rw [ed 10 (by omega)]; exact h3
    · rw [ed 11 (by omega)]; exact h4
    · rw [x15]; omega
    · unfold oW
      rw [x15, ed 16 (by omega), ed 17 (by omega), ed 18 (by omega), ed 19 (by omega), ed 20 (by omega)]
      refine ⟨w1, w2, w3, w4, fun k k0 k1 => ?_, fun k k0 k1 => ?_, fun k k0 k1 => ?_, w8, fun p p0 p1 => ?_⟩
      · rw [ed _ (by omega)]; exact w5 k k0 k1
      · rw [ed _ (by omega), ed _ (by omega)]; exact w6 k k0 k1
      · rw [ed _ (by omega)]; exact w7 k k0 k1
      · by_cases eq : p = S 15
        · rw [eq, xa, xb]; exact cab
        · rw [e (162 + p) (by omega) (by omega) (by omega) (by omega) (by omega) (by omega) (by omega), e (168 + p) (by omega) (by omega) (by omega) (by omega) (by omega) (by omega) (by omega)]
          exact w9 p p0 (by omega)
    · rw [hX]
      exact up_rng (up_rng (up_rng (up_rng (up_rng (up_rng (up_rng hr (by omega)) (by omega)) (by omega)) (by omega)) (by omega)) (by omega)) (by omega)
  · have es : personS S k v ds = S := by
      unfold personS
      repeat' split
      all_goals first | rfl | omega
    rw [es]; exact ⟨ho, hw0, fun q => q⟩
theorem tlt (hz0 : ∀ b, z ≤ b → T b = (0, 0)) (htc : tc T R t) : t + 6 < z := by
  rcases Nat.lt_or_ge (t + 6) z with q | q
  · exact q
  · have c7 : T (t + 6) = (20, 5) := htc.2.2.2.2.2.2.1
    rw [hz0 _ q] at c7
    exact absurd c7 (by decide)
theorem k_person (h : clR T R J z) (k v ds : Int) (hk : i32 k) (hv : i32 v) (hds : i32 ds) : okC gI (d + 100) 67 130 [.int (iI k), .int (iI v), .int (iI ds)] T J L R z w := by
  obtain ⟨hM, hr, hsk, hJ, hz5, hz0, hJ0, ⟨t, cs, hS, hP, ho, hw⟩, hq1, _⟩ := id h
  have htp := hS.1.2.2.2.2.2.2
  have htp2 := htp
  unfold tpl at htp2
  have htc := hS.1.1.1
  have tz := tlt hz0 htc
  obtain ⟨T', R', z', w', J1, run1, tE1, t1, z1, w1, r1, f, s1, p1, q1⟩ := c_person (d := d + 80) (L := L) (z := z) (w := w) hM (fun b hb => by rw [hz0 b hb]) ho hw hS hP k v ds hk hv hds
  have fo : ∀ b, (100 = b ∨ (108 ≤ b ∧ b < 115) ∨ (119 ≤ b ∧ b ≤ 140) ∨ 193 ≤ b) → ¬ b = t + 6 → ¬ (z ≤ b ∧ b < z') → J1 b = J b := fun b hb h6 hz => f b hz (by omega) (by omega) (by omega) h6
  have e4 : nmI J1 194 = J 194 := nm_row hJ.1 (fo 194 (by omega) (by omega) (by omega))
  have e8 : J1 198 = J 198 := fo 198 (by omega) (by omega) (by omega)
  have rj := rJ_nm hJ e8
  have hE : rE T R R' := fun b j _ hb _ _ _ => r1 b j hb
  have hr' := rM_x hr tE1 hE
  have run2 := n_person (d := d + 98) (J := nmI J1) (L := L) (z := z') (w := w') hr' rj.1 (by rw [e4]; exact ho.1.2.2.2.2) k v ds hk hv hds
  rw [e4, nmI_o] at run2
  obtain ⟨o1, o2, o3⟩ := person_ok ho hw k v ds
  have hq' : qW T' R' 106 := by
    intro i x hi hx
    rcases q1 i with e | ⟨e1, e2⟩
    · rw [e] at hx
      have tg := hq1 i x hi hx
      rw [tE1 x (by intro e; rw [e] at tg; exact absurd tg (by decide))]; exact tg
    · rw [e1] at hx; cases hx; exact e2
  obtain ⟨c1, c2⟩ := fin2 h tE1 hE (fun i => r1 124 i (by omega)) (r1 119 4 (by omega)) hq' z1.1 (fun b hb => by rw [t1 b (by omega)]; exact hz0 b (by omega)) htc htp (fun b b0 b1 b2 b3 b4 b5 => f b (by omega) (by omega) b2 b4 b5) (fun b hb j => by rw [fo b (by omega) (by omega) (by omega)]; exact hJ0 b (by omega) j) (by rw [fo 100 (by omega) (by omega) (by omega)]) s1.1.1.2.2.2.2.2.2 (fo 137 (by omega) (by omega) (by omega)) (fo 138 (by omega) (by omega) (by omega)) (stB_of s1 p1) s1.2.1.2.2.2.2 s1.2.2 o1 o2 (fG.s _) (rJ_s rj (o3 (hJ.1 194))) ur_r
  exact ⟨_, _, _, _, _, _, _, _, _, _, _, _, _, run1, run2, c1, c2, tE1, by omega, by omega, ⟨_, rfl⟩, tE1, f 0 (by omega) (by omega) (by omega) (by omega) (by omega)⟩
theorem k_penny (h : clR T R J z) (p n part : Int) (hp : i32 p) (hn : i32 n) (hpa : i32 part) : okC gL (d + 100) 78 155 [.int (iI p), .int (iI n), .int (iI part)] T J L R z w := by
  obtain ⟨hM, hr, hsk, hJ, hz5, hz0, hJ0, ⟨t, cs, hS, hP, ho, hw⟩, hq1, _⟩ := id h
  obtain ⟨Q, rfl⟩ := oL_x L
  have htp := hS.1.2.2.2.2.2.2
  have htp2 := htp
  unfold tpl at htp2
  have htc := hS.1.1.1
  have tz := tlt hz0 htc
  obtain ⟨T', z', w', J1, Q1, run1, tE1, t1, z1, w1, f, _⟩ := c_penny (d := d + 78) (Q := Q) (z := z) (w := w) hM (fun b hb => by rw [hz0 b hb]) ho hS p n part hp hn hpa
  have hE : rE T R R := fun _ _ _ _ _ _ _ => rfl
  have s1 := cS_z hM (fun b hb => by rw [hz0 b hb]) hS tE1 hE rfl (fun _ => rfl) f
  have fo : ∀ b, ¬ b = 100 → ¬ (141 ≤ b ∧ b ≤ 192) → ¬ b = t + 6 → ¬ (z ≤ b ∧ b < z') → J1 b = J b := fun b h1 h2 h3 h4 => f.1 b h4 h1 h2 h3
  have e4 : nmI J1 194 = J 194 := nm_row hJ.1 (fo 194 (by omega) (by omega) (by omega) (by omega))
  have e8 : J1 198 = J 198 := fo 198 (by omega) (by omega) (by omega) (by omega)
  have rj := rJ_nm hJ e8
  have hr' := rM_x hr tE1 hE
  have p1 : cPl J1 (J 194) := cPl_o hP hw (fo 101 (by omega) (by omega) (by omega) (by omega)) (fun b hb => fo b (by omega) (by omega) (by omega) (by omega)) (fun _ _ => rfl)
  obtain ⟨J3, Q3, run2, j3, fd, j4, _⟩ := n_penny (d := d + 80) (J := nmI J1) (Q := Q1) (z := z') (w := w') hr' (tokL cs) p n part hp hn hpa rj (by rw [e4]; exact ho)
  rw [e4] at run2 j4
  rw [nmI_o] at run2
  obtain ⟨c1, c2⟩ := fin2 h tE1 hE (fun _ => rfl) rfl (qW_x hq1 tE1 (fun _ => rfl)) z1.1 (fun b hb => by rw [t1 b (by omega)]; exact hz0 b (by omega)) htc htp (fun b b0 b1 b2 b3 b4 b5 => fo b (by omega) b4 b5 (by omega)) (fun b hb j => by rw [fo b (by omega) (by omega) (by omega) (by omega)]; exact hJ0 b (by omega) j) (f.2.1 2 (by omega)) f.2.2.1 (fo 137 (by omega) (by omega) (by omega) (by omega)) (fo 138 (by omega) (by omega) (by omega) (by omega)) (stB_of s1 p1) s1.2.1.2.2.2.2 s1.2.2 ho hw fd.g j3 j4
  exact ⟨_, _, _, _, _, _, _, _, _, _, _, _, _, run1, run2, c1, c2, tE1, by omega, by omega, ⟨_, rfl⟩, tE1, fo 0 (by omega) (by omega) (by omega) (by omega)⟩
end UE
