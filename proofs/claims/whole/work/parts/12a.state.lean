/-! both sides: what a state of the class shows, wherever it stands -/
section UA
variable {d : Nat} {T T' : Nat → Nat × Nat} {L : Nat → Nat → Int64} {R R' : Nat → Nat → Option Nat} {z w : Nat} {J J' Q : mR} {t b c : Nat} {S : Int → Int} {cs : List CL}
def stB (T : Nat → Nat × Nat) (R : Nat → Nat → Option Nat) (J : mR) (b t : Nat) (cs : List CL) (S : Int → Int) : Prop :=
  tk T R J t cs ∧ R b 4 = some t ∧
  (∀ p : Nat, (p : Int) < S 15 → (∃ x, R (b + 5) p = some x ∧ pc1 T J x S p) ∧ J (b + 6) p = S (174 + (p : Int)) ∧ ¬ S (162 + (p : Int)) = S (168 + (p : Int))) ∧
  (J t 0 = tlS S 220 9 ∧ J t 1 = tlS S 225 1 ∧ J t 2 = tlS S 230 2) ∧ tpl t ∧
  ((∀ j, 0 ≤ j ∧ j < 4 → J (b + 2) j = S j) ∧ (∀ p, 0 ≤ p ∧ p < 6 → J (b + 3) p = dOf S p) ∧ J (b + 1) 2 = S 10 ∧ J (b + 1) 3 = S 11) ∧
  (J b 3 = S 15 ∧ J b 5 = S 16 ∧ J b 7 = S 19 ∧ J b 9 = S 17 ∧ J b 12 = S 18) ∧
  (∀ k, 0 ≤ k → k < S 17 → J (b + 15) k = S (180 + k)) ∧ (∀ k, 0 ≤ k → k < S 18 → J (b + 16) k = S (200 + k) ∧ J (b + 17) k = S (210 + k)) ∧
  (∀ k, 0 ≤ k → k < S 19 → iI (J (b + 14) k) &&& iI 255 = iI (S (30 + k))) ∧ (∀ k, 0 ≤ k → k < 120 → fits .byte (.int (iI (J (b + 14) k))) = true)
theorem stB_of (h : cS T R J t cs S) (hP : cPl J S) : stB T R J 101 t cs S := by
  obtain ⟨⟨g1, g2, g3, g4, g5, g6, g7⟩, ⟨n1, n2, n3, n4, n5⟩, hz⟩ := h
  obtain ⟨⟨p1, p2, p3, p4⟩, p5, p6, p7, p8⟩ := hP
  exact ⟨g1, g2, g3.1, ⟨g4, g5, g6⟩, g7, ⟨n1, n2, n3, n4⟩, ⟨g3.2, p1, p2, p3, p4⟩, p5, p6, p7, p8⟩
theorem stB_to (h : stB T R J 101 t cs S) (n5 : ∀ j, 0 ≤ j ∧ j < 4 → J 105 j = 0) (hz : cz J) : cS T R J t cs S ∧ cPl J S := by
  obtain ⟨g1, g2, g3, ⟨g4, g5, g6⟩, g7, ⟨n1, n2, n3, n4⟩, ⟨g8, p1, p2, p3, p4⟩, p5, p6, p7, p8⟩ := h
  exact ⟨⟨⟨g1, g2, ⟨g3, g8⟩, g4, g5, g6, g7⟩, ⟨n1, n2, n3, n4, n5⟩, hz⟩, ⟨⟨p1, p2, p3, p4⟩, p5, p6, p7, p8⟩⟩
theorem nm_I {j : Int} : iI (nmI J b j) = iI (J b j) := (iI_self _).symm
theorem nm_v {j v : Int} (h : J b j = v) (hv : i32 v) : nmI J b j = v := by
  rw [nmI_e (by rw [h]; exact hv)]; exact h
theorem seg_nm : ∀ (l : List Int) (p : Int), (∀ v, v ∈ l → i32 v) → seg (J b) p l → seg (nmI J b) p l := by
  intro l
  induction l with
  | nil => intro p _ _; trivial
  | cons v l ih => intro p hv h; exact ⟨nm_v h.1 (hv v (List.mem_cons_self ..)), ih _ (fun q hq => hv q (List.mem_cons_of_mem _ hq)) h.2⟩
theorem vE_r : ∀ (ts : List Int) (h h' : Int), vE ts h h' → ∀ v, v ∈ ts.map trC → i32 v := by
  intro ts
  induction ts with
  | nil => intro h h' _ v hv; exact absurd hv (List.not_mem_nil)
  | cons t ts ih =>
    intro h h' hv v hm
    rw [List.map_cons] at hm
    rcases List.mem_cons.mp hm with rfl | hm
    · rcases hv with ⟨a1, a2, a3, a4, _⟩ | ⟨a1, _⟩ | ⟨a1, _⟩
      · unfold trC; rw [if_pos a1]; omega
      · unfold trC; rw [if_neg (by omega)]; omega
      · unfold trC; rw [if_neg (by omega)]; omega
    · rcases hv with ⟨_, _, _, _, _, _, a⟩ | ⟨_, _, _, a⟩ | ⟨_, _, _, a⟩
      · exact ih _ _ a v hm
      · exact ih _ _ a v hm
      · exact ih _ _ a v hm
theorem loR_nm (h7 : J t 7 ≤ 10) (h9 : J t 9 ≤ 120) : ∀ (cs : List CL) (p k : Int), wfL cs → 0 ≤ p → 0 ≤ k → loR J t cs p k → loR (nmI J) t cs p k := by
  intro cs
  induction cs with
  | nil => intro p k _ hp hk h; exact ⟨nm_v h.1 (by have := h.1; omega), nm_v h.2 (by have := h.2; omega)⟩
  | cons c cs ih =>
    intro p k hw hp hk h
    obtain ⟨_, ⟨n0, n9⟩, hv⟩ := hw c (List.mem_cons_self ..)
    have hcs : wfL cs := fun q hq => hw q (List.mem_cons_of_mem _ hq)
    unfold loR at h ⊢
    split
    · rename_i q; rw [if_pos q] at h
      exact ⟨seg_nm _ _ (vE_r _ _ _ (hv (Or.inl q))) h.1, ih _ _ hcs (by omega) hk h.2⟩
    rename_i q; rw [if_neg q] at h
    split
    · rename_i q2; rw [if_pos q2] at h
      obtain ⟨h1, h2, h3, h4, h5⟩ := h
      have lk := loR_k J t cs _ _ h5
      exact ⟨seg_nm _ _ (vE_r _ _ _ (hv (Or.inr q2))) h1, nm_v h2 (by omega), nm_v h3 (by omega), nm_v h4 (by omega), ih _ _ hcs (by omega) (by omega) h5⟩
    · rename_i q2; rw [if_neg q2] at h
      exact ih _ _ hcs hp hk h
theorem tk_nm (h : tk T R J t cs) (hok : lkOk (tokL cs) 0) : tk T R (nmI J) t cs := by
  obtain ⟨h1, h2, h3, h4, h5, h6, h7⟩ := h
  have lk := loR_k J t cs _ _ h4
  have e7 : nmI J t 7 = J t 7 := nmI_e (by omega)
  have e9 : nmI J t 9 = J t 9 := nmI_e (by omega)
  refine ⟨h1, h2, fun hh s a1 a2 a3 a4 => nm_v (h3 hh s a1 a2 a3 a4) ?_, loR_nm h5 h6 cs 0 0 h2 (by omega) (by omega) h4, by rw [e7]; exact h5, by rw [e9]; exact h6, fun j _ _ => nmI_rg _ _⟩
  have := rainS_r (tokL cs) hok hh s
  omega
theorem pc1_nm {x : Nat} {p : Int} (h : pc1 T J x S p) (ho : oS S) (hp : 0 ≤ p ∧ p < 6) : pc1 T (nmI J) x S p := by
  obtain ⟨q1, q2, q3, q4, q5, q6⟩ := h
  obtain ⟨o1, o2, o3, o4, o5, o6⟩ := ho.1 p hp
  exact ⟨q1, nm_v q2 (by omega), nm_v q3 (by omega), nm_v q4 (by omega), nm_v q5 (by omega), nm_v q6 (by omega)⟩
theorem stB_nm (h : stB T R J b t cs S) (ho : oR (tokL cs) S) (hw : oW S) : stB T R (nmI J) b t cs S := by
  obtain ⟨g1, g2, g3, ⟨g4, g5, g6⟩, g7, ⟨n1, n2, n3, n4⟩, ⟨g8, p1, p2, p3, p4⟩, p5, p6, p7, p8⟩ := h
  obtain ⟨hS, hH, hok, ⟨t1, t2, t3, t4⟩, _, _⟩ := ho
  obtain ⟨w1, w2, w3, w4, w5, w6, w7, w8, w9⟩ := hw
  obtain ⟨s1, s2, s3, s4, s5⟩ := id hS
  refine ⟨tk_nm g1 hok, g2, fun p hp => ?_, ⟨nm_v g4 (by omega), nm_v g5 (by omega), nm_v g6 (by omega)⟩, g7, ⟨fun j hj => nm_v (n1 j hj) (by have := s2 j hj; omega), fun p hp => nm_v (n2 p hp) ?_, nm_v n3 (by omega), nm_v n4 (by omega)⟩, ⟨nm_v g8 (by omega), nm_v p1 (by omega), nm_v p2 (by omega), nm_v p3 (by omega), nm_v p4 (by omega)⟩, fun k k0 k1 => nm_v (p5 k k0 k1) (by have := w5 k k0 k1; omega), fun k k0 k1 => ⟨nm_v (p6 k k0 k1).1 (by have := w6 k k0 k1; omega), nm_v (p6 k k0 k1).2 (by have := w6 k k0 k1; omega)⟩, fun k k0 k1 => by rw [nm_I]; exact p7 k k0 k1, fun k k0 k1 => by rw [nm_I]; exact p8 k k0 k1⟩
  · obtain ⟨⟨x, x1, x2⟩, x3, x4⟩ := g3 p hp
    exact ⟨⟨x, x1, pc1_nm x2 hS (by omega)⟩, nm_v x3 (by have := s1 p (by omega); omega), x4⟩
  · have := s1 p hp
    unfold dOf; split <;> omega
theorem stB_x (h : stB T R J b t cs S) (hT : tE T T') (hRb : ∀ k, R' (b + 5) k = R (b + 5) k) (hR4 : R' b 4 = R b 4) (hRt : ∀ j, R' t j = R t j) (ht : ∀ a, t ≤ a → a ≤ t + 5 → J' a = J a) (hF : ∀ j, 0 ≤ j → j < 5 → i32 (J' (t + 6) j)) (hw : ∀ x, [1, 2, 3, 4, 5, 6, 10].contains (T x).1 = true → J' x = J x) (hr : ∀ a, a = b ∨ a = b + 1 ∨ a = b + 2 ∨ a = b + 3 ∨ a = b + 6 ∨ (b + 14 ≤ a ∧ a ≤ b + 17) → J' a = J a) : stB T' R' J' b t cs S := by
  obtain ⟨g1, g2, g3, g4, g7, g9, g8, p5, p6, p7, p8⟩ := h
  obtain ⟨h1, h2, h3, h4, h5, h6, h7⟩ := g1
  have et := ht t (by omega) (by omega)
  refine ⟨⟨?_, h2, fun hh s a1 a2 a3 a4 => by rw [ht _ (by omega) (by omega)]; exact h3 hh s a1 a2 a3 a4, loR_x et (ht _ (by omega) (by omega)) (ht _ (by omega) (by omega)) (ht _ (by omega) (by omega)) (ht _ (by omega) (by omega)) cs 0 0 h4, by rw [et]; exact h5, by rw [et]; exact h6, hF⟩, by rw [hR4]; exact g2, fun p hp => ?_, by rw [et]; exact g4, g7, ?_, by rw [hr b (by omega)]; exact g8, by rw [hr (b + 15) (by omega)]; exact p5, by rw [hr (b + 16) (by omega), hr (b + 17) (by omega)]; exact p6, by rw [hr (b + 14) (by omega)]; exact p7, by rw [hr (b + 14) (by omega)]; exact p8⟩
  · obtain ⟨k1, k2, k3, k4, k5, k6, k7, k8⟩ := h1
    unfold tc
    rw [hT t (by rw [k1]; decide), hT _ (by rw [k2]; decide), hT _ (by rw [k3]; decide), hT _ (by rw [k4]; decide), hT _ (by rw [k5]; decide), hT _ (by rw [k6]; decide), hT _ (by rw [k7]; decide)]
    simp only [hRt]
    exact ⟨k1, k2, k3, k4, k5, k6, k7, k8⟩
  · obtain ⟨⟨x, x1, x2⟩, x3, x4⟩ := g3 p hp
    refine ⟨⟨x, by rw [hRb]; exact x1, ?_⟩, by rw [hr (b + 6) (by omega)]; exact x3, x4⟩
    have tg := x2.tg
    obtain ⟨q1, q2⟩ := x2
    refine ⟨by rw [hT x (by intro e; rw [e] at tg; exact absurd tg (by decide))]; exact q1, ?_⟩
    rw [hw x tg]; exact q2
  · rw [hr (b + 1) (by omega), hr (b + 2) (by omega), hr (b + 3) (by omega)]; exact g9
/-- the people's rows hold people, or none -/
def qW (T : Nat → Nat × Nat) (R : Nat → Nat → Option Nat) (a : Nat) : Prop := ∀ k x, k < 6 → R a k = some x → [1, 2, 3, 4, 5, 6, 10].contains (T x).1 = true
theorem qW_x {a : Nat} (h : qW T R a) (hT : tE T T') (hR : ∀ k, R' a k = R a k) : qW T' R' a := by
  intro k x hk hx
  rw [hR] at hx
  have tg := h k x hk hx
  rw [hT x (by intro e; rw [e] at tg; exact absurd tg (by decide))]
  exact tg
/-- one state is as another -/
theorem c_copy (h : stc T R b) (g : stc T R c) (hbc : b + 17 < c ∨ c + 17 < b) (hq : qW T R (c + 5)) (hs : stB T R J c t cs S) (hB : S 15 ≤ 6 ∧ S 17 ≤ 20 ∧ S 18 ≤ 10 ∧ S 19 ≤ 120) (htb : ¬ (b ≤ t ∧ t ≤ b + 6) ∧ ¬ (b + 8 ≤ t ∧ t ≤ b + 17)) (htb2 : ¬ (b ≤ t + 6 ∧ t ≤ b + 6)) (ht2 : ¬ (b + 14 ≤ t + 6 ∧ t ≤ b + 17)) : ∃ (J' : mR) (R' : Nat → Nat → Option Nat), rn_c (d + 2) 19 [.ref b, .ref c] (T, oI J, L, R, z, w) = some (none, (T, oI J', L, R', z, w)) ∧ stB T R' J' b t cs S ∧ (∀ a, ¬ (b ≤ a ∧ a ≤ b + 3) → ¬ a = b + 6 → ¬ (b + 14 ≤ a ∧ a ≤ b + 17) → J' a = J a) ∧ (∀ a k, ¬ a = b + 5 → ¬ (a = b ∧ k = 4) → R' a k = R a k) ∧ qW T R' (b + 5) := by
  obtain ⟨g1, g2, g3, g4, g7, ⟨n1, n2, n3, n4⟩, ⟨g8, p1, p2, p3, p4⟩, p5, p6, p7, p8⟩ := id hs
  obtain ⟨W, hW⟩ : ∃ W, W = wcp J (b + 1) (c + 1) := ⟨_, rfl⟩
  have wo : ∀ a, ¬ (b + 1 ≤ a ∧ a ≤ b + 3) → W a = J a := by
    intro a ha
    rw [hW]; unfold wcp
    rw [ur_o (by omega), ur_o (by omega), ur_o (by omega)]
  have w1 : W (b + 1) = up (up (up (up (up (J (b + 1)) 2 (J (c + 1) 2)) 3 (J (c + 1) 3)) 4 (J (c + 1) 4)) 5 (J (c + 1) 5)) 6 (J (c + 1) 6) := by
    rw [hW]; unfold wcp
    rw [ur_o (by omega), ur_o (by omega), ur_r]
  have w2 : W (b + 2) = cp9 (J (b + 2)) (J (c + 2)) 4 := by
    rw [hW]; unfold wcp
    rw [ur_o (by omega), show b + 2 = b + 1 + 1 by omega, ur_r]
  have w3 : W (b + 3) = cp9 (J (b + 3)) (J (c + 3)) 6 := by
    rw [hW]; unfold wcp
    rw [show b + 3 = b + 1 + 2 by omega, ur_r]
  have wc' := w_copy (d := d + 1) (J := J) (L := L) (z := z) (w := w) h.wd g.wd (by omega)
  rw [← hW] at wc'
  have lp := cf_loop (d := d + 2) (J := W) (L := L) (z := z) (w := w) h g hbc hq 6 (by omega)
  obtain ⟨K, hK⟩ : ∃ K, K = ur W (b + 6) (cp9 (W (b + 6)) (W (c + 6)) 6) := ⟨_, rfl⟩
  have ko : ∀ a, ¬ a = b + 6 → K a = W a := fun a ha => by rw [hK, ur_o ha]
  have k6 : K (b + 6) = cp9 (J (b + 6)) (J (c + 6)) 6 := by rw [hK, ur_r, wo _ (by omega), wo _ (by omega)]
  have c6 : ((6 : Nat) : Int) = 6 := rfl
  rw [c6, ← hK] at lp
  obtain ⟨R6, hR6⟩ : ∃ R6, R6 = crR R b c 6 := ⟨_, rfl⟩
  rw [← hR6] at lp
  have ro : ∀ a k, ¬ a = b + 5 → R6 a k = R a k := fun a k ha => by rw [hR6]; exact crR_o ha
  have r5 : ∀ k, k < 6 → R6 (b + 5) k = R (c + 5) k := fun k hk => by rw [hR6]; unfold crR; rw [if_pos ⟨rfl, hk⟩]
  have hwd : wc T R6 (b + 1) := by
    have q : ∀ k, R6 (b + 1) k = R (b + 1) k := fun k => ro _ k (by omega)
    have := h.wd
    unfold wc at this ⊢
    simp only [q]; exact this
  have gwd : wc T R6 (c + 1) := by
    have q : ∀ k, R6 (c + 1) k = R (c + 1) k := fun k => ro _ k (by omega)
    have := g.wd
    unfold wc at this ⊢
    simp only [q]; exact this
  have h6 : stc T R6 b := ⟨h.t0, h.t5, h.t6, h.t14, h.t15, h.t16, h.t17, (ro _ _ (by omega)).trans h.r0, (ro _ _ (by omega)).trans h.r1, (ro _ _ (by omega)).trans h.r2, (ro _ _ (by omega)).trans h.r6, (ro _ _ (by omega)).trans h.r8, (ro _ _ (by omega)).trans h.r10, (ro _ _ (by omega)).trans h.r11, hwd⟩
  have g6 : stc T R6 c := ⟨g.t0, g.t5, g.t6, g.t14, g.t15, g.t16, g.t17, (ro _ _ (by omega)).trans g.r0, (ro _ _ (by omega)).trans g.r1, (ro _ _ (by omega)).trans g.r2, (ro _ _ (by omega)).trans g.r6, (ro _ _ (by omega)).trans g.r8, (ro _ _ (by omega)).trans g.r10, (ro _ _ (by omega)).trans g.r11, gwd⟩
  have kc : ∀ a, c ≤ a → a ≤ c + 17 → K a = J a := fun a a1 a2 => (ko a (by omega)).trans (wo a (by omega))
  have kb : ∀ a, ¬ (b + 1 ≤ a ∧ a ≤ b + 3) → ¬ a = b + 6 → K a = J a := fun a a1 a2 => (ko a a2).trans (wo a a1)
  have re := cf_rest (d := d + 1) (J := K) (L := L) (z := z) (w := w) h6 g6 hbc (by rw [kc _ (by omega) (by omega)]; exact p8) ((ro _ _ (by omega)).trans g2) (by rw [g1.1.1]; exact ⟨by decide, by decide⟩)
  obtain ⟨J', hJ'⟩ : ∃ J', J' = c2J K b c := ⟨_, rfl⟩
  obtain ⟨R', hR'⟩ : ∃ R', R' = am_u R6 b 4 (some t) := ⟨_, rfl⟩
  rw [← hJ', ← hR'] at re
  have jo : ∀ a, ¬ a = b → ¬ (b + 14 ≤ a ∧ a ≤ b + 17) → J' a = K a := by
    intro a a1 a2
    rw [hJ']; unfold c2J
    rw [ur_o (by omega), ur_o (by omega), ur_o (by omega), ur_o (by omega), ur_o (by omega)]
  have j0 : J' b = up (up (up (up (up (J b) 3 (J c 3)) 5 (J c 5)) 7 (J c 7)) 9 (J c 9)) 12 (J c 12) := by
    rw [hJ']; unfold c2J
    rw [ur_o (by omega), ur_o (by omega), ur_o (by omega), ur_o (by omega), ur_r, kb b (by omega) (by omega), kc c (by omega) (by omega)]
  have j14 : J' (b + 14) = cp9 (J (b + 14)) (J (c + 14)) 120 := by
    rw [hJ']; unfold c2J
    rw [ur_o (by omega), ur_o (by omega), ur_o (by omega), ur_r, kb _ (by omega) (by omega), kc _ (by omega) (by omega)]
  have j15 : J' (b + 15) = cp9 (J (b + 15)) (J (c + 15)) 20 := by
    rw [hJ']; unfold c2J
    rw [ur_o (by omega), ur_o (by omega), ur_r, kb _ (by omega) (by omega), kc _ (by omega) (by omega)]
  have j16 : J' (b + 16) = cp9 (J (b + 16)) (J (c + 16)) 10 := by
    rw [hJ']; unfold c2J
    rw [ur_o (by omega), ur_r, kb _ (by omega) (by omega), kc _ (by omega) (by omega)]
  have j17 : J' (b + 17) = cp9 (J (b + 17)) (J (c + 17)) 10 := by
    rw [hJ']; unfold c2J
    rw [ur_r, kb _ (by omega) (by omega), kc _ (by omega) (by omega)]
  have jx : ∀ a, ¬ (b ≤ a ∧ a ≤ b + 3) → ¬ a = b + 6 → ¬ (b + 14 ≤ a ∧ a ≤ b + 17) → J' a = J a := fun a a1 a2 a3 => (jo a (by omega) a3).trans (kb a (by omega) a2)
  have rx : ∀ a k, ¬ a = b + 5 → ¬ (a = b ∧ k = 4) → R' a k = R a k := by
    intro a k a1 a2
    rw [hR']; unfold am_u; rw [if_neg a2]; exact ro a k a1
  have r5' : ∀ k, k < 6 → R' (b + 5) k = R (c + 5) k := by
    intro k hk
    rw [hR']; unfold am_u; rw [if_neg (by omega)]; exact r5 k hk
  have hqb : qW T R' (b + 5) := fun k x hk hx => hq k x hk (by rw [← r5' k hk]; exact hx)
  have cpv : ∀ (A B : Int → Int) (n k : Int), 0 ≤ k → k < n → cp9 A B n k = B k := fun A B n k k0 k1 => by unfold cp9; rw [if_pos ⟨k0, k1⟩]
  refine ⟨J', R', ?_, ?_, jx, rx, hqb⟩
  · refine Eq.trans ?_ re
    refine Eq.trans ?_ ((lp).trans ?_)
    · simp (disch := first | omega | exact hJ _ _ | exact rJ_g hJ _ _ | (simp (disch := omega) only [ur_r, ur_o, up_r, up_o]; omega) | assumption) only [c19, s19_0, s19_0v, s19_1, s19_4, s19_4v, s19_5, s19_8, s19_11, s19_12, h.t0, g.t0, h.r0, g.r0, h.wd.t0, v_s, wc', kl_i, kl_r, kl_l, kl_n, kl_z, bd_s, tl_s, tl_n, ap_c, ap_n, v_s, v_n, nd_1, nd_0, ct13, eq_self, iI_add, iI_sub, iI_mul, iI_nat, iI_eq, iI_lt, iI_le, iI_eq0, iI_lt0, ↓reduceIte, if_true, if_false, not_true_eq_false, not_false_eq_true, true_and, and_true, false_and, and_false, true_or, or_true, false_or, or_false, Int.reduceLT, Int.reduceLE, Int.reduceEq, Int.reduceAdd, Int.reduceSub, Int.reduceMul, Nat.reduceAdd, Nat.reduceLT, Nat.reduceEqDiff, Int.reduceNeg, nc_s, nc_0, Int.zero_add, Int.add_zero, oI_r, oI_w, oI_f0, oI_g0, oI_f1, oI_g1, oI_f2, oI_g2, oI_f3, oI_g3, oI_f4, oI_g4, oI_f5, oI_g5, oI_f6, oI_g6, oI_f7, oI_g7, oI_f8, oI_g8, oI_f9, oI_g9, oI_f10, oI_g10, oI_f11, oI_g11, oI_f12, oI_g12, oI_f13, oI_g13, oI_f14, oI_g14, oI_f15, oI_g15, oI_f16, oI_g16, oI_f17, oI_g17, oI_f18, oI_g18, oI_f19, oI_g19, oI_f20, oI_g20, oI_f21, oI_g21, oI_f22, oI_g22, oI_f23, oI_g23, oI_f24, oI_g24, oI_f25, oI_g25, ur_r, ur_o, ur_s, up_r, up_o, up_s, jI_add, jI_sub, jI_mul, jI_neg, jI_i, jI_n, lgc_j, cj_lt, cj_ge, cj_gt, cj_le, cj_eq, oL_r, oL_w, oL_f6, oL_g6, oL_f7, oL_g7, oL_f17, oL_g17, oL_f18, oL_g18, dl_T, dl_F, de_T, de_F, dle_T, dle_F, iI_divn, rem_n, nd_v, ct_s, Bool.false_eq_true]
    · simp (disch := first | omega | exact hJ _ _ | exact rJ_g hJ _ _ | (simp (disch := omega) only [ur_r, ur_o, up_r, up_o]; omega) | assumption) only [s19_13, s19_14, b19_16, kl_i, kl_r, kl_l, kl_n, kl_z, bd_s, tl_s, tl_n, ap_c, ap_n, v_s, v_n, nd_1, nd_0, ct13, eq_self, iI_add, iI_sub, iI_mul, iI_nat, iI_eq, iI_lt, iI_le, iI_eq0, iI_lt0, ↓reduceIte, if_true, if_false, not_true_eq_false, not_false_eq_true, true_and, and_true, false_and, and_false, true_or, or_true, false_or, or_false, Int.reduceLT, Int.reduceLE, Int.reduceEq, Int.reduceAdd, Int.reduceSub, Int.reduceMul, Nat.reduceAdd, Nat.reduceLT, Nat.reduceEqDiff, Int.reduceNeg, nc_s, nc_0, Int.zero_add, Int.add_zero, oI_r, oI_w, oI_f0, oI_g0, oI_f1, oI_g1, oI_f2, oI_g2, oI_f3, oI_g3, oI_f4, oI_g4, oI_f5, oI_g5, oI_f6, oI_g6, oI_f7, oI_g7, oI_f8, oI_g8, oI_f9, oI_g9, oI_f10, oI_g10, oI_f11, oI_g11, oI_f12, oI_g12, oI_f13, oI_g13, oI_f14, oI_g14, oI_f15, oI_g15, oI_f16, oI_g16, oI_f17, oI_g17, oI_f18, oI_g18, oI_f19, oI_g19, oI_f20, oI_g20, oI_f21, oI_g21, oI_f22, oI_g22, oI_f23, oI_g23, oI_f24, oI_g24, oI_f25, oI_g25, ur_r, ur_o, ur_s, up_r, up_o, up_s, jI_add, jI_sub, jI_mul, jI_neg, jI_i, jI_n, lgc_j, cj_lt, cj_ge, cj_gt, cj_le, cj_eq, oL_r, oL_w, oL_f6, oL_g6, oL_f7, oL_g7, oL_f17, oL_g17, oL_f18, oL_g18, dl_T, dl_F, de_T, de_F, dle_T, dle_F, iI_divn, rem_n, nd_v, ct_s, Bool.false_eq_true]
  · have hRt : ∀ j, R' t j = R t j := fun j => rx t j (by omega) (by omega)
    have ht : ∀ a, t ≤ a → a ≤ t + 6 → J' a = J a := fun a a1 a2 => jx a (by omega) (by omega) (by omega)
    obtain ⟨h1, h2, h3, h4, h5, h6, h7⟩ := g1
    have et := ht t (by omega) (by omega)
    have hw : ∀ x, [1, 2, 3, 4, 5, 6, 10].contains (T x).1 = true → J' x = J x := by
      intro x tg
      have e0 : ∀ (a : Nat) (v : Nat × Nat), T a = v → ¬ [1, 2, 3, 4, 5, 6, 10].contains v.1 = true → x = a → False := fun a v hv hn e => hn (by rw [← hv, ← e]; exact tg)
      obtain ⟨q1, q2, q3, q4, _⟩ := h.wd
      refine jx x (fun q => ?_) (fun q => ?_) (fun q => ?_)
      · have : x = b ∨ x = b + 1 ∨ x = b + 2 ∨ x = b + 3 := by omega
        rcases this with e | e | e | e
        · exact e0 _ _ h.t0 (by decide) e
        · exact e0 _ _ q1 (by decide) e
        · exact e0 _ _ q2 (by decide) e
        · exact e0 _ _ q3 (by decide) e
      · exact e0 _ _ h.t6 (by decide) q
      · have : x = b + 14 ∨ x = b + 15 ∨ x = b + 16 ∨ x = b + 17 := by omega
        rcases this with e | e | e | e
        · exact e0 _ _ h.t14 (by decide) e
        · exact e0 _ _ h.t15 (by decide) e
        · exact e0 _ _ h.t16 (by decide) e
        · exact e0 _ _ h.t17 (by decide) e
    have j1 : J' (b + 1) = W (b + 1) := (jo _ (by omega) (by omega)).trans (ko _ (by omega))
    have j2 : J' (b + 2) = W (b + 2) := (jo _ (by omega) (by omega)).trans (ko _ (by omega))
    have j3 : J' (b + 3) = W (b + 3) := (jo _ (by omega) (by omega)).trans (ko _ (by omega))
    have j6 : J' (b + 6) = K (b + 6) := jo _ (by omega) (by omega)
    refine ⟨⟨?_, h2, fun hh s a1 a2 a3 a4 => by rw [ht _ (by omega) (by omega)]; exact h3 hh s a1 a2 a3 a4, loR_x et (ht _ (by omega) (by omega)) (ht _ (by omega) (by omega)) (ht _ (by omega) (by omega)) (ht _ (by omega) (by omega)) cs 0 0 h4, by rw [et]; exact h5, by rw [et]; exact h6, fun j j0 j5 => by rw [ht _ (by omega) (by omega)]; exact h7 j j0 j5⟩, by rw [hR']; unfold am_u; rw [if_pos ⟨rfl, rfl⟩], fun p hp => ?_, by rw [et]; exact g4, g7, ⟨fun j hj => ?_, fun p hp => ?_, ?_, ?_⟩, ⟨?_, ?_, ?_, ?_, ?_⟩, fun k k0 k1 => ?_, fun k k0 k1 => ⟨?_, ?_⟩, fun k k0 k1 => ?_, fun k k0 k1 => ?_⟩
    · unfold tc at h1 ⊢
      simp only [hRt]
      exact h1
    · obtain ⟨⟨x, x1, x2⟩, x3, x4⟩ := g3 p hp
      refine ⟨⟨x, by rw [r5' p (by omega)]; exact x1, ?_⟩, by rw [j6, k6, cpv _ _ _ _ (by omega) (by omega)]; exact x3, x4⟩
      have tg := x2.tg
      obtain ⟨q1, q2⟩ := x2
      refine ⟨q1, ?_⟩
      rw [hw x tg]; exact q2
    · rw [j2, w2, cpv _ _ _ _ hj.1 hj.2]; exact n1 j hj
    · rw [j3, w3, cpv _ _ _ _ hp.1 hp.2]; exact n2 p hp
    · rw [j1, w1]; simp (disch := omega) only [up_o, up_r]; exact n3
    · rw [j1, w1]; simp (disch := omega) only [up_o, up_r]; exact n4
    · rw [j0]; simp (disch := omega) only [up_o, up_r]; exact g8
    · rw [j0]; simp (disch := omega) only [up_o, up_r]; exact p1
    · rw [j0]; simp (disch := omega) only [up_o, up_r]; exact p2
    · rw [j0]; simp (disch := omega) only [up_o, up_r]; exact p3
    · rw [j0]; simp (disch := omega) only [up_o, up_r]; exact p4
    · rw [j15, cpv _ _ _ _ k0 (by omega)]; exact p5 k k0 k1
    · rw [j16, cpv _ _ _ _ k0 (by omega)]; exact (p6 k k0 k1).1
    · rw [j17, cpv _ _ _ _ k0 (by omega)]; exact (p6 k k0 k1).2
    · rw [j14, cpv _ _ _ _ k0 (by omega)]; exact p7 k k0 k1
    · rw [j14, cpv _ _ _ _ k0 k1]; exact p8 k k0 k1
end UA
