/-! the class: person -/
section PE
variable {d : Nat} {T : Nat → Nat × Nat} {L : Nat → Nat → Int64} {R : Nat → Nat → Option Nat} {z w : Nat} {J Q : mR} {t : Nat} {S : Int → Int} {cs : List CL}
theorem kT_w (k : Int) : [1, 2, 3, 4, 5, 6, 10].contains (kT k) = true ∧ (kT k == 11) = false := by
  unfold kT
  repeat' split
  all_goals exact ⟨rfl, rfl⟩
/-- the state of who comes -/
def peS (S : Int → Int) (k v a b : Int) : Int → Int := up (up (up (up (up (up (up S (150 + S 15) k) (156 + S 15) v) (162 + S 15) a) (168 + S 15) b) (174 + S 15) 1) (4 + S 15) 0) 15 (S 15 + 1)
def peJ (J : mR) (z : Nat) (n k v a b : Int) : mR := ur (ur (ur (ur J z (wkV (J z) k n v a b)) 107 (up (J 107) n 1)) 104 (up (J 104) n a)) 101 (up (J 101) 3 (n + 1))
theorem cS_p (hM : cM T R) (hz : ∀ b, z ≤ b → (T b).1 = 0) (h : cS T R J t cs S) (hT : oT S) (h15 : 0 ≤ S 15 ∧ S 15 < 6) (k v a b : Int) (hab : ¬ a = b) : cS (am_tu T z (kT k, 0)) (am_u R 106 (S 15).toNat (some z)) (peJ J z (S 15) k v a b) t cs (peS S k v a b) := by
  have h7 := h.1.2.2.2.2.2.2
  unfold tpl at h7
  have z100 : ¬ 100 = z := by intro e; have := hz 100 (by omega); rw [hM.t100] at this; exact absurd this (by decide)
  have z101 : ¬ z = 101 := by intro e; have := hz 101 (by omega); rw [hM.t101] at this; exact absurd this (by decide)
  have z104 : ¬ z = 104 := by intro e; have := hz 104 (by omega); rw [hM.w102.2.2.1] at this; exact absurd this (by decide)
  have z107 : ¬ z = 107 := by intro e; have := hz 107 (by omega); rw [hM.t107] at this; exact absurd this (by decide)
  have zt : ¬ t + 6 = z := by intro e; have := hz (t + 6) (by omega); rw [h.1.1.1.2.2.2.2.2.2.1] at this; exact absurd this (by decide)
  have zk : ∀ k : Nat, k < 13 → ¬ 141 + 4 * k + 3 = z := by intro k hk e; have := hz (141 + 4 * k + 3) (by omega); rw [(hM.wt k hk).2.2.2.1] at this; exact absurd this (by decide)
  have tz : tE T (am_tu T z (kT k, 0)) := fun b hb => tu_o (fun e => hb (hz b (by omega)))
  obtain ⟨J1, hJ1⟩ : ∃ J1, J1 = ur J z (wkV (J z) k (S 15) v a b) := ⟨_, rfl⟩
  have f1 : ∀ b, ¬ b = z → J1 b = J b := fun b hb => by rw [hJ1, ur_o hb]
  have h' := cS_z (J' := J1) (z' := z + 1) (T' := am_tu T z (kT k, 0)) (R' := R) hM hz h tz (fun _ _ _ _ _ _ _ => rfl) rfl (fun _ => rfl) ⟨fun b b1 _ _ _ => f1 b (by omega), fun j _ => by rw [f1 _ z100], fun j j0 j5 => by rw [f1 _ zt]; exact h.1.1.2.2.2.2.2.2 j j0 j5, fun k hk j hj => by rw [f1 _ (zk k hk)]; exact h.2.2 k hk j hj⟩
  have hMT : cM (am_tu T z (kT k, 0)) R := cM_x hM tz (fun _ _ _ _ _ _ _ => rfl)
  obtain ⟨X, hX⟩ : ∃ X, X = peJ J z (S 15) k v a b := ⟨_, rfl⟩
  have f : ∀ b, ¬ b = 101 → ¬ b = 104 → ¬ b = 107 → X b = J1 b := fun b q1 q2 q3 => by rw [hX, hJ1]; unfold peJ; rw [ur_o q1, ur_o q2, ur_o q3]
  have x1 : X 101 = up (J 101) 3 (S 15 + 1) := by rw [hX]; unfold peJ; rw [ur_r]
  have x4 : X 104 = up (J 104) (S 15) a := by rw [hX]; unfold peJ; rw [ur_o (by omega), ur_r]
  have x7 : X 107 = up (J 107) (S 15) 1 := by rw [hX]; unfold peJ; rw [ur_o (by omega), ur_o (by omega), ur_r]
  have xz : X z = wkV (J z) k (S 15) v a b := by rw [f z z101 z104 z107, hJ1, ur_r]
  have y4 : J1 104 = J 104 := f1 _ (fun e => z104 e.symm)
  have y7 : J1 107 = J 107 := f1 _ (fun e => z107 e.symm)
  rw [← hX]
  obtain ⟨⟨g1, g2, g3, g4, g5, g6, g7⟩, ⟨n1, n2, n3, n4, n5⟩, hcz⟩ := h'
  have px : ∀ j, ¬ j = 15 → ¬ j = 4 + S 15 → ¬ j = 150 + S 15 → ¬ j = 156 + S 15 → ¬ j = 162 + S 15 → ¬ j = 168 + S 15 → ¬ j = 174 + S 15 → peS S k v a b j = S j := fun j q1 q2 q3 q4 q5 q6 q7 => by unfold peS; rw [up_o q1, up_o q2, up_o q7, up_o q6, up_o q5, up_o q4, up_o q3]
  have p15 : peS S k v a b 15 = S 15 + 1 := by unfold peS; rw [up_r]
  have p4 : peS S k v a b (4 + S 15) = 0 := by unfold peS; simp (disch := omega) only [up_o, up_r]
  have p150 : peS S k v a b (150 + S 15) = k := by unfold peS; simp (disch := omega) only [up_o, up_r]
  have p156 : peS S k v a b (156 + S 15) = v := by unfold peS; simp (disch := omega) only [up_o, up_r]
  have p162 : peS S k v a b (162 + S 15) = a := by unfold peS; simp (disch := omega) only [up_o, up_r]
  have p168 : peS S k v a b (168 + S 15) = b := by unfold peS; simp (disch := omega) only [up_o, up_r]
  have p174 : peS S k v a b (174 + S 15) = 1 := by unfold peS; simp (disch := omega) only [up_o, up_r]
  generalize peS S k v a b = S' at *
  have tl : ∀ a b, 200 ≤ a → tlS S' a b = tlS S a b := by
    intro a b ha
    have := hT.1
    unfold tlS
    rw [px 20 (by omega) (by omega) (by omega) (by omega) (by omega) (by omega) (by omega)]
    split
    · rfl
    · rw [px _ (by omega) (by omega) (by omega) (by omega) (by omega) (by omega) (by omega)]
  have ht : ∀ b, t ≤ b → b ≤ t + 6 → X b = J1 b := fun b b1 b2 => f b (by omega) (by omega) (by omega)
  have gt := ht t (by omega) (by omega)
  have ro : ∀ b j, ¬ b = 106 → am_u R 106 (S 15).toNat (some z) b j = R b j := fun b j hb => am_u_o (fun q => hb q.1)
  refine ⟨⟨?_, by rw [ro _ _ (by decide)]; exact g2, ⟨fun q hq => ?_, by rw [x1, up_r, p15]⟩, by rw [gt, tl _ _ (by omega)]; exact g4, by rw [gt, tl _ _ (by omega)]; exact g5, by rw [gt, tl _ _ (by omega)]; exact g6, g7⟩, ⟨fun j hj => ?_, fun q hq => ?_, ?_, ?_, fun j hj => ?_⟩, fun k hk j hj => ?_⟩
  · obtain ⟨e1, e2, e3, e4, e5, e6, e7⟩ := g1
    refine ⟨?_, e2, fun h s a1 a2 a3 a4 => ?_, loR_x gt (ht (t + 2) (by omega) (by omega)) (ht (t + 3) (by omega) (by omega)) (ht (t + 4) (by omega) (by omega)) (ht (t + 5) (by omega) (by omega)) cs 0 0 e4, by rw [gt]; exact e5, by rw [gt]; exact e6, fun j j0 j5 => by rw [ht _ (by omega) (by omega)]; exact e7 j j0 j5⟩
    · unfold tc
      simp only [ro t _ (show ¬ t = 106 by omega)]
      exact e1
    · rw [ht (t + 1) (by omega) (by omega)]; exact e3 h s a1 a2 a3 a4
  · rw [p15] at hq
    by_cases e : (q : Int) = S 15
    · have eq : q = (S 15).toNat := by omega
      refine ⟨⟨z, by rw [eq, am_u_r], ?_⟩, by rw [x7, e, up_r, p174], by rw [e, p162, p168]; exact hab⟩
      unfold pc1
      rw [tu_r, xz, e, p150, p162, p168, p156]
      unfold wkV
      simp (disch := omega) only [up_r, up_o]
      exact ⟨trivial, trivial, trivial, trivial, trivial, trivial⟩
    · obtain ⟨⟨y, y1, y2⟩, y3, y5⟩ := g3.1 q (by omega)
      have yl := y2.pl hMT g1.1
      obtain ⟨l1, l2, l3, l4⟩ := yl
      refine ⟨⟨y, by rw [am_u_o (by omega)]; exact y1, ?_⟩, by rw [x7, up_o e, px _ (by omega) (by omega) (by omega) (by omega) (by omega) (by omega) (by omega), ← y7]; exact y3, by rw [px _ (by omega) (by omega) (by omega) (by omega) (by omega) (by omega) (by omega), px (168 + q) (by omega) (by omega) (by omega) (by omega) (by omega) (by omega) (by omega)]; exact y5⟩
      unfold pc1 at y2 ⊢
      rw [f y (by omega) (by omega) (by omega), px (150 + q) (by omega) (by omega) (by omega) (by omega) (by omega) (by omega) (by omega), px (162 + q) (by omega) (by omega) (by omega) (by omega) (by omega) (by omega) (by omega), px (168 + q) (by omega) (by omega) (by omega) (by omega) (by omega) (by omega) (by omega), px (156 + q) (by omega) (by omega) (by omega) (by omega) (by omega) (by omega) (by omega)]
      exact y2
  · rw [f _ (by omega) (by omega) (by omega), px _ (by omega) (by omega) (by omega) (by omega) (by omega) (by omega) (by omega)]; exact n1 j hj
  · rw [x4]
    by_cases e : q = S 15
    · rw [e, up_r]; unfold dOf; rw [p4, if_pos rfl, p162]
    · rw [up_o e, ← y4, n2 q hq]
      unfold dOf
      rw [px (4 + q) (by omega) (by omega) (by omega) (by omega) (by omega) (by omega) (by omega), px (162 + q) (by omega) (by omega) (by omega) (by omega) (by omega) (by omega) (by omega), px (168 + q) (by omega) (by omega) (by omega) (by omega) (by omega) (by omega) (by omega)]
  · rw [f _ (by omega) (by omega) (by omega), px _ (by omega) (by omega) (by omega) (by omega) (by omega) (by omega) (by omega)]; exact n3
  · rw [f _ (by omega) (by omega) (by omega), px _ (by omega) (by omega) (by omega) (by omega) (by omega) (by omega) (by omega)]; exact n4
  · rw [f _ (by omega) (by omega) (by omega)]; exact n5 j hj
  · rw [f _ (by omega) (by omega) (by omega)]; exact hcz k hk j hj
end PE
