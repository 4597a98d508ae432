/-! the hour as a function of the state alone -/
section HI
variable {d : Nat} {T : Nat → Nat × Nat} {L : Nat → Nat → Int64} {R : Nat → Nat → Option Nat} {z w : Nat} {J : mR}
theorem oS.dd {S : Int → Int} (h : oS S) {p : Int} (hp : 0 ≤ p ∧ p < 6) : 0 ≤ dOf S p ∧ dOf S p < 4 := by
  have := h.1 p hp
  unfold dOf; split <;> omega
theorem oS.oo {S : Int → Int} (h : oS S) {p : Int} (hp : 0 ≤ p ∧ p < 6) : 0 ≤ oOf S p ∧ oOf S p < 4 := by
  have := h.1 p hp
  unfold oOf; split <;> omega
theorem h1_p {ts : List Int} {sky c : Int} (hok : lkOk ts 0) (q : hQ) (ho : oS q.1) (ht : tB c q.1) (hT : oT q.1) : ∀ k : Nat, k ≤ 6 → oS (h1S ts sky k q).1 ∧ sx q.1 (h1S ts sky k q).1 ∧ tB (c + 100 * k) (h1S ts sky k q).1 ∧ (∀ j, 4 ≤ j → j < 12 → (h1S ts sky k q).1 j = q.1 j) := by
  intro k
  induction k with
  | zero => intro _; exact ⟨ho, sx.i, (by show tB (c + 0) _; rw [Int.add_zero]; exact ht), fun _ _ _ => rfl⟩
  | succ k ih =>
    intro hk
    obtain ⟨a, b, e, f⟩ := ih (by omega)
    simp only [h1S]
    generalize h1S ts sky k q = q1 at *
    have hd := a.dd (p := (k : Int)) (by omega)
    unfold h1s
    split
    · obtain ⟨w1, w2⟩ := wkS_sx ts q1.1 (up q1.2.1 k 1) q1.2.2.1 k sky hd
      refine ⟨wkS_o a (by omega) hd, b.t w1, ?_, fun j h1 h2 => (w2 j h1 h2).trans (f j h1 h2)⟩
      have := wkS_t (U := up q1.2.1 k 1) (K := q1.2.2.1) (p := (k : Int)) (sky := sky) hok e (b.oT hT) hd
      show tB _ (wkS ts q1.1 (up q1.2.1 k 1) q1.2.2.1 k sky)
      unfold tB at this ⊢; omega
    · refine ⟨a, b, ?_, f⟩
      show tB _ q1.1
      unfold tB at e ⊢; omega
theorem alS_i {S U K U' K' : Int → Int} {p : Int} : ∀ n : Nat, (∀ i : Nat, i < n → U i = U' i ∧ (¬ U i = 0 → K i = K' i)) → alS S U K p n = alS S U' K' p n := by
  intro n
  induction n with
  | zero => intro _; rfl
  | succ n ih =>
    intro h
    have := h n (by omega)
    simp only [alS, ih (fun i hi => h i (by omega)), this.1]
    by_cases u : U' n = 0
    · rw [if_pos u, if_pos u]
    · rw [if_neg u, if_neg u, this.2 (by rw [this.1]; exact u)]
/-- two books of an hour agree on what is told in them -/
def h1e (k : Nat) (q q' : hQ) : Prop := q.1 = q'.1 ∧ ∀ i : Nat, i < k → q.2.1 i = q'.2.1 i ∧ (¬ q.2.1 i = 0 → q.2.2.1 i = q'.2.2.1 i ∧ q.2.2.2 i = q'.2.2.2 i)
theorem h1_i {ts : List Int} {sky : Int} {q q' : hQ} (hq : q.1 = q'.1) : ∀ k : Nat, h1e k (h1S ts sky k q) (h1S ts sky k q') := by
  intro k
  induction k with
  | zero => exact ⟨hq, fun i hi => by omega⟩
  | succ k ih =>
    simp only [h1S]
    generalize h1S ts sky k q = a at *
    generalize h1S ts sky k q' = b at *
    obtain ⟨a1, a2, a3, a4⟩ := a
    obtain ⟨b1, b2, b3, b4⟩ := b
    obtain ⟨e1, e2⟩ := ih
    simp only at e1 e2
    subst e1
    simp only [h1s]
    by_cases c : a1 10 % a1 (174 + k) = 0
    · rw [if_pos c, if_pos c]
      refine ⟨?_, fun i hi => ?_⟩
      · have : agS a1 (up a2 k 1) (up a3 k 0) k = agS a1 (up b2 k 1) (up b3 k 0) k := by
          unfold agS
          rw [alS_i]
          intro i hi
          have hi : (i : Int) < k := by omega
          have := e2 i (by omega)
          simp (disch := omega) only [up_o]
          exact ⟨this.1, fun u => (this.2 u).1⟩
        show wkS ts a1 (up a2 k 1) a3 k sky = wkS ts a1 (up b2 k 1) b3 k sky
        unfold wkS
        rw [this]
      · show up a2 k 1 i = up b2 k 1 i ∧ (¬ up a2 k 1 i = 0 → up a3 k _ i = up b3 k _ i ∧ up a4 k _ i = up b4 k _ i)
        by_cases e : i = k
        · subst e; simp only [up_r]; exact ⟨trivial, fun _ => ⟨trivial, trivial⟩⟩
        · have e' : ¬ (i : Int) = k := by omega
          simp only [up_o e']
          exact e2 i (by omega)
    · rw [if_neg c, if_neg c]
      refine ⟨rfl, fun i hi => ?_⟩
      show up a2 k 0 i = up b2 k 0 i ∧ (¬ up a2 k 0 i = 0 → a3 i = b3 i ∧ a4 i = b4 i)
      by_cases e : i = k
      · subst e; simp only [up_r]; exact ⟨trivial, fun g => absurd trivial (by simpa using g)⟩
      · have e' : ¬ (i : Int) = k := by omega
        simp only [up_o e']
        exact e2 i (by omega)
theorem h2_i {S U G U' G' : Int → Int} : ∀ k : Nat, (∀ i : Nat, i < k → U i = U' i ∧ (¬ U i = 0 → G i = G' i)) → h2S U G k S = h2S U' G' k S := by
  intro k
  induction k with
  | zero => intro _; rfl
  | succ k ih =>
    intro h
    have := h k (by omega)
    simp only [h2S, ih (fun i hi => h i (by omega))]
    unfold h2s
    by_cases u : U k = 0
    · have u' : U' k = 0 := by rw [← this.1]; exact u
      rw [if_pos u, if_pos u']
    · have u' : ¬ U' k = 0 := by rw [← this.1]; exact u
      rw [if_neg u, if_neg u', this.2 u]
abbrev q0 (S : Int → Int) : hQ := (S, fun _ => 0, fun _ => 0, fun _ => 0)
/-- AN HOUR -/
def hrS (ts : List Int) (S : Int → Int) (sky : Int) : Int → Int := hrJ ts sky (q0 S)
theorem hr_i {ts : List Int} {sky : Int} {q : hQ} : hrJ ts sky q = hrS ts q.1 sky := by
  obtain ⟨e1, e2⟩ := h1_i (ts := ts) (sky := sky) (q := q) (q' := q0 q.1) rfl (q.1 15).toNat
  have e3 := h2_i (S := (h1S ts sky (q.1 15).toNat q).1) (U := (h1S ts sky (q.1 15).toNat q).2.1) (G := (h1S ts sky (q.1 15).toNat q).2.2.2) (U' := (h1S ts sky (q.1 15).toNat (q0 q.1)).2.1) (G' := (h1S ts sky (q.1 15).toNat (q0 q.1)).2.2.2) (q.1 15).toNat (fun i hi => ⟨(e2 i hi).1, fun u => ((e2 i hi).2 u).2⟩)
  unfold hrS hrJ
  rw [e3, e1]
theorem h2_p {U G S : Int → Int} {c : Int} (ho : oS S) (ht : tB c S) : ∀ k : Nat, k ≤ 6 → oS (h2S U G k S) ∧ sx S (h2S U G k S) ∧ tB (c + k) (h2S U G k S) ∧ h2S U G k S 10 = S 10 := by
  intro k
  induction k with
  | zero => intro _; exact ⟨ho, sx.i, (by show tB (c + 0) _; rw [Int.add_zero]; exact ht), rfl⟩
  | succ k ih =>
    intro hk
    obtain ⟨a, b, e, f⟩ := ih (by omega)
    simp only [h2S]
    obtain ⟨p1, p2, p3, p4⟩ := h2s_p (U := U) (G := G) (p := (k : Int)) a e (by omega) (a.oo (by omega))
    refine ⟨p1, b.t p2, ?_, p4.trans f⟩
    rw [nc_s, ← Int.add_assoc]; exact p3
theorem hr_p {ts : List Int} {S : Int → Int} {sky c : Int} (hok : lkOk ts 0) (ho : oS S) (ht : tB c S) (hT : oT S) (h10 : S 10 < 1089) (hsky : 0 ≤ sky ∧ sky ≤ 1) : oS (hrS ts S sky) ∧ sx S (hrS ts S sky) ∧ tB (c + 606) (hrS ts S sky) ∧ hrS ts S sky 10 = S 10 + 1 ∧ hrS ts S sky 11 = sky := by
  have hkn := ho.2.2.2.2
  obtain ⟨a, b, e, f⟩ := h1_p (ts := ts) (sky := sky) hok (q0 S) ho ht hT (S 15).toNat (by omega)
  obtain ⟨a2, b2, e2, f2⟩ := h2_p (U := (h1S ts sky (S 15).toNat (q0 S)).2.1) (G := (h1S ts sky (S 15).toNat (q0 S)).2.2.2) a e (S 15).toNat (by omega)
  have h10' := ho.2.2.1
  unfold hrS hrJ
  simp only [] at *
  generalize h2S (h1S ts sky (S 15).toNat (q0 S)).2.1 (h1S ts sky (S 15).toNat (q0 S)).2.2.2 (S 15).toNat (h1S ts sky (S 15).toNat (q0 S)).1 = S2 at *
  have hx : sx S2 (up (up S2 11 sky) 10 (S 10 + 1)) := fun j hj => by simp (disch := omega) only [up_o]
  refine ⟨a2.x hx (fun j hj => ?_) (fun p hp => ?_) ?_ ?_, b.t (b2.t hx), ?_, up_r, ?_⟩
  · simp (disch := omega) only [up_o]; exact a2.2.1 j hj
  · simp (disch := omega) only [up_o]; exact (a2.1 p hp).2.2.1
  · rw [up_r]; omega
  · rw [up_o (by omega), up_r]; exact hsky
  · unfold tB at e2 ⊢; simp (disch := omega) only [up_o]; omega
  · rw [up_o (by omega), up_r]
theorem n_hour (h : rM T R) (sky : Int) (hsky : 0 ≤ sky ∧ sky ≤ 1) (ts : List Int) (hok : lkOk ts 0) (hJ : rJ J) (ho : oS (J 194)) (hts : held (J 194) ts) (hT : oT (J 194)) (hc : tB 900000 (J 194)) : ∃ J' : mR, rn_c (d + 5) 138 [.ref 193, .int (iI sky)] (T, oI J, L, R, z, w) = some (none, (T, oI J', L, R, z, w)) ∧ rJ J' ∧ fB J J' ∧ J' 194 = hrS ts (J 194) sky := by
  obtain ⟨J', a, b, c, e⟩ := n_hourGoes0 (d := d) (L := L) (z := z) (w := w) h sky hsky ts hok hJ ho hts hT hc
  exact ⟨J', a, b, c, e.trans hr_i⟩
end HI
