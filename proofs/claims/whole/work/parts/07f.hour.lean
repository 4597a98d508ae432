/-! the reference's hour, whole -/
section HG
variable {d : Nat} {T : Nat → Nat × Nat} {L : Nat → Nat → Int64} {R : Nat → Nat → Option Nat} {z w : Nat} {J : mR}
/-- the same behind the frame's stretch -/
def sx (S S' : Int → Int) : Prop := ∀ j, 15 ≤ j → S' j = S j
theorem sx.i {S : Int → Int} : sx S S := fun _ _ => rfl
theorem sx.t {S S' S'' : Int → Int} (h : sx S S') (g : sx S' S'') : sx S S'' := fun j hj => (g j hj).trans (h j hj)
theorem sx.u {S : Int → Int} {k v : Int} (h : k < 15) : sx S (up S k v) := fun j hj => up_o (by omega)
theorem sx.seg {S S' : Int → Int} (h : sx S S') : ∀ (ts : List Int) (i : Int), 15 ≤ i → seg S i ts → seg S' i ts := by
  intro ts
  induction ts with
  | nil => intro i _ _; trivial
  | cons t ts ih =>
    intro i hi hs
    exact ⟨(h i hi).trans hs.1, ih (i + 1) (by omega) hs.2⟩
theorem sx.held {S S' : Int → Int} (h : sx S S') {ts : List Int} (g : held S ts) : held S' ts := by
  have e := h 20 (by omega)
  rcases g with ⟨a, b⟩ | ⟨a, b, c, f, k⟩
  · exact Or.inl ⟨by rw [e]; exact a, b⟩
  · refine Or.inr ⟨by rw [e]; exact a, by rw [e]; exact b, ?_, ?_, k⟩
    · rw [e, h _ (by omega)]; exact c
    · rw [e]; exact h.seg ts _ (by omega) f
theorem sx.tl {S S' : Int → Int} (h : sx S S') {a b : Int} (ha : 15 ≤ a) (h20 : -1 ≤ S 20) : tlS S' a b = tlS S a b := by
  unfold tlS
  rw [h 20 (by omega)]
  by_cases c : S 20 = -1
  · rw [if_pos c, if_pos c]
  · rw [if_neg c, if_neg c, h _ (by omega)]
theorem sx.oT {S S' : Int → Int} (h : sx S S') (g : oT S) : oT S' := by
  unfold _root_.Jvm.Pilot.@@N@@.oT at g ⊢
  rw [h 20 (by omega), h.tl (by omega) g.1.1, h.tl (by omega) g.1.1, h.tl (by omega) g.1.1]
  exact g
/-- a change of the stretch that keeps a state sound -/
theorem oS.x {S S' : Int → Int} (ho : oS S) (h : sx S S') (h1 : ∀ j, 0 ≤ j ∧ j < 4 → 0 ≤ S' j ∧ S' j ≤ 9) (h2 : ∀ p, 0 ≤ p ∧ p < 6 → 0 ≤ S' (4 + p) ∧ S' (4 + p) ≤ 1) (h3 : 0 ≤ S' 10 ∧ S' 10 < 1090) (h4 : 0 ≤ S' 11 ∧ S' 11 ≤ 1) : oS S' := by
  refine ⟨fun p hp => ?_, h1, h3, h4, ?_⟩
  · rw [h (162 + p) (by omega), h (168 + p) (by omega), h (174 + p) (by omega), h (150 + p) (by omega), h (156 + p) (by omega)]
    have := ho.1 p hp
    have := h2 p hp
    omega
  · rw [h 15 (by omega)]; exact ho.2.2.2.2
theorem wkS_sx (ts : List Int) (S U K : Int → Int) (p sky : Int) (hd : 0 ≤ dOf S p ∧ dOf S p < 4) : sx S (wkS ts S U K p sky) ∧ ∀ j, 4 ≤ j → j < 12 → wkS ts S U K p sky j = S j := by
  have q : ∀ {V : Int → Int} {k v j : Int}, ¬ j = k → up V k v j = V j := fun h => up_o h
  unfold wkS wtS
  constructor
  · intro j hj
    repeat' split
    all_goals simp (disch := omega) only [up_o]
  · intro j h1 h2
    repeat' split
    all_goals simp (disch := omega) only [up_o]
theorem tk_pos {S : Int → Int} {ts : List Int} {p sky : Int} (h : ¬ tkS S ts p sky = 0) : ¬ S (dOf S p) = 0 := by
  intro g; exact h (by unfold tkS; rw [if_pos g])
theorem wkS_o {ts : List Int} {S U K : Int → Int} {p sky : Int} (ho : oS S) (hp : 0 ≤ p ∧ p < 6) (hd : 0 ≤ dOf S p ∧ dOf S p < 4) : oS (wkS ts S U K p sky) := by
  obtain ⟨a, b⟩ := wkS_sx ts S U K p sky hd
  refine ho.x a (fun j hj => ?_) (fun p hp => ?_) ?_ ?_
  · have := ho.2.1 j hj
    unfold wkS wtS
    by_cases k : tkS S ts p sky = 0
    · rw [if_pos k]
      repeat' split
      all_goals (try simp (disch := omega) only [up_o])
      all_goals exact this
    · rw [if_neg k]
      have := tk_pos k
      have := ho.2.1 _ hd
      simp (disch := omega) only [up_o]
      unfold up
      split
      · omega
      · rw [if_neg (by omega)]; assumption
  · rw [b _ (by omega) (by omega)]; have := (ho.1 p hp).2.2.1; omega
  · rw [b _ (by omega) (by omega)]; exact ho.2.2.1
  · rw [b _ (by omega) (by omega)]; exact ho.2.2.2.1
theorem wkS_t {ts : List Int} {S U K : Int → Int} {p sky c : Int} (hok : lkOk ts 0) (ht : tB c S) (hT : oT S) (hd : 0 ≤ dOf S p ∧ dOf S p < 4) : tB (c + 100) (wkS ts S U K p sky) := by
  obtain ⟨h1, h2, h3⟩ := ht
  obtain ⟨t0, t1, t2, t3⟩ := hT
  have lr := (lkRes_r ts hok sky (S 10) p (dOf S p) (S (dOf S p))).2
  unfold wkS wtS tB
  by_cases k : tkS S ts p sky = 0
  · rw [if_pos k]
    repeat' split
    all_goals (try simp (disch := omega) only [up_o, up_r])
    all_goals omega
  · rw [if_neg k]
    simp (disch := omega) only [up_o, up_r]
    split <;> omega
end HG
