/-! the class's hour against the reference's: what is pure of it -/
section HP
theorem dOf_x {S S' : Int → Int} {p : Int} (h1 : S' (4 + p) = S (4 + p)) (h2 : S' (162 + p) = S (162 + p)) (h3 : S' (168 + p) = S (168 + p)) : dOf S' p = dOf S p ∧ oOf S' p = oOf S p := by
  unfold dOf oOf; rw [h1, h2, h3]; exact ⟨rfl, rfl⟩
theorem alS_S {S S' U K : Int → Int} {p : Int} (hp : 0 ≤ p ∧ p < 6) (h : ∀ q, 0 ≤ q ∧ q < 6 → dOf S' q = dOf S q ∧ oOf S' q = oOf S q) : ∀ n : Nat, n ≤ 6 → alS S' U K p n = alS S U K p n := by
  intro n
  induction n with
  | zero => intro _; rfl
  | succ n ih =>
    intro hn
    simp only [alS]
    rw [ih (by omega), (h n (by omega)).1, (h n (by omega)).2, (h p hp).1, (h p hp).2]
/-- how many bring theirs to a door -/
def cnG (U G S : Int → Int) : Nat → Int → Int
  | 0, _ => 0
  | k + 1, j => cnG U G S k j + (if U (k : Int) = 0 then 0 else if G (k : Int) = 0 then 0 else if oOf S (k : Int) = j then 1 else 0)
theorem cnG_i {U G U' G' S : Int → Int} {j : Int} : ∀ n : Nat, (∀ i : Nat, i < n → U i = U' i ∧ (¬ U i = 0 → G i = G' i)) → cnG U G S n j = cnG U' G' S n j := by
  intro n
  induction n with
  | zero => intro _; rfl
  | succ n ih =>
    intro h
    have := h n (by omega)
    simp only [cnG]
    rw [ih (fun i hi => h i (by omega)), this.1]
    by_cases u : U' n = 0
    · rw [if_pos u, if_pos u]
    · rw [if_neg u, if_neg u, this.2 (by rw [this.1]; exact u)]
theorem cnG_r {U G S : Int → Int} {j : Int} : ∀ n : Nat, 0 ≤ cnG U G S n j ∧ cnG U G S n j ≤ n := by
  intro n
  induction n with
  | zero => exact ⟨Int.le_refl _, Int.le_refl _⟩
  | succ n ih =>
    simp only [cnG]
    repeat' split
    all_goals omega
theorem alS_u {S U K : Int → Int} {p u v : Int} {k n : Nat} (hn : n ≤ k) : alS S (up U k u) (up K k v) p n = alS S U K p n := by
  apply alS_i
  intro i hi
  rw [up_o (by omega), up_o (by omega)]
  exact ⟨rfl, fun _ => rfl⟩
theorem alS_u' {S U K : Int → Int} {p u : Int} {k n : Nat} (hn : n ≤ k) : alS S (up U k u) K p n = alS S U K p n := by
  apply alS_i
  intro i hi
  rw [up_o (by omega)]
  exact ⟨rfl, fun _ => rfl⟩
theorem h2_cn {U G S1 S0 : Int → Int} (ho : oS S1) (hd : ∀ q, 0 ≤ q ∧ q < 6 → oOf S1 q = oOf S0 q) : ∀ k : Nat, k ≤ 6 → (∀ j, 0 ≤ j ∧ j < 4 → h2S U G k S1 j = mn9 (S1 j + cnG U G S0 k j)) ∧ h2S U G k S1 14 = S1 14 + (S1 0 + cnG U G S0 k 0 - mn9 (S1 0 + cnG U G S0 k 0)) + (S1 1 + cnG U G S0 k 1 - mn9 (S1 1 + cnG U G S0 k 1)) + (S1 2 + cnG U G S0 k 2 - mn9 (S1 2 + cnG U G S0 k 2)) + (S1 3 + cnG U G S0 k 3 - mn9 (S1 3 + cnG U G S0 k 3)) ∧ (∀ p, 0 ≤ p ∧ p < 6 → h2S U G k S1 (4 + p) = if p < k ∧ ¬ U p = 0 then 1 - S1 (4 + p) else S1 (4 + p)) ∧ (∀ j, 10 ≤ j → ¬ j = 14 → h2S U G k S1 j = S1 j) := by
  intro k
  induction k with
  | zero =>
    intro _
    have s0 := ho.2.1 0 (by omega)
    have s1 := ho.2.1 1 (by omega)
    have s2 := ho.2.1 2 (by omega)
    have s3 := ho.2.1 3 (by omega)
    simp only [h2S, cnG, Int.add_zero]
    refine ⟨fun j hj => ?_, ?_, fun p hp => ?_, fun _ _ _ => trivial⟩
    · have := ho.2.1 j hj
      unfold mn9; rw [if_pos (by omega)]
    · unfold mn9
      rw [if_pos (by omega), if_pos (by omega), if_pos (by omega), if_pos (by omega)]; omega
    · rw [if_neg (by omega)]
  | succ k ih =>
    intro hk
    obtain ⟨i1, i2, i3, i4⟩ := ih (by omega)
    have hkk : 0 ≤ (k : Int) ∧ (k : Int) < 6 := by omega
    have r := ho.oo hkk
    have eo : oOf (h2S U G k S1) k = oOf S0 k := by
      rw [← hd k hkk]
      refine (dOf_x ?_ (i4 _ (by omega) (by omega)) (i4 _ (by omega) (by omega))).2
      rw [i3 k hkk, if_neg (by omega)]
    rw [hd k hkk] at r
    simp only [h2S]
    generalize hS : h2S U G k S1 = S at *
    unfold h2s
    by_cases u : U k = 0
    · rw [if_pos u]
      simp only [cnG, if_pos u, Int.add_zero]
      refine ⟨i1, i2, fun p hp => ?_, i4⟩
      rw [i3 p hp]
      by_cases e : p = k
      · subst e
        rw [if_neg (by omega), if_neg (by intro q; exact q.2 u)]
      · by_cases c : p < k ∧ ¬ U p = 0
        · rw [if_pos c, if_pos ⟨by omega, c.2⟩]
        · rw [if_neg c, if_neg (by intro q; exact c ⟨by omega, q.2⟩)]
    rw [if_neg u, eo]
    simp only [cnG, if_neg u]
    refine ⟨fun j hj => ?_, ?_, fun p hp => ?_, fun j h1 h2 => ?_⟩
    · have := i1 j hj
      have sj := ho.2.1 j hj
      have cj := cnG_r (U := U) (G := G) (S := S0) (j := j) k
      rw [up_o (by omega)]
      by_cases e : j = oOf S0 k
      · rw [e, up_r, ← e]
        rw [this]
        by_cases g : G k = 0
        · rw [if_pos g, if_pos g]; rw [Int.add_zero, Int.add_zero]
        · rw [if_neg g, if_neg g, if_pos rfl]
          unfold mn9
          repeat' split
          all_goals omega
      · rw [up_o e, up_o (by omega), this]
        by_cases g : G k = 0
        · rw [if_pos g, Int.add_zero]
        · rw [if_neg g, if_neg (fun q => e q.symm), Int.add_zero]
    · rw [up_o (by omega), up_o (by omega), up_r, i2]
      by_cases g : G k = 0
      · simp only [if_pos g, Int.add_zero]
      · simp only [if_neg g]
        have i1' := i1 (oOf S0 k) r
        rw [i1']
        have c0 := cnG_r (U := U) (G := G) (S := S0) (j := 0) k
        have c1 := cnG_r (U := U) (G := G) (S := S0) (j := 1) k
        have c2 := cnG_r (U := U) (G := G) (S := S0) (j := 2) k
        have c3 := cnG_r (U := U) (G := G) (S := S0) (j := 3) k
        have s0 := ho.2.1 0 (by omega)
        have s1 := ho.2.1 1 (by omega)
        have s2 := ho.2.1 2 (by omega)
        have s3 := ho.2.1 3 (by omega)
        have mS : ∀ x : Int, 0 ≤ x → x + 1 - mn9 (x + 1) = x - mn9 x + (if 9 ≤ mn9 x then 1 else 0) := by
          intro x hx
          unfold mn9
          repeat' split
          all_goals omega
        generalize hg : oOf S0 k = e at *
        have : e = 0 ∨ e = 1 ∨ e = 2 ∨ e = 3 := by omega
        rcases this with rfl | rfl | rfl | rfl
        · have m := mS (S1 0 + cnG U G S0 k 0) (by omega)
          simp only [Int.reduceEq, if_true, if_false, Int.add_zero, ← Int.add_assoc, m]
          generalize (if 9 ≤ mn9 (S1 0 + cnG U G S0 k 0) then (1 : Int) else 0) = y
          omega
        · have m := mS (S1 1 + cnG U G S0 k 1) (by omega)
          simp only [Int.reduceEq, if_true, if_false, Int.add_zero, ← Int.add_assoc, m]
          generalize (if 9 ≤ mn9 (S1 1 + cnG U G S0 k 1) then (1 : Int) else 0) = y
          omega
        · have m := mS (S1 2 + cnG U G S0 k 2) (by omega)
          simp only [Int.reduceEq, if_true, if_false, Int.add_zero, ← Int.add_assoc, m]
          generalize (if 9 ≤ mn9 (S1 2 + cnG U G S0 k 2) then (1 : Int) else 0) = y
          omega
        · have m := mS (S1 3 + cnG U G S0 k 3) (by omega)
          simp only [Int.reduceEq, if_true, if_false, Int.add_zero, ← Int.add_assoc, m]
    · by_cases e : p = k
      · subst e
        rw [up_r, i3 k hkk, if_neg (by omega), if_pos ⟨by omega, u⟩]
      · rw [up_o (by omega), up_o (by omega), up_o (by omega), i3 p hp]
        by_cases c : p < k ∧ ¬ U p = 0
        · rw [if_pos c, if_pos ⟨by omega, c.2⟩]
        · rw [if_neg c, if_neg (by intro q; exact c ⟨by omega, q.2⟩)]
    · rw [up_o (by omega), up_o (by omega), up_o (by omega)]
      exact i4 j h1 h2
end HP
