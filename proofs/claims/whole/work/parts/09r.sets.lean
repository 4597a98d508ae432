/-! sets of hours: the search that leaves out what is no better is as good -/
section SR
theorem wk13 {ts : List Int} {S U K : Int → Int} {p sky : Int} (hd : 0 ≤ dOf S p ∧ dOf S p < 4) : S 13 ≤ wkS ts S U K p sky 13 := by
  unfold wkS wtS
  repeat' split
  all_goals (try simp (disch := omega) only [up_o, up_r])
  all_goals omega
theorem hr13 {ts : List Int} {S : Int → Int} {sky c : Int} (hok : lkOk ts 0) (ho : oS S) (ht : tB c S) (hT : oT S) : S 13 ≤ hrS ts S sky 13 := by
  have hkn := ho.2.2.2.2
  have k1 : ∀ k : Nat, k ≤ 6 → S 13 ≤ (h1S ts sky k (q0 S)).1 13 := by
    intro k
    induction k with
    | zero => intro _; exact Int.le_refl _
    | succ k ih =>
      intro hk
      obtain ⟨a, b, e, f⟩ := h1_p (ts := ts) (sky := sky) hok (q0 S) ho ht hT k (by omega)
      have := ih (by omega)
      simp only [h1S]
      generalize h1S ts sky k (q0 S) = q1 at *
      unfold h1s
      split
      · exact Int.le_trans this (wk13 (a.dd (by omega)))
      · exact this
  obtain ⟨a, b, e, f⟩ := h1_p (ts := ts) (sky := sky) hok (q0 S) ho ht hT (S 15).toNat (by omega)
  have q1 := k1 (S 15).toNat (by omega)
  unfold hrS hrJ
  simp only [] at *
  generalize h1S ts sky (S 15).toNat (q0 S) = q2 at *
  have k2 : ∀ k : Nat, k ≤ 6 → (h2S q2.2.1 q2.2.2.2 k q2.1) 13 = q2.1 13 := by
    intro k
    induction k with
    | zero => intro _; rfl
    | succ k ih =>
      intro hk
      obtain ⟨a2, b2, e2, f2⟩ := h2_p (U := q2.2.1) (G := q2.2.2.2) a e k (by omega)
      have := ih (by omega)
      simp only [h2S]
      generalize h2S q2.2.1 q2.2.2.2 k q2.1 = S2 at *
      have oo := a2.oo (p := (k : Int)) (by omega)
      unfold h2s
      split
      · exact this
      · simp (disch := omega) only [up_o]; exact this
  simp (disch := omega) only [up_o]
  rw [k2 _ (by omega)]
  exact q1
theorem ndW_c (ts : List Int) (S : Int → Int) (s s' : Nat) : ∀ k : Nat, (∀ i, i < k → s / 2 ^ i % 2 = s' / 2 ^ i % 2) → ndW ts S s k = ndW ts S s' k := by
  intro k
  induction k with
  | zero => intro _; rfl
  | succ k ih =>
    intro h
    simp only [ndW]
    rw [ih (fun i hi => h i (by omega)), h k (by omega)]
/-- bits -/
theorem bq (x i : Nat) : x / 2 ^ i % 2 = (x.testBit i).toNat := (Nat.toNat_testBit x i).symm
theorem bq_mod (x k i : Nat) : (x % 2 ^ k) / 2 ^ i % 2 = if i < k then x / 2 ^ i % 2 else 0 := by
  rw [bq, bq, Nat.testBit_mod_two_pow]
  by_cases h : i < k
  · rw [if_pos h]; simp [h]
  · rw [if_neg h]; simp [h]
theorem bq_eq {x y k : Nat} (h : x % 2 ^ k = y % 2 ^ k) {i : Nat} (hi : i < k) : x / 2 ^ i % 2 = y / 2 ^ i % 2 := by
  have a := bq_mod x k i
  have b := bq_mod y k i
  rw [if_pos hi] at a b
  rw [← a, ← b, h]
theorem bq_add {s k i : Nat} (hs : s < 2 ^ k) : (s + 2 ^ k) / 2 ^ i % 2 = if i = k then 1 else s / 2 ^ i % 2 := by
  rw [Nat.add_comm, bq, bq]
  by_cases h : i = k
  · subst h
    rw [if_pos rfl, Nat.testBit_two_pow_add_eq, Nat.testBit_lt_two_pow hs]; rfl
  · rw [if_neg h]
    by_cases h2 : i < k
    · rw [Nat.testBit_two_pow_add_gt h2]
    · have h3 : k < i := by omega
      have p1 : 2 ^ (k + 1) ≤ 2 ^ i := Nat.pow_le_pow_right (by omega) (by omega)
      have p2 : 2 ^ (k + 1) = 2 ^ k + 2 ^ k := by rw [Nat.pow_succ]; omega
      rw [Nat.testBit_lt_two_pow (by omega), Nat.testBit_lt_two_pow (by omega)]
theorem popN_bt (x : Nat) : popN x = x / 2 ^ 0 % 2 + x / 2 ^ 1 % 2 + x / 2 ^ 2 % 2 + x / 2 ^ 3 % 2 + x / 2 ^ 4 % 2 + x / 2 ^ 5 % 2 + x / 2 ^ 6 % 2 + x / 2 ^ 7 % 2 + x / 2 ^ 8 % 2 + x / 2 ^ 9 % 2 + x / 2 ^ 10 % 2 + x / 2 ^ 11 % 2 := by
  unfold popN
  rw [Nat.pow_zero, Nat.div_one]
theorem popN_le {x y : Nat} (h : ∀ i, i < 12 → x / 2 ^ i % 2 ≤ y / 2 ^ i % 2) : popN x ≤ popN y := by
  rw [popN_bt, popN_bt]
  have h0 := h 0 (by omega)
  have h1 := h 1 (by omega)
  have h2 := h 2 (by omega)
  have h3 := h 3 (by omega)
  have h4 := h 4 (by omega)
  have h5 := h 5 (by omega)
  have h6 := h 6 (by omega)
  have h7 := h 7 (by omega)
  have h8 := h 8 (by omega)
  have h9 := h 9 (by omega)
  have h10 := h 10 (by omega)
  have h11 := h 11 (by omega)
  generalize x / 2 ^ 0 % 2 = a0, y / 2 ^ 0 % 2 = b0, x / 2 ^ 1 % 2 = a1, y / 2 ^ 1 % 2 = b1, x / 2 ^ 2 % 2 = a2, y / 2 ^ 2 % 2 = b2, x / 2 ^ 3 % 2 = a3, y / 2 ^ 3 % 2 = b3, x / 2 ^ 4 % 2 = a4, y / 2 ^ 4 % 2 = b4, x / 2 ^ 5 % 2 = a5, y / 2 ^ 5 % 2 = b5, x / 2 ^ 6 % 2 = a6, y / 2 ^ 6 % 2 = b6, x / 2 ^ 7 % 2 = a7, y / 2 ^ 7 % 2 = b7, x / 2 ^ 8 % 2 = a8, y / 2 ^ 8 % 2 = b8, x / 2 ^ 9 % 2 = a9, y / 2 ^ 9 % 2 = b9, x / 2 ^ 10 % 2 = a10, y / 2 ^ 10 % 2 = b10, x / 2 ^ 11 % 2 = a11, y / 2 ^ 11 % 2 = b11 at *
  omega
theorem popN_12 (x : Nat) : popN x ≤ 12 := by unfold popN; omega
/-- how good a set is -/
def kyN (b : Int) : Int := if b = -5 then 100000 else (popN b.toNat : Int) * 4096 + b
/-- the search -/
def skF (ts : List Int) (S : Int → Int) (n : Nat) : Nat → Nat → Int → Int
  | 0, s, b => if b = -5 then s else if popN b.toNat < popN s then b else if popN s < popN b.toNat then s else if (s : Int) < b then s else b
  | m + 1, s, b => if ¬ b = -5 ∧ popN b.toNat < popN s then b else
      if 0 < caN (ndW ts S s (n - (m + 1))) (tlS S 230 2) ∧ ndW ts S (s + 2 ^ (n - (m + 1))) (n - m) 13 = 0 then skF ts S n m (s + 2 ^ (n - (m + 1))) (if ndW ts S s (n - m) 13 = 0 then skF ts S n m s b else b)
      else if ndW ts S s (n - m) 13 = 0 then skF ts S n m s b else b
theorem ndW13 {ts : List Int} {S : Int → Int} (ho : oR ts S) (s n : Nat) (hn : n ≤ 20) (hr : ∀ k : Nat, k < n → 0 ≤ S (180 + k) ∧ S (180 + k) ≤ 1) : ∀ k : Nat, k ≤ n → 0 ≤ ndW ts S s k 13 ∧ ndW ts S s k 13 ≤ ndW ts S s n 13 := by
  induction n with
  | zero =>
    intro k hk
    obtain rfl : k = 0 := by omega
    obtain ⟨a, b, c, e⟩ := ndW_p ho s 0 (by omega) hr
    exact ⟨c.2.1.1, Int.le_refl _⟩
  | succ n ih =>
    intro k hk
    obtain ⟨a, b, c, e⟩ := ndW_p ho s k (by omega) (fun i hi => hr i (by omega))
    refine ⟨c.2.1.1, ?_⟩
    by_cases ek : k = n + 1
    · subst ek; exact Int.le_refl _
    refine Int.le_trans (ih (by omega) (fun i hi => hr i (by omega)) k (by omega)).2 ?_
    obtain ⟨a, b, c, e⟩ := ndW_p ho s n (by omega) (fun i hi => hr i (by omega))
    have o3 := ho.2.2.1
    have o4 := ho.2.2.2.1
    simp only [ndW]
    by_cases q : s / 2 ^ n % 2 = 1
    · rw [if_pos q]
      obtain ⟨c1, c2, c3, c4, c5⟩ := caS_p (load := tlS S 230 2) a o4.2.2.2.1
      have := hr13 (ts := ts) (sky := S (180 + n)) (c := 606 * n) o3 c1 (by unfold tB at c ⊢; rw [c3 _ (by omega), c3 _ (by omega), c3 _ (by omega)]; exact c) (c2.oT (b.oT o4))
      rw [c3 13 (by omega)] at this
      exact this
    · rw [if_neg q]
      exact hr13 (ts := ts) (sky := S (180 + n)) (c := 606 * n) o3 a c (b.oT o4)
end SR
