/-! means, powers, divisors -/
section AM
variable {d : Nat} {T : Nat → Nat × Nat} {R : Nat → Nat → Option Nat} {z w : Nat} {J Q : mR}
theorem asS_V (ts : List Int) : ∀ (n : Nat) (S : Int → Int) (o : Int) (A B : aA), A.1 = B.1 → A.2.1 = B.2.1 → (∀ j, 0 ≤ j → j < 4 → A.2.2 j = B.2.2 j) → (asS ts n S o A).1 = (asS ts n S o B).1 ∧ (asS ts n S o A).2.1 = (asS ts n S o B).2.1 ∧ (∀ j, 0 ≤ j → j < 4 → (asS ts n S o A).2.2 j = (asS ts n S o B).2.2 j) := by
  intro n
  induction n with
  | zero =>
    intro S o A B h1 h2 h3
    simp only [asS, h1, h2, true_and]
    intro j h4 h5
    unfold stV
    have : j = 0 ∨ j = 1 ∨ j = 2 ∨ j = 3 := by omega
    rcases this with rfl | rfl | rfl | rfl <;> simp (disch := omega) only [up_o, up_r, h3]
  | succ n ih =>
    intro S o A B h1 h2 h3
    simp only [asS]
    by_cases c1 : rainS ts (S 10) (S 11) < 10
    · obtain ⟨a1, a2, a3⟩ := ih (hrS ts S 0) (o * (10 - rainS ts (S 10) (S 11))) A B h1 h2 h3
      by_cases c2 : 0 < rainS ts (S 10) (S 11)
      · simp only [if_pos c1, if_pos c2]; exact ih _ _ _ _ a1 a2 a3
      · simp only [if_pos c1, if_neg c2]; exact ⟨a1, a2, a3⟩
    · by_cases c2 : 0 < rainS ts (S 10) (S 11)
      · simp only [if_neg c1, if_pos c2]; exact ih _ _ _ _ h1 h2 h3
      · simp only [if_neg c1, if_neg c2]; exact ⟨h1, h2, h3⟩
def p10 : Nat → Int
  | 0 => 1
  | n + 1 => p10 n * 10
theorem p10_pos : ∀ n, 0 < p10 n := by
  intro n; induction n with
  | zero => decide
  | succ n ih => simp only [p10]; omega
theorem p10_le : ∀ n : Nat, n ≤ 8 → p10 n ≤ 100000000 := by decide
theorem asS_b (ts : List Int) (hok : lkOk ts 0) (C : Int) : ∀ (n : Nat) (S : Int → Int) (o c : Int) (A : aA), oS S → oT S → tB c S → c + 606 * n ≤ C → S 10 + n < 1089 → 0 ≤ o → A.1 ≤ (asS ts n S o A).1 ∧ (asS ts n S o A).1 ≤ A.1 + o * p10 n * C ∧ A.2.1 ≤ (asS ts n S o A).2.1 ∧ (asS ts n S o A).2.1 ≤ A.2.1 + o * p10 n ∧ (∀ j, 0 ≤ j → j < 4 → A.2.2 j ≤ (asS ts n S o A).2.2 j ∧ (asS ts n S o A).2.2 j ≤ A.2.2 j + o * p10 n * 9) := by
  intro n
  induction n with
  | zero =>
    intro S o c A ho hT hc hC h10 h0
    simp only [asS, p10, Int.mul_one]
    have h12 := hc.1
    have e1 : 0 ≤ o * S 12 := Int.mul_nonneg h0 h12.1
    have e2 : o * S 12 ≤ o * C := Int.mul_le_mul_of_nonneg_left (by omega) h0
    refine ⟨by omega, by omega, by split <;> omega, by split <;> omega, ?_⟩
    intro j h4 h5
    have r := ho.2.1 j ⟨h4, h5⟩
    have e3 : 0 ≤ o * S j := Int.mul_nonneg h0 r.1
    have e4 : o * S j ≤ o * 9 := Int.mul_le_mul_of_nonneg_left r.2 h0
    unfold stV
    have : j = 0 ∨ j = 1 ∨ j = 2 ∨ j = 3 := by omega
    rcases this with rfl | rfl | rfl | rfl <;> simp (disch := omega) only [up_o, up_r] <;> omega
  | succ n ih =>
    intro S o c A ho hT hc hC h10 h0
    simp only [asS, p10]
    have rr := rainS_r ts hok (S 10) (S 11)
    have hr10 := ho.2.2.1
    have st : ∀ sky, 0 ≤ sky ∧ sky ≤ 1 → ∀ (o' : Int) (B : aA), 0 ≤ o' → B.1 ≤ (asS ts n (hrS ts S sky) o' B).1 ∧ (asS ts n (hrS ts S sky) o' B).1 ≤ B.1 + o' * p10 n * C ∧ B.2.1 ≤ (asS ts n (hrS ts S sky) o' B).2.1 ∧ (asS ts n (hrS ts S sky) o' B).2.1 ≤ B.2.1 + o' * p10 n ∧ (∀ j, 0 ≤ j → j < 4 → B.2.2 j ≤ (asS ts n (hrS ts S sky) o' B).2.2 j ∧ (asS ts n (hrS ts S sky) o' B).2.2 j ≤ B.2.2 j + o' * p10 n * 9) := by
      intro sky hsky o' B ho'
      obtain ⟨p1, p2, p3, p4, p5⟩ := hr_p (sky := sky) hok ho hc hT (by omega) hsky
      exact ih (hrS ts S sky) o' (c + 606) B p1 (p2.oT hT) p3 (by omega) (by omega) ho'
    generalize rainS ts (S 10) (S 11) = r at *
    have e0 : 0 ≤ o * (10 - r) := Int.mul_nonneg h0 (by omega)
    have e1 : 0 ≤ o * r := Int.mul_nonneg h0 (by omega)
    have es : o * (10 - r) + o * r = o * 10 := by rw [← Int.mul_add]; congr 1; omega
    have ep : ∀ x, o * (p10 n * 10) * x = o * (10 - r) * p10 n * x + o * r * p10 n * x := by
      intro x
      rw [← Int.add_mul, ← Int.add_mul, es, Int.mul_assoc o 10, Int.mul_comm 10]
    have ep1 : o * (p10 n * 10) = o * (10 - r) * p10 n + o * r * p10 n := by
      have := ep 1; simpa using this
    have hC0 : 0 ≤ C := by have := hc.1; omega
    have z0 : ∀ x, 0 ≤ x → 0 ≤ o * (10 - r) * p10 n * x := fun x hx => Int.mul_nonneg (Int.mul_nonneg e0 (Int.le_of_lt (p10_pos n))) hx
    have z1 : ∀ x, 0 ≤ x → 0 ≤ o * r * p10 n * x := fun x hx => Int.mul_nonneg (Int.mul_nonneg e1 (Int.le_of_lt (p10_pos n))) hx
    have y0 := z0 1 (by omega)
    have y1 := z1 1 (by omega)
    have x0 := z0 C hC0
    have x1 := z1 C hC0
    have w0 := z0 9 (by omega)
    have w1 := z1 9 (by omega)
    rw [Int.mul_one] at y0 y1
    rw [ep C, ep1]
    have A1 : ∃ B : aA, B = (if r < 10 then asS ts n (hrS ts S 0) (o * (10 - r)) A else A) ∧ A.1 ≤ B.1 ∧ B.1 ≤ A.1 + o * (10 - r) * p10 n * C ∧ A.2.1 ≤ B.2.1 ∧ B.2.1 ≤ A.2.1 + o * (10 - r) * p10 n ∧ (∀ j, 0 ≤ j → j < 4 → A.2.2 j ≤ B.2.2 j ∧ B.2.2 j ≤ A.2.2 j + o * (10 - r) * p10 n * 9) := by
      by_cases c1 : r < 10
      · rw [if_pos c1]; exact ⟨_, rfl, st 0 (by omega) _ A e0⟩
      · rw [if_neg c1]; exact ⟨A, rfl, by omega, by omega, by omega, by omega, fun j _ _ => by omega⟩
    obtain ⟨B, hB, b1, b2, b3, b4, b5⟩ := A1
    rw [← hB]
    by_cases c2 : 0 < r
    · rw [if_pos c2]
      obtain ⟨q1, q2, q3, q4, q5⟩ := st 1 (by omega) _ B e1
      refine ⟨by omega, by omega, by omega, by omega, fun j h4 h5 => ?_⟩
      have := b5 j h4 h5
      have := q5 j h4 h5
      have e9 := ep 9
      rw [ep1] at e9
      omega
    · rw [if_neg c2]
      refine ⟨by omega, by omega, by omega, by omega, fun j h4 h5 => ?_⟩
      have := b5 j h4 h5
      have e9 := ep 9
      rw [ep1] at e9
      omega
end AM
