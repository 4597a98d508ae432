/-! what an E comes to: a stack of truths, as a number's bits and as a row -/
theorem bt_n {n i : Nat} (hi : i < 32) : bt (nI n) i = n.testBit i := by
  show (BitVec.ofNat 32 n).getLsbD i = _
  rw [BitVec.getLsbD_ofNat]
  simp [hi]
theorem nI_b {m n : Nat} : m = n → nI m = nI n := fun h => by rw [h]
theorem tb_0 (q x : Nat) (hx : x < 2) : (2 * q + x).testBit 0 = decide (x = 1) := by
  rw [Nat.testBit_zero]
  congr 1
  apply propext; omega
theorem tb_s (q x i : Nat) (hx : x < 2) : (2 * q + x).testBit (i + 1) = q.testBit i := by
  rw [Nat.testBit_succ]
  congr 1
  omega
theorem bv_xor (q x : Nat) (hx : x < 2) : nI (2 * q + x) ^^^ nI 1 = nI (2 * q + (1 - x)) := by
  apply b_ext
  intro i hi
  have hb : bt (nI (2 * q + x) ^^^ nI 1) i = (bt (nI (2 * q + x)) i ^^ bt (nI 1) i) := by
    show ((nI (2 * q + x)).toBitVec ^^^ (nI 1).toBitVec).getLsbD i = _
    rw [BitVec.getLsbD_xor]; rfl
  rw [hb, bt_n hi, bt_n hi, bt_n hi]
  cases i with
  | zero =>
    rw [tb_0 _ _ hx, tb_0 _ _ (by omega)]
    have : x = 0 ∨ x = 1 := by omega
    rcases this with rfl | rfl <;> rfl
  | succ i =>
    rw [tb_s _ _ _ hx, tb_s _ _ _ (by omega), show (1 : Nat) = 2 * 0 + 1 from rfl, tb_s _ _ _ (by omega), Nat.zero_testBit, Bool.xor_false]
theorem bv_push (q x : Nat) (hx : x < 2) (hq : q < 16777216) : (nI q <<< (iI 1 &&& 31)) ||| nI x = nI (2 * q + x) := by
  rw [pk_shlN (iI 1 &&& 31) 1 (by decide) (by omega)]
  apply b_ext
  intro i hi
  rw [b_or, bt_n hi, bt_n hi, bt_n hi, show q * 2 ^ 1 = 2 * q + 0 by omega]
  cases i with
  | zero =>
    rw [tb_0 _ _ (by omega), tb_0 _ _ hx]
    have : x = 0 ∨ x = 1 := by omega
    rcases this with rfl | rfl <;> rfl
  | succ i =>
    have e : x.testBit (i + 1) = false := by
      have := tb_s 0 x i hx
      rw [Nat.mul_zero, Nat.zero_add, Nat.zero_testBit] at this
      exact this
    rw [tb_s _ _ _ (by omega), tb_s _ _ _ hx, e, Bool.or_false]
theorem bv_or (q x y : Nat) (hx : x < 2) (hy : y < 2) : nI (2 * q + x) ||| nI y = nI (2 * q + (if x = 0 then y else 1)) := by
  apply b_ext
  intro i hi
  rw [b_or, bt_n hi, bt_n hi, bt_n hi]
  cases i with
  | zero =>
    have h0 : y.testBit 0 = decide (y = 1) := by have := tb_0 0 y hy; rwa [Nat.mul_zero, Nat.zero_add] at this
    rw [tb_0 _ _ hx, tb_0 _ _ (by split <;> omega), h0]
    have : x = 0 ∨ x = 1 := by omega
    have : y = 0 ∨ y = 1 := by omega
    rcases ‹x = 0 ∨ x = 1› with rfl | rfl <;> rcases ‹y = 0 ∨ y = 1› with rfl | rfl <;> rfl
  | succ i =>
    have e : y.testBit (i + 1) = false := by
      have := tb_s 0 y i hy
      rw [Nat.mul_zero, Nat.zero_add, Nat.zero_testBit] at this
      exact this
    rw [tb_s _ _ _ hx, tb_s _ _ _ (by split <;> omega), e, Bool.or_false]
theorem bt_m2 : ∀ i, i < 32 → bt (iI (-2)) i = decide (¬ i = 0) := by decide
theorem bv_and (q x y : Nat) (hx : x < 2) (hy : y < 2) : nI (2 * q + x) &&& (nI y ||| iI (-2)) = nI (2 * q + (if x = 0 then 0 else y)) := by
  apply b_ext
  intro i hi
  rw [b_and, b_or, bt_n hi, bt_n hi, bt_n hi, bt_m2 i hi]
  cases i with
  | zero =>
    have h0 : y.testBit 0 = decide (y = 1) := by have := tb_0 0 y hy; rwa [Nat.mul_zero, Nat.zero_add] at this
    rw [tb_0 _ _ hx, tb_0 _ _ (by split <;> omega), h0]
    have : x = 0 ∨ x = 1 := by omega
    have : y = 0 ∨ y = 1 := by omega
    rcases ‹x = 0 ∨ x = 1› with rfl | rfl <;> rcases ‹y = 0 ∨ y = 1› with rfl | rfl <;> rfl
  | succ i =>
    rw [tb_s _ _ _ hx, tb_s _ _ _ (by split <;> omega)]
    simp
theorem bv_shr (q x : Nat) (hx : x < 2) (hq : q < 16777216) : ((nI (2 * q + x)).toUInt32 >>> ((iI 1).toUInt32 &&& Int32.toUInt32 31)).toInt32 = nI q := by
  rw [pk_ushrN (by omega) (iI 1) 1 (by decide)]
  exact nI_b (by omega)
/-- a stack of truths, the latest first -/
def evT (B : Int → Int) (t : Int) (st : List Int) : List Int :=
  if 0 ≤ t then tst (B (t % 8)) (t / 8 % 4) (t / 32) :: st
  else if t = -1 then (match st with | x :: r => (if x = 0 then 1 else 0) :: r | [] => [])
  else if t = -2 then (match st with | y :: x :: r => (if x = 0 then 0 else if y = 0 then 0 else 1) :: r | r => r)
  else (match st with | y :: x :: r => (if x = 0 then (if y = 0 then 0 else 1) else 1) :: r | r => r)
def evE (B : Int → Int) (ts : List Int) (st : List Int) : List Int := ts.foldl (fun s t => evT B t s) st
/-- tokens that may follow where so many truths are, up to so many -/
def vE : List Int → Int → Int → Prop
  | [], h, h' => h = h'
  | t :: ts, h, h' => (0 ≤ t ∧ t % 8 < 5 ∧ t / 8 % 4 < 3 ∧ t / 32 ≤ 99 ∧ 0 ≤ h ∧ h < 20 ∧ vE ts (h + 1) h') ∨ (t = -1 ∧ 1 ≤ h ∧ h ≤ 20 ∧ vE ts h h') ∨ ((t = -2 ∨ t = -3) ∧ 2 ≤ h ∧ h ≤ 20 ∧ vE ts (h - 1) h')
theorem vE_a : ∀ (xs ys : List Int) (h m h' : Int), vE xs h m → vE ys m h' → vE (xs ++ ys) h h' := by
  intro xs
  induction xs with
  | nil => intro ys h m h' hx hy; cases hx; exact hy
  | cons t ts ih =>
    intro ys h m h' hx hy
    rcases hx with ⟨a1, a2, a3, a4, a5, a6, a7⟩ | ⟨a1, a2, a3, a4⟩ | ⟨a1, a2, a3, a4⟩
    · exact Or.inl ⟨a1, a2, a3, a4, a5, a6, ih _ _ _ _ a7 hy⟩
    · exact Or.inr (Or.inl ⟨a1, a2, a3, ih _ _ _ _ a4 hy⟩)
    · exact Or.inr (Or.inr ⟨a1, a2, a3, ih _ _ _ _ a4 hy⟩)
def b01 (st : List Int) : Prop := ∀ x, x ∈ st → x = 0 ∨ x = 1
theorem evT_01 {B : Int → Int} {t : Int} {st : List Int} (h : b01 st) : b01 (evT B t st) := by
  unfold evT
  split
  · intro x hx
    rcases List.mem_cons.mp hx with rfl | hx
    · have := tst_01 (B (t % 8)) (t / 8 % 4) (t / 32); omega
    · exact h x hx
  split
  · cases st with
    | nil => exact h
    | cons y r =>
      intro x hx
      rcases List.mem_cons.mp hx with rfl | hx
      · split <;> omega
      · exact h x (List.mem_cons_of_mem _ hx)
  split
  · match st, h with
    | [], h => exact h
    | [y], h => exact h
    | y :: x2 :: r, h =>
      intro x hx
      rcases List.mem_cons.mp hx with rfl | hx
      · split <;> (try split) <;> omega
      · exact h x (List.mem_cons_of_mem _ (List.mem_cons_of_mem _ hx))
  · match st, h with
    | [], h => exact h
    | [y], h => exact h
    | y :: x2 :: r, h =>
      intro x hx
      rcases List.mem_cons.mp hx with rfl | hx
      · split <;> (try split) <;> omega
      · exact h x (List.mem_cons_of_mem _ (List.mem_cons_of_mem _ hx))
/-- a stack's number -/
def bvN : List Int → Nat
  | [] => 0
  | x :: r => 2 * bvN r + x.toNat
theorem bvN_lt : ∀ st : List Int, b01 st → st.length ≤ 20 → bvN st < 2 ^ st.length := by
  intro st
  induction st with
  | nil => intro _ _; decide
  | cons x r ih =>
    intro h hl
    rw [List.length_cons] at hl
    have := ih (fun y hy => h y (List.mem_cons_of_mem _ hy)) (by omega)
    have hx := h x (List.mem_cons_self ..)
    simp only [bvN, List.length_cons, Nat.pow_succ]
    omega
