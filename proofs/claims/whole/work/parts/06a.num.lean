/-! whole numbers: iI z for an Int z -/
theorem iI_toInt {z : Int} (h0 : -2147483648 ≤ z) (h1 : z < 2147483648) : (iI z).toInt = z := by
  unfold iI
  rw [Int32.toInt_ofInt]
  show z.bmod 4294967296 = z
  exact Int.bmod_eq_of_le (by omega) (by omega)
theorem iI_add (a b : Int) : iI a + iI b = iI (a + b) := by
  unfold iI; exact (Int32.ofInt_add a b).symm
theorem iI_sub (a b : Int) : iI a - iI b = iI (a - b) := by
  unfold iI; exact (Int32.ofInt_sub a b).symm
theorem iI_mul (a b : Int) : iI a * iI b = iI (a * b) := by
  unfold iI; exact (Int32.ofInt_mul a b).symm
theorem iI_neg (a : Int) : -iI a = iI (-a) := by
  unfold iI; exact (Int32.ofInt_neg a).symm
theorem iI_eq {a b : Int} (ha : -2147483648 ≤ a ∧ a < 2147483648) (hb : -2147483648 ≤ b ∧ b < 2147483648) : (iI a = iI b) = (a = b) := by
  apply propext
  constructor
  · intro h
    rw [← iI_toInt ha.1 ha.2, h, iI_toInt hb.1 hb.2]
  · intro h; rw [h]
theorem iI_lt {a b : Int} (ha : -2147483648 ≤ a ∧ a < 2147483648) (hb : -2147483648 ≤ b ∧ b < 2147483648) : (iI a < iI b) = (a < b) := by
  apply propext
  rw [Int32.lt_iff_toInt_lt, iI_toInt ha.1 ha.2, iI_toInt hb.1 hb.2]
theorem iI_le {a b : Int} (ha : -2147483648 ≤ a ∧ a < 2147483648) (hb : -2147483648 ≤ b ∧ b < 2147483648) : (iI a ≤ iI b) = (a ≤ b) := by
  apply propext
  rw [Int32.le_iff_toInt_le, iI_toInt ha.1 ha.2, iI_toInt hb.1 hb.2]
theorem iI_eq0 {a : Int} (ha : -2147483648 ≤ a ∧ a < 2147483648) : (iI a = 0) = (a = 0) := by
  rw [← iI_zero, iI_eq ha ⟨by omega, by omega⟩]
theorem iI_lt0 {a : Int} (ha : -2147483648 ≤ a ∧ a < 2147483648) : (iI a < 0) = (a < 0) := by
  rw [← iI_zero, iI_lt ha ⟨by omega, by omega⟩]
theorem iI_nat {a : Int} (ha : -2147483648 ≤ a ∧ a < 2147483648) : (iI a).toNatClampNeg = a.toNat := by
  show (iI a).toInt.toNat = _
  rw [iI_toInt ha.1 ha.2]
theorem iI_self (x : Int32) : x = iI x.toInt := by unfold iI; simp
theorem iI_rng (x : Int32) : -2147483648 ≤ x.toInt ∧ x.toInt < 2147483648 := by
  have h1 := Int32.le_toInt x
  have h2 := Int32.toInt_lt x
  constructor <;> omega
theorem iI_div {a b : Int} (ha : -2147483648 ≤ a ∧ a < 2147483648) (hb : -2147483648 ≤ b ∧ b < 2147483648) : iI a / iI b = iI (a.tdiv b) := by
  unfold iI
  refine (Int32.ofInt_tdiv ?_ ?_ ?_ ?_).symm
  · show (-2147483648 : Int) ≤ a; omega
  · show a ≤ (2147483647 : Int); omega
  · show (-2147483648 : Int) ≤ b; omega
  · show b ≤ (2147483647 : Int); omega
theorem iI_divn {a b : Int} (ha : 0 ≤ a ∧ a < 2147483648) (hb : 0 < b ∧ b < 2147483648) : iI a / iI b = iI (a / b) := by
  rw [iI_div ⟨by omega, by omega⟩ ⟨by omega, by omega⟩, Int.tdiv_eq_ediv_of_nonneg ha.1]
theorem iI_remn {a b : Int} (ha : 0 ≤ a ∧ a < 2147483648) (hb : 0 < b ∧ b < 2147483648) : iI a - iI b * (iI a / iI b) = iI (a % b) := by
  rw [iI_divn ha hb, iI_mul, iI_sub, Int.emod_def]
theorem iI_rem' {a b : Int} (ha : 0 ≤ a ∧ a < 2147483648) (hb : 0 < b ∧ b < 2147483648) : iI (a - a / b * b) = iI (a % b) := by
  rw [Int.emod_def, Int.mul_comm]
theorem iI_ofNat (n : Nat) : Int32.ofNat n = iI (n : Int) := by unfold iI; exact Int32.ofInt_eq_ofNat.symm
/-- an array's place -/
theorem ar_ok {T : Nat → Nat × Nat} {tags : List Nat} {a t n : Nat} {z : Int} (hT : T a = (t, n)) (ht : tags.contains t = true) (hn : n < 2147483648) (hz : 0 ≤ z ∧ z < (n : Int)) : am_arr T tags a (iI z) = true := by
  have e0 : ¬ iI z < 0 := by rw [iI_lt0 ⟨by omega, by omega⟩]; omega
  have e1 : (iI z).toNatClampNeg < n := by rw [iI_nat ⟨by omega, by omega⟩]; omega
  unfold am_arr am_ix
  rw [hT]
  dsimp only
  rw [ht, decide_eq_false e0, decide_eq_true e1]
  rfl
