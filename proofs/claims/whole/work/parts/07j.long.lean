/-! longs -/
theorem jI_toInt {z : Int} (h0 : -9223372036854775808 ≤ z) (h1 : z < 9223372036854775808) : (jI z).toInt = z := by
  unfold jI
  rw [Int64.toInt_ofInt]
  show z.bmod 18446744073709551616 = z
  exact Int.bmod_eq_of_le (by omega) (by omega)
theorem jI_add (a b : Int) : jI a + jI b = jI (a + b) := by
  unfold jI; exact (Int64.ofInt_add a b).symm
theorem jI_sub (a b : Int) : jI a - jI b = jI (a - b) := by
  unfold jI; exact (Int64.ofInt_sub a b).symm
theorem jI_mul (a b : Int) : jI a * jI b = jI (a * b) := by
  unfold jI; exact (Int64.ofInt_mul a b).symm
theorem jI_neg (a : Int) : -jI a = jI (-a) := by
  unfold jI; exact (Int64.ofInt_neg a).symm
abbrev rL (a : Int) : Prop := -9223372036854775808 ≤ a ∧ a < 9223372036854775808
theorem jI_eq {a b : Int} (ha : rL a) (hb : rL b) : (jI a = jI b) = (a = b) := by
  apply propext
  constructor
  · intro h
    rw [← jI_toInt ha.1 ha.2, h, jI_toInt hb.1 hb.2]
  · intro h; rw [h]
theorem jI_lt {a b : Int} (ha : rL a) (hb : rL b) : (jI a < jI b) = (a < b) := by
  apply propext
  rw [Int64.lt_iff_toInt_lt, jI_toInt ha.1 ha.2, jI_toInt hb.1 hb.2]
theorem jI_i {a : Int} (ha : -2147483648 ≤ a ∧ a < 2147483648) : (iI a).toInt64 = jI a := by
  apply Int64.toInt_inj.mp
  rw [Int32.toInt_toInt64, iI_toInt ha.1 ha.2, jI_toInt (by omega) (by omega)]
theorem jI_n (a : Int) : (jI a).toInt32 = iI a := by
  apply Int32.toInt_inj.mp
  unfold jI iI
  rw [Int64.toInt_toInt32, Int64.toInt_ofInt, Int32.toInt_ofInt]
  show (a.bmod 18446744073709551616).bmod 4294967296 = a.bmod 4294967296
  exact Int.bmod_bmod_of_dvd ⟨4294967296, rfl⟩
def cmpJ (a b : Int) : Int := if b < a then 1 else if a = b then 0 else -1
theorem lgc_j {a b : Int} (ha : rL a) (hb : rL b) : lg_cmp (jI a) (jI b) = iI (cmpJ a b) := by
  unfold lg_cmp cmpJ
  have e1 : (jI a > jI b) = (b < a) := jI_lt hb ha
  simp only [e1, jI_eq ha hb]
  split
  · rfl
  · split <;> rfl
theorem cj_r (a b : Int) : -2147483648 ≤ cmpJ a b ∧ cmpJ a b < 2147483648 := by unfold cmpJ; split <;> (try split) <;> omega
theorem cj_lt {a b : Int} : (iI (cmpJ a b) < iI 0) = (a < b) := by
  rw [iI_lt (cj_r a b) ⟨by omega, by omega⟩]
  apply propext; unfold cmpJ; split <;> (try split) <;> omega
theorem cj_le {a b : Int} : (iI (cmpJ a b) ≤ iI 0) = (a ≤ b) := by
  rw [iI_le (cj_r a b) ⟨by omega, by omega⟩]
  apply propext; unfold cmpJ; split <;> (try split) <;> omega
theorem cj_ge {a b : Int} : (iI 0 ≤ iI (cmpJ a b)) = (b ≤ a) := by
  rw [iI_le ⟨by omega, by omega⟩ (cj_r a b)]
  apply propext; unfold cmpJ; split <;> (try split) <;> omega
theorem cj_gt {a b : Int} : (iI 0 < iI (cmpJ a b)) = (b < a) := by
  rw [iI_lt ⟨by omega, by omega⟩ (cj_r a b)]
  apply propext; unfold cmpJ; split <;> (try split) <;> omega
theorem cj_eq {a b : Int} : (iI (cmpJ a b) = iI 0) = (a = b) := by
  rw [iI_eq (cj_r a b) ⟨by omega, by omega⟩]
  apply propext; unfold cmpJ; split <;> (try split) <;> omega
theorem jI_div {a b : Int} (ha : rL a) (hb : rL b) : jI a / jI b = jI (a.tdiv b) := by
  unfold jI
  refine (Int64.ofInt_tdiv ?_ ?_ ?_ ?_).symm
  · show (-9223372036854775808 : Int) ≤ a; omega
  · show a ≤ (9223372036854775807 : Int); omega
  · show (-9223372036854775808 : Int) ≤ b; omega
  · show b ≤ (9223372036854775807 : Int); omega
theorem jI_remn {a b : Int} (ha : 0 ≤ a ∧ a < 9223372036854775808) (hb : 0 < b ∧ b < 9223372036854775808) : jI a - jI a / jI b * jI b = jI (a % b) := by
  rw [jI_div ⟨by omega, by omega⟩ ⟨by omega, by omega⟩, jI_mul, jI_sub, Int.tdiv_eq_ediv_of_nonneg ha.1, rem_n]
theorem jI_0 {b : Int} (hb : rL b) : (jI b = 0) = (b = 0) := by
  have e : (0 : Int64) = jI 0 := rfl
  rw [e, jI_eq hb ⟨by omega, by omega⟩]
theorem oI_ext {J J' : mR} (h : ∀ b (j : Int), 0 ≤ j → J b j = J' b j) : oI J = oI J' := by
  funext b j; unfold oI; rw [h b j (Int.natCast_nonneg j)]
section KB
variable {d : Nat} {T : Nat → Nat × Nat} {L : Nat → Nat → Int64} {R : Nat → Nat → Option Nat} {z w : Nat} {J : mR}
theorem n_keeps (h : rM T R) (f : Int) (hf : 0 ≤ f ∧ f < 11) : rn_c d 108 [.ref 193, .int (iI f)] (T, oI J, L, R, z, w) = some (none, (T, oI (ur J 196 (fk (J 196) (J 194) f 15)), L, R, z, w)) := by
  have := m_keeps (d := d) (I := oI J) (S := J 194) (L := L) (z := z) (w := w) h (J 196) f hf
  simp (disch := omega) only [ov_oI, ur_e] at this
  rw [this]
  have e : ur (ur J 196 (fk (J 196) (J 194) f 15)) 194 (J 194) = ur J 196 (fk (J 196) (J 194) f 15) := by
    have : ur (ur J 196 (fk (J 196) (J 194) f 15)) 194 (J 194) = ur (ur J 196 (fk (J 196) (J 194) f 15)) 194 ((ur J 196 (fk (J 196) (J 194) f 15)) 194) := by rw [ur_o (by omega : ¬ 194 = 196)]
    rw [this, ur_e]
  rw [e]
theorem n_goesBackTo (h : rM T R) (f : Int) (hf : 0 ≤ f ∧ f < 11) : rn_c d 109 [.ref 193, .int (iI f)] (T, oI J, L, R, z, w) = some (none, (T, oI (ur J 194 (bk (J 194) (J 196) f 15)), L, R, z, w)) := by
  have := m_goesBackTo (d := d) (I := oI J) (S := J 194) (L := L) (z := z) (w := w) h (J 196) f hf
  simp (disch := omega) only [ov_oI, ur_e] at this
  exact this
end KB
