/-! the class: vanish -/
section VN
variable {d : Nat} {T : Nat → Nat × Nat} {I : Nat → Nat → Int32} {L : Nat → Nat → Int64} {R : Nat → Nat → Option Nat} {z w : Nat} {J Q : mR} {t : Nat} {S : Int → Int} {cs : List CL}
theorem vs_0 (S : Int → Int) (a : Int) : ∀ r : Nat, (vsS S a r).2 = 0 → (vsS S a r).1 = 0 := by
  intro r
  induction r with
  | zero => intro _; rfl
  | succ r ih =>
    simp only [vsS]
    by_cases c : (vsS S a r).2 = 0
    · rw [if_pos c, ih c]
      by_cases e : S (200 + (r : Int)) = a
      · rw [if_pos e]; intro q; omega
      · rw [if_neg e, if_neg e]; intro _; rfl
    · rw [if_neg c]; intro q; omega
def vaI (v : Int × Int) : Int := if v.2 = 0 then -1 else v.1
end VN
