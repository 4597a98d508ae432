/-! the class: its cells; what is thought of -/
/-- the cells of the class that never change -/
def cM (T : Nat → Nat × Nat) (R : Nat → Nat → Option Nat) : Prop := T 100 = (12, 0) ∧ T 101 = (7, 0) ∧ T 119 = (7, 0) ∧ T 137 = (9, 0) ∧ T 138 = (20, 20) ∧ T 139 = (24, 13) ∧ T 140 = (21, 4) ∧ T 106 = (25, 6) ∧ T 107 = (20, 6) ∧ T 115 = (22, 120) ∧ T 116 = (20, 20) ∧ T 117 = (20, 10) ∧ T 118 = (20, 10) ∧ R 101 0 = some 102 ∧ R 101 1 = some 106 ∧ R 101 2 = some 107 ∧ R 101 6 = some 115 ∧ R 101 8 = some 116 ∧ R 101 10 = some 117 ∧ R 101 11 = some 118 ∧ T 124 = (25, 6) ∧ T 125 = (20, 6) ∧ T 133 = (22, 120) ∧ T 134 = (20, 20) ∧ T 135 = (20, 10) ∧ T 136 = (20, 10) ∧ R 119 0 = some 120 ∧ R 119 1 = some 124 ∧ R 119 2 = some 125 ∧ R 119 6 = some 133 ∧ R 119 8 = some 134 ∧ R 119 10 = some 135 ∧ R 119 11 = some 136 ∧ R 100 0 = some 101 ∧ R 100 1 = some 119 ∧ R 100 3 = some 137 ∧ R 100 4 = some 139 ∧ R 100 5 = some 140 ∧ R 137 0 = some 138 ∧ wc T R 102 ∧ wc T R 120 ∧ (∀ k : Nat, k < 13 → wc T R (141 + 4 * k)) ∧ (∀ k : Nat, k < 13 → R 139 k = some (141 + 4 * k))
theorem cM.t100 {T : Nat → Nat × Nat} {R : Nat → Nat → Option Nat} (h : cM T R) : T 100 = (12, 0) := h.1
theorem cM.t101 {T : Nat → Nat × Nat} {R : Nat → Nat → Option Nat} (h : cM T R) : T 101 = (7, 0) := h.2.1
theorem cM.t119 {T : Nat → Nat × Nat} {R : Nat → Nat → Option Nat} (h : cM T R) : T 119 = (7, 0) := h.2.2.1
theorem cM.t137 {T : Nat → Nat × Nat} {R : Nat → Nat → Option Nat} (h : cM T R) : T 137 = (9, 0) := h.2.2.2.1
theorem cM.t138 {T : Nat → Nat × Nat} {R : Nat → Nat → Option Nat} (h : cM T R) : T 138 = (20, 20) := h.2.2.2.2.1
theorem cM.t139 {T : Nat → Nat × Nat} {R : Nat → Nat → Option Nat} (h : cM T R) : T 139 = (24, 13) := h.2.2.2.2.2.1
theorem cM.t140 {T : Nat → Nat × Nat} {R : Nat → Nat → Option Nat} (h : cM T R) : T 140 = (21, 4) := h.2.2.2.2.2.2.1
theorem cM.t106 {T : Nat → Nat × Nat} {R : Nat → Nat → Option Nat} (h : cM T R) : T 106 = (25, 6) := h.2.2.2.2.2.2.2.1
theorem cM.t107 {T : Nat → Nat × Nat} {R : Nat → Nat → Option Nat} (h : cM T R) : T 107 = (20, 6) := h.2.2.2.2.2.2.2.2.1
theorem cM.t115 {T : Nat → Nat × Nat} {R : Nat → Nat → Option Nat} (h : cM T R) : T 115 = (22, 120) := h.2.2.2.2.2.2.2.2.2.1
theorem cM.t116 {T : Nat → Nat × Nat} {R : Nat → Nat → Option Nat} (h : cM T R) : T 116 = (20, 20) := h.2.2.2.2.2.2.2.2.2.2.1
theorem cM.t117 {T : Nat → Nat × Nat} {R : Nat → Nat → Option Nat} (h : cM T R) : T 117 = (20, 10) := h.2.2.2.2.2.2.2.2.2.2.2.1
theorem cM.t118 {T : Nat → Nat × Nat} {R : Nat → Nat → Option Nat} (h : cM T R) : T 118 = (20, 10) := h.2.2.2.2.2.2.2.2.2.2.2.2.1
theorem cM.r101_0 {T : Nat → Nat × Nat} {R : Nat → Nat → Option Nat} (h : cM T R) : R 101 0 = some 102 := h.2.2.2.2.2.2.2.2.2.2.2.2.2.1
theorem cM.r101_1 {T : Nat → Nat × Nat} {R : Nat → Nat → Option Nat} (h : cM T R) : R 101 1 = some 106 := h.2.2.2.2.2.2.2.2.2.2.2.2.2.2.1
theorem cM.r101_2 {T : Nat → Nat × Nat} {R : Nat → Nat → Option Nat} (h : cM T R) : R 101 2 = some 107 := h.2.2.2.2.2.2.2.2.2.2.2.2.2.2.2.1
theorem cM.r101_6 {T : Nat → Nat × Nat} {R : Nat → Nat → Option Nat} (h : cM T R) : R 101 6 = some 115 := h.2.2.2.2.2.2.2.2.2.2.2.2.2.2.2.2.1
theorem cM.r101_8 {T : Nat → Nat × Nat} {R : Nat → Nat → Option Nat} (h : cM T R) : R 101 8 = some 116 := h.2.2.2.2.2.2.2.2.2.2.2.2.2.2.2.2.2.1
theorem cM.r101_10 {T : Nat → Nat × Nat} {R : Nat → Nat → Option Nat} (h : cM T R) : R 101 10 = some 117 := h.2.2.2.2.2.2.2.2.2.2.2.2.2.2.2.2.2.2.1
theorem cM.r101_11 {T : Nat → Nat × Nat} {R : Nat → Nat → Option Nat} (h : cM T R) : R 101 11 = some 118 := h.2.2.2.2.2.2.2.2.2.2.2.2.2.2.2.2.2.2.2.1
theorem cM.t124 {T : Nat → Nat × Nat} {R : Nat → Nat → Option Nat} (h : cM T R) : T 124 = (25, 6) := h.2.2.2.2.2.2.2.2.2.2.2.2.2.2.2.2.2.2.2.2.1
theorem cM.t125 {T : Nat → Nat × Nat} {R : Nat → Nat → Option Nat} (h : cM T R) : T 125 = (20, 6) := h.2.2.2.2.2.2.2.2.2.2.2.2.2.2.2.2.2.2.2.2.2.1
theorem cM.t133 {T : Nat → Nat × Nat} {R : Nat → Nat → Option Nat} (h : cM T R) : T 133 = (22, 120) := h.2.2.2.2.2.2.2.2.2.2.2.2.2.2.2.2.2.2.2.2.2.2.1
theorem cM.t134 {T : Nat → Nat × Nat} {R : Nat → Nat → Option Nat} (h : cM T R) : T 134 = (20, 20) := h.2.2.2.2.2.2.2.2.2.2.2.2.2.2.2.2.2.2.2.2.2.2.2.1
theorem cM.t135 {T : Nat → Nat × Nat} {R : Nat → Nat → Option Nat} (h : cM T R) : T 135 = (20, 10) := h.2.2.2.2.2.2.2.2.2.2.2.2.2.2.2.2.2.2.2.2.2.2.2.2.1
theorem cM.t136 {T : Nat → Nat × Nat} {R : Nat → Nat → Option Nat} (h : cM T R) : T 136 = (20, 10) := h.2.2.2.2.2.2.2.2.2.2.2.2.2.2.2.2.2.2.2.2.2.2.2.2.2.1
theorem cM.r119_0 {T : Nat → Nat × Nat} {R : Nat → Nat → Option Nat} (h : cM T R) : R 119 0 = some 120 := h.2.2.2.2.2.2.2.2.2.2.2.2.2.2.2.2.2.2.2.2.2.2.2.2.2.2.1
theorem cM.r119_1 {T : Nat → Nat × Nat} {R : Nat → Nat → Option Nat} (h : cM T R) : R 119 1 = some 124 := h.2.2.2.2.2.2.2.2.2.2.2.2.2.2.2.2.2.2.2.2.2.2.2.2.2.2.2.1
theorem cM.r119_2 {T : Nat → Nat × Nat} {R : Nat → Nat → Option Nat} (h : cM T R) : R 119 2 = some 125 := h.2.2.2.2.2.2.2.2.2.2.2.2.2.2.2.2.2.2.2.2.2.2.2.2.2.2.2.2.1
theorem cM.r119_6 {T : Nat → Nat × Nat} {R : Nat → Nat → Option Nat} (h : cM T R) : R 119 6 = some 133 := h.2.2.2.2.2.2.2.2.2.2.2.2.2.2.2.2.2.2.2.2.2.2.2.2.2.2.2.2.2.1
theorem cM.r119_8 {T : Nat → Nat × Nat} {R : Nat → Nat → Option Nat} (h : cM T R) : R 119 8 = some 134 := h.2.2.2.2.2.2.2.2.2.2.2.2.2.2.2.2.2.2.2.2.2.2.2.2.2.2.2.2.2.2.1
theorem cM.r119_10 {T : Nat → Nat × Nat} {R : Nat → Nat → Option Nat} (h : cM T R) : R 119 10 = some 135 := h.2.2.2.2.2.2.2.2.2.2.2.2.2.2.2.2.2.2.2.2.2.2.2.2.2.2.2.2.2.2.2.1
theorem cM.r119_11 {T : Nat → Nat × Nat} {R : Nat → Nat → Option Nat} (h : cM T R) : R 119 11 = some 136 := h.2.2.2.2.2.2.2.2.2.2.2.2.2.2.2.2.2.2.2.2.2.2.2.2.2.2.2.2.2.2.2.2.1
theorem cM.r100_0 {T : Nat → Nat × Nat} {R : Nat → Nat → Option Nat} (h : cM T R) : R 100 0 = some 101 := h.2.2.2.2.2.2.2.2.2.2.2.2.2.2.2.2.2.2.2.2.2.2.2.2.2.2.2.2.2.2.2.2.2.1
theorem cM.r100_1 {T : Nat → Nat × Nat} {R : Nat → Nat → Option Nat} (h : cM T R) : R 100 1 = some 119 := h.2.2.2.2.2.2.2.2.2.2.2.2.2.2.2.2.2.2.2.2.2.2.2.2.2.2.2.2.2.2.2.2.2.2.1
theorem cM.r100_3 {T : Nat → Nat × Nat} {R : Nat → Nat → Option Nat} (h : cM T R) : R 100 3 = some 137 := h.2.2.2.2.2.2.2.2.2.2.2.2.2.2.2.2.2.2.2.2.2.2.2.2.2.2.2.2.2.2.2.2.2.2.2.1
theorem cM.r100_4 {T : Nat → Nat × Nat} {R : Nat → Nat → Option Nat} (h : cM T R) : R 100 4 = some 139 := h.2.2.2.2.2.2.2.2.2.2.2.2.2.2.2.2.2.2.2.2.2.2.2.2.2.2.2.2.2.2.2.2.2.2.2.2.1
theorem cM.r100_5 {T : Nat → Nat × Nat} {R : Nat → Nat → Option Nat} (h : cM T R) : R 100 5 = some 140 := h.2.2.2.2.2.2.2.2.2.2.2.2.2.2.2.2.2.2.2.2.2.2.2.2.2.2.2.2.2.2.2.2.2.2.2.2.2.1
theorem cM.r137_0 {T : Nat → Nat × Nat} {R : Nat → Nat → Option Nat} (h : cM T R) : R 137 0 = some 138 := h.2.2.2.2.2.2.2.2.2.2.2.2.2.2.2.2.2.2.2.2.2.2.2.2.2.2.2.2.2.2.2.2.2.2.2.2.2.2.1
theorem cM.w102 {T : Nat → Nat × Nat} {R : Nat → Nat → Option Nat} (h : cM T R) : wc T R 102 := h.2.2.2.2.2.2.2.2.2.2.2.2.2.2.2.2.2.2.2.2.2.2.2.2.2.2.2.2.2.2.2.2.2.2.2.2.2.2.2.1
theorem cM.w120 {T : Nat → Nat × Nat} {R : Nat → Nat → Option Nat} (h : cM T R) : wc T R 120 := h.2.2.2.2.2.2.2.2.2.2.2.2.2.2.2.2.2.2.2.2.2.2.2.2.2.2.2.2.2.2.2.2.2.2.2.2.2.2.2.2.1
theorem cM.wt {T : Nat → Nat × Nat} {R : Nat → Nat → Option Nat} (h : cM T R) : ∀ k : Nat, k < 13 → wc T R (141 + 4 * k) := h.2.2.2.2.2.2.2.2.2.2.2.2.2.2.2.2.2.2.2.2.2.2.2.2.2.2.2.2.2.2.2.2.2.2.2.2.2.2.2.2.2.1
theorem cM.rt {T : Nat → Nat × Nat} {R : Nat → Nat → Option Nat} (h : cM T R) : ∀ k : Nat, k < 13 → R 139 k = some (141 + 4 * k) := h.2.2.2.2.2.2.2.2.2.2.2.2.2.2.2.2.2.2.2.2.2.2.2.2.2.2.2.2.2.2.2.2.2.2.2.2.2.2.2.2.2.2
theorem cM.a106 {T : Nat → Nat × Nat} {R : Nat → Nat → Option Nat} (h : cM T R) (q : Int) (hq : 0 ≤ q ∧ q < 6) : am_arr T [24, 25] 106 (iI q) = true := ar_ok h.t106 rfl (by decide) hq
theorem cM.a107 {T : Nat → Nat × Nat} {R : Nat → Nat → Option Nat} (h : cM T R) (q : Int) (hq : 0 ≤ q ∧ q < 6) : am_arr T [20, 30] 107 (iI q) = true := ar_ok h.t107 rfl (by decide) hq
theorem cM.b107 {T : Nat → Nat × Nat} {R : Nat → Nat → Option Nat} (h : cM T R) (q : Int) (hq : 0 ≤ q ∧ q < 6) : am_arr T [20] 107 (iI q) = true := ar_ok h.t107 rfl (by decide) hq
theorem cM.a116 {T : Nat → Nat × Nat} {R : Nat → Nat → Option Nat} (h : cM T R) (q : Int) (hq : 0 ≤ q ∧ q < 20) : am_arr T [20, 30] 116 (iI q) = true := ar_ok h.t116 rfl (by decide) hq
theorem cM.b116 {T : Nat → Nat × Nat} {R : Nat → Nat → Option Nat} (h : cM T R) (q : Int) (hq : 0 ≤ q ∧ q < 20) : am_arr T [20] 116 (iI q) = true := ar_ok h.t116 rfl (by decide) hq
theorem cM.a117 {T : Nat → Nat × Nat} {R : Nat → Nat → Option Nat} (h : cM T R) (q : Int) (hq : 0 ≤ q ∧ q < 10) : am_arr T [20, 30] 117 (iI q) = true := ar_ok h.t117 rfl (by decide) hq
theorem cM.b117 {T : Nat → Nat × Nat} {R : Nat → Nat → Option Nat} (h : cM T R) (q : Int) (hq : 0 ≤ q ∧ q < 10) : am_arr T [20] 117 (iI q) = true := ar_ok h.t117 rfl (by decide) hq
theorem cM.a118 {T : Nat → Nat × Nat} {R : Nat → Nat → Option Nat} (h : cM T R) (q : Int) (hq : 0 ≤ q ∧ q < 10) : am_arr T [20, 30] 118 (iI q) = true := ar_ok h.t118 rfl (by decide) hq
theorem cM.b118 {T : Nat → Nat × Nat} {R : Nat → Nat → Option Nat} (h : cM T R) (q : Int) (hq : 0 ≤ q ∧ q < 10) : am_arr T [20] 118 (iI q) = true := ar_ok h.t118 rfl (by decide) hq
theorem cM.a115 {T : Nat → Nat × Nat} {R : Nat → Nat → Option Nat} (h : cM T R) (q : Int) (hq : 0 ≤ q ∧ q < 120) : am_arr T [22, 23, 32] 115 (iI q) = true := ar_ok h.t115 rfl (by decide) hq
theorem cM.b115 {T : Nat → Nat × Nat} {R : Nat → Nat → Option Nat} (h : cM T R) (q : Int) (hq : 0 ≤ q ∧ q < 120) : am_arr T [22] 115 (iI q) = true := ar_ok h.t115 rfl (by decide) hq
theorem cM.a124 {T : Nat → Nat × Nat} {R : Nat → Nat → Option Nat} (h : cM T R) (q : Int) (hq : 0 ≤ q ∧ q < 6) : am_arr T [24, 25] 124 (iI q) = true := ar_ok h.t124 rfl (by decide) hq
theorem cM.a125 {T : Nat → Nat × Nat} {R : Nat → Nat → Option Nat} (h : cM T R) (q : Int) (hq : 0 ≤ q ∧ q < 6) : am_arr T [20, 30] 125 (iI q) = true := ar_ok h.t125 rfl (by decide) hq
theorem cM.b125 {T : Nat → Nat × Nat} {R : Nat → Nat → Option Nat} (h : cM T R) (q : Int) (hq : 0 ≤ q ∧ q < 6) : am_arr T [20] 125 (iI q) = true := ar_ok h.t125 rfl (by decide) hq
theorem cM.a134 {T : Nat → Nat × Nat} {R : Nat → Nat → Option Nat} (h : cM T R) (q : Int) (hq : 0 ≤ q ∧ q < 20) : am_arr T [20, 30] 134 (iI q) = true := ar_ok h.t134 rfl (by decide) hq
theorem cM.b134 {T : Nat → Nat × Nat} {R : Nat → Nat → Option Nat} (h : cM T R) (q : Int) (hq : 0 ≤ q ∧ q < 20) : am_arr T [20] 134 (iI q) = true := ar_ok h.t134 rfl (by decide) hq
theorem cM.a135 {T : Nat → Nat × Nat} {R : Nat → Nat → Option Nat} (h : cM T R) (q : Int) (hq : 0 ≤ q ∧ q < 10) : am_arr T [20, 30] 135 (iI q) = true := ar_ok h.t135 rfl (by decide) hq
theorem cM.b135 {T : Nat → Nat × Nat} {R : Nat → Nat → Option Nat} (h : cM T R) (q : Int) (hq : 0 ≤ q ∧ q < 10) : am_arr T [20] 135 (iI q) = true := ar_ok h.t135 rfl (by decide) hq
theorem cM.a136 {T : Nat → Nat × Nat} {R : Nat → Nat → Option Nat} (h : cM T R) (q : Int) (hq : 0 ≤ q ∧ q < 10) : am_arr T [20, 30] 136 (iI q) = true := ar_ok h.t136 rfl (by decide) hq
theorem cM.b136 {T : Nat → Nat × Nat} {R : Nat → Nat → Option Nat} (h : cM T R) (q : Int) (hq : 0 ≤ q ∧ q < 10) : am_arr T [20] 136 (iI q) = true := ar_ok h.t136 rfl (by decide) hq
theorem cM.a133 {T : Nat → Nat × Nat} {R : Nat → Nat → Option Nat} (h : cM T R) (q : Int) (hq : 0 ≤ q ∧ q < 120) : am_arr T [22, 23, 32] 133 (iI q) = true := ar_ok h.t133 rfl (by decide) hq
theorem cM.b133 {T : Nat → Nat × Nat} {R : Nat → Nat → Option Nat} (h : cM T R) (q : Int) (hq : 0 ≤ q ∧ q < 120) : am_arr T [22] 133 (iI q) = true := ar_ok h.t133 rfl (by decide) hq
theorem cM.a138 {T : Nat → Nat × Nat} {R : Nat → Nat → Option Nat} (h : cM T R) (q : Int) (hq : 0 ≤ q ∧ q < 20) : am_arr T [20, 30] 138 (iI q) = true := ar_ok h.t138 rfl (by decide) hq
theorem cM.b138 {T : Nat → Nat × Nat} {R : Nat → Nat → Option Nat} (h : cM T R) (q : Int) (hq : 0 ≤ q ∧ q < 20) : am_arr T [20] 138 (iI q) = true := ar_ok h.t138 rfl (by decide) hq
theorem cM.a139 {T : Nat → Nat × Nat} {R : Nat → Nat → Option Nat} (h : cM T R) (q : Int) (hq : 0 ≤ q ∧ q < 13) : am_arr T [24, 25] 139 (iI q) = true := ar_ok h.t139 rfl (by decide) hq
theorem cM.a140 {T : Nat → Nat × Nat} {R : Nat → Nat → Option Nat} (h : cM T R) (q : Int) (hq : 0 ≤ q ∧ q < 4) : am_arr T [21] 140 (iI q) = true := ar_ok h.t140 rfl (by decide) hq
section CT
variable {d : Nat} {T : Nat → Nat × Nat} {L : Nat → Nat → Int64} {R : Nat → Nat → Option Nat} {z w : Nat} {J Q : mR} {t : Nat} {S : Int → Int} {cs : List CL} {sky : Int}
/-- where a town of the class may lie -/
def tpl (t : Nat) : Prop := t = 108 ∨ t = 126 ∨ 205 ≤ t
/-- what the class has of a state, its worlds left out -/
def cX (T : Nat → Nat × Nat) (R : Nat → Nat → Option Nat) (J : mR) (t : Nat) (cs : List CL) (S : Int → Int) : Prop := tk T R J t cs ∧ R 101 4 = some t ∧ pP T R J S ∧ J t 0 = tlS S 220 9 ∧ J t 1 = tlS S 225 1 ∧ J t 2 = tlS S 230 2 ∧ tpl t
def wF (t : Nat) (J J' : mR) : Prop := ∀ b, ¬ (102 ≤ b ∧ b ≤ 105) → ¬ (141 ≤ b ∧ b ≤ 192) → ¬ b = t + 6 → J' b = J b
theorem wF.i {J : mR} : wF t J J := fun _ _ _ _ => rfl
theorem wF.tr {J J' J'' : mR} (h : wF t J J') (g : wF t J' J'') : wF t J J'' := fun b h1 h2 h3 => (g b h1 h2 h3).trans (h b h1 h2 h3)
theorem cM.nc (h : cM T R) (hr : R 101 4 = some t) : nC T R t := ⟨h.t101, h.t106, h.t107, h.r101_1, h.r101_2, hr⟩
theorem wrow (h : cM T R) {b : Nat} (hb : (102 ≤ b ∧ b ≤ 105) ∨ (141 ≤ b ∧ b ≤ 192)) : (T b).1 = 11 ∨ (T b).1 = 20 := by
  rcases hb with hb | hb
  · have w := h.w102
    have : b = 102 ∨ b = 102 + 1 ∨ b = 102 + 2 ∨ b = 102 + 3 := by omega
    rcases this with rfl | rfl | rfl | rfl
    · rw [w.1]; exact Or.inl rfl
    · rw [w.2.1]; exact Or.inr rfl
    · rw [w.2.2.1]; exact Or.inr rfl
    · rw [w.2.2.2.1]; exact Or.inr rfl
  · have w := h.wt ((b - 141) / 4) (by omega)
    have : b = 141 + 4 * ((b - 141) / 4) ∨ b = 141 + 4 * ((b - 141) / 4) + 1 ∨ b = 141 + 4 * ((b - 141) / 4) + 2 ∨ b = 141 + 4 * ((b - 141) / 4) + 3 := by omega
    rcases this with e | e | e | e <;> rw [e]
    · rw [w.1]; exact Or.inl rfl
    · rw [w.2.1]; exact Or.inr rfl
    · rw [w.2.2.1]; exact Or.inr rfl
    · rw [w.2.2.2.1]; exact Or.inr rfl
theorem cX_x {J' : mR} {S' : Int → Int} (h : cX T R J t cs S) (hM : cM T R) (f : wF t J J') (hF : ∀ j, 0 ≤ j → j < 5 → i32 (J' (t + 6) j)) (hx : sx S S') (hT : oT S) : cX T R J' t cs S' := by
  obtain ⟨h1, h2, h3, h4, h5, h6, h7⟩ := h
  have ht : ∀ b, t ≤ b → b < t + 6 → J' b = J b := fun b b1 b2 => by
    unfold tpl at h7
    exact f b (by omega) (by omega) (by omega)
  refine ⟨?_, h2, ?_, ?_, ?_, ?_, h7⟩
  · obtain ⟨f1, f2, f3, f4, f5, f6, f7⟩ := h1
    refine ⟨f1, f2, fun h s a1 a2 a3 a4 => ?_, loR_x (ht t (by omega) (by omega)) (ht (t + 2) (by omega) (by omega)) (ht (t + 3) (by omega) (by omega)) (ht (t + 4) (by omega) (by omega)) (ht (t + 5) (by omega) (by omega)) cs 0 0 f4, ?_, ?_, hF⟩
    · rw [ht (t + 1) (by omega) (by omega)]; exact f3 h s a1 a2 a3 a4
    · rw [ht t (by omega) (by omega)]; exact f5
    · rw [ht t (by omega) (by omega)]; exact f6
  · refine pP_x h3 (fun b hb1 hb2 => ?_) (by rw [hM.t101]; decide) hM.t107 hx
    rcases hb2 with hb2 | rfl
    · refine f b (fun q => ?_) (fun q => ?_) (fun q => ?_)
      · rcases wrow hM (Or.inl q) with e | e <;> omega
      · rcases wrow hM (Or.inr q) with e | e <;> omega
      · rw [q, h1.1.2.2.2.2.2.2.1] at hb2; exact hb2 rfl
    · unfold tpl at h7
      exact f 107 (by omega) (by omega) (by omega)
  · rw [ht t (by omega) (by omega), hx.tl (by omega) hT.1.1]; exact h4
  · rw [ht t (by omega) (by omega), hx.tl (by omega) hT.1.1]; exact h5
  · rw [ht t (by omega) (by omega), hx.tl (by omega) hT.1.1]; exact h6
/-- the sums of a thought -/
def cQ (Q : mR) (A : aA) : mR := ur (ur Q 100 (up (up (Q 100) 6 A.1) 7 A.2.1)) 140 A.2.2
abbrev Qc (Q : mR) : aA := (Q 100 6, Q 100 7, Q 140)
theorem cQ_e : cQ Q (Qc Q) = Q := by
  unfold cQ Qc
  simp only [up_e, ur_e]
theorem cQ_a (A B : aA) : cQ (cQ Q A) B = cQ Q B := by
  unfold cQ
  funext c j
  unfold ur up
  by_cases h1 : c = 140
  · simp [h1]
  · by_cases h2 : c = 100
    · subst h2
      by_cases h3 : j = 7 <;> by_cases h4 : j = 6 <;> simp [h3, h4]
    · simp [h1, h2]
theorem Qc_a (A : aA) : Qc (cQ Q A) = A := by
  unfold Qc cQ
  simp (disch := omega) only [ur_o, ur_r, up_r, up_o]
theorem c_addWeighed (h : cM T R) {a : Nat} (hw : wc T R a) (hR : wR J a S) (ho : oS S) (hc : tB 900000 S) (o : Int) : rn_c d 95 [.ref 100, .ref a, .long (jI o)] (T, oI J, oL Q, R, z, w) = some (none, (T, oI J, oL (cQ Q (asS [] 0 S o (Qc Q))), R, z, w)) := by
  obtain ⟨w1, w2, w3, w4, w5, w6, w7, w8⟩ := hR
  have h0 := ho.2.1 0 (by omega)
  have h1 := ho.2.1 1 (by omega)
  have h2 := ho.2.1 2 (by omega)
  have h3 := ho.2.1 3 (by omega)
  have v0 := w1 0 (by omega)
  have v1 := w1 1 (by omega)
  have v2 := w1 2 (by omega)
  have v3 := w1 3 (by omega)
  have c12 := hc.1
  have c13 := hc.2.1
  have e7 : ∀ c, up (up (Q 100) 6 c) 7 (Q 100 7) = up (Q 100) 6 c := fun c => up_ee (by rw [up_o (by decide)])
  unfold asS stV cQ Qc
  (simp (disch := first | omega | exact hJ _ _ | exact rJ_g hJ _ _ | (simp (disch := omega) only [ur_r, ur_o, up_r, up_o]; omega) | assumption) only [c95, s95_0, s95_0v, s95_1, s95_2, s95_5, s95_6, s95_6v, s95_7, s95_10, s95_11, s95_12, s95_13, s95_16, s95_16v, s95_17, b95_20, s95_23, s95_23v, s95_24, s95_25, s95_28, s95_29, s95_30, s95_33, s95_34, s95_36, s95_38, b95_39, s95_42, s95_42v, s95_43, s95_46, s95_48, s95_49, s95_50, s95_51, s95_51v, s95_52, s95_55, s95_57, s95_58, s95_59, s95_60, s95_61, s95_62, s95_65, s95_68, e7, h.t100, h.r100_5, hw.t0, hw.r0, hw.a1, w5, w6, v0, v1, v2, v3, h.a140, up_c, ur_c, kl_i, kl_r, kl_l, kl_n, kl_z, bd_s, tl_s, tl_n, ap_c, ap_n, v_s, v_n, nd_1, nd_0, ct13, eq_self, iI_add, iI_sub, iI_mul, iI_nat, iI_eq, iI_lt, iI_le, iI_eq0, iI_lt0, ↓reduceIte, if_true, if_false, not_true_eq_false, not_false_eq_true, true_and, and_true, false_and, and_false, true_or, or_true, false_or, or_false, Int.reduceLT, Int.reduceLE, Int.reduceEq, Int.reduceAdd, Int.reduceSub, Int.reduceMul, Nat.reduceAdd, Nat.reduceLT, Nat.reduceEqDiff, Int.reduceNeg, nc_s, nc_0, Int.zero_add, Int.add_zero, oI_r, oI_w, oI_f0, oI_g0, oI_f1, oI_g1, oI_f2, oI_g2, oI_f3, oI_g3, oI_f4, oI_g4, oI_f5, oI_g5, oI_f6, oI_g6, oI_f7, oI_g7, oI_f8, oI_g8, oI_f9, oI_g9, oI_f10, oI_g10, oI_f11, oI_g11, oI_f12, oI_g12, oI_f13, oI_g13, oI_f14, oI_g14, oI_f15, oI_g15, oI_f16, oI_g16, oI_f17, oI_g17, oI_f18, oI_g18, oI_f19, oI_g19, oI_f20, oI_g20, oI_f21, oI_g21, oI_f22, oI_g22, oI_f23, oI_g23, oI_f24, oI_g24, oI_f25, oI_g25, ur_r, ur_o, ur_s, up_r, up_o, up_s, jI_add, jI_sub, jI_mul, jI_neg, jI_i, jI_n, lgc_j, cj_lt, cj_ge, cj_gt, cj_le, cj_eq, oL_r, oL_w, oL_f6, oL_g6, oL_f7, oL_g7, oL_f17, oL_g17, oL_f18, oL_g18, dl_T, dl_F, de_T, de_F, dle_T, dle_F, iI_divn, rem_n, nd_v, ct_s, Bool.false_eq_true]; repeat' (split <;> (try simp (disch := first | omega | exact hJ _ _ | exact rJ_g hJ _ _ | (simp (disch := omega) only [ur_r, ur_o, up_r, up_o]; omega) | assumption) only [c95, s95_0, s95_0v, s95_1, s95_2, s95_5, s95_6, s95_6v, s95_7, s95_10, s95_11, s95_12, s95_13, s95_16, s95_16v, s95_17, b95_20, s95_23, s95_23v, s95_24, s95_25, s95_28, s95_29, s95_30, s95_33, s95_34, s95_36, s95_38, b95_39, s95_42, s95_42v, s95_43, s95_46, s95_48, s95_49, s95_50, s95_51, s95_51v, s95_52, s95_55, s95_57, s95_58, s95_59, s95_60, s95_61, s95_62, s95_65, s95_68, e7, h.t100, h.r100_5, hw.t0, hw.r0, hw.a1, w5, w6, v0, v1, v2, v3, h.a140, up_c, ur_c, kl_i, kl_r, kl_l, kl_n, kl_z, bd_s, tl_s, tl_n, ap_c, ap_n, v_s, v_n, nd_1, nd_0, ct13, eq_self, iI_add, iI_sub, iI_mul, iI_nat, iI_eq, iI_lt, iI_le, iI_eq0, iI_lt0, ↓reduceIte, if_true, if_false, not_true_eq_false, not_false_eq_true, true_and, and_true, false_and, and_false, true_or, or_true, false_or, or_false, Int.reduceLT, Int.reduceLE, Int.reduceEq, Int.reduceAdd, Int.reduceSub, Int.reduceMul, Nat.reduceAdd, Nat.reduceLT, Nat.reduceEqDiff, Int.reduceNeg, nc_s, nc_0, Int.zero_add, Int.add_zero, oI_r, oI_w, oI_f0, oI_g0, oI_f1, oI_g1, oI_f2, oI_g2, oI_f3, oI_g3, oI_f4, oI_g4, oI_f5, oI_g5, oI_f6, oI_g6, oI_f7, oI_g7, oI_f8, oI_g8, oI_f9, oI_g9, oI_f10, oI_g10, oI_f11, oI_g11, oI_f12, oI_g12, oI_f13, oI_g13, oI_f14, oI_g14, oI_f15, oI_g15, oI_f16, oI_g16, oI_f17, oI_g17, oI_f18, oI_g18, oI_f19, oI_g19, oI_f20, oI_g20, oI_f21, oI_g21, oI_f22, oI_g22, oI_f23, oI_g23, oI_f24, oI_g24, oI_f25, oI_g25, ur_r, ur_o, ur_s, up_r, up_o, up_s, jI_add, jI_sub, jI_mul, jI_neg, jI_i, jI_n, lgc_j, cj_lt, cj_ge, cj_gt, cj_le, cj_eq, oL_r, oL_w, oL_f6, oL_g6, oL_f7, oL_g7, oL_f17, oL_g17, oL_f18, oL_g18, dl_T, dl_F, de_T, de_F, dle_T, dle_F, iI_divn, rem_n, nd_v, ct_s, Bool.false_eq_true])))
/-- what comes is nothing, in all thoughts -/
def cz (J : mR) : Prop := ∀ k : Nat, k < 13 → ∀ j, 0 ≤ j ∧ j < 4 → J (141 + 4 * k + 3) j = 0
theorem wR_cp {a c : Nat} (hR : wR J c S) (hz : ∀ j, 0 ≤ j ∧ j < 4 → J (a + 3) j = 0) : wR (wcp J a c) a S := by
  obtain ⟨w1, w2, w3, w4, w5, w6, w7, w8⟩ := hR
  unfold wcp
  refine ⟨fun j hj => ?_, fun p hp => ?_, ?_, ?_, ?_, ?_, ?_, fun j hj => ?_⟩
  · rw [ur_o (by omega), ur_r]; unfold cp9; rw [if_pos hj]; exact w1 j hj
  · rw [ur_r]; unfold cp9; rw [if_pos hp]; exact w2 p hp
  all_goals rw [ur_o (by omega), ur_o (by omega)]
  · rw [ur_r]; simp (disch := decide) only [up_r, up_o]; exact w3
  · rw [ur_r]; simp (disch := decide) only [up_r, up_o]; exact w4
  · rw [ur_r]; simp (disch := decide) only [up_r, up_o]; exact w5
  · rw [ur_r]; simp (disch := decide) only [up_r, up_o]; exact w6
  · rw [ur_r]; simp (disch := decide) only [up_r, up_o]; exact w7
  · rw [ur_o (by omega)]; exact hz j hj
theorem wR_x {J' : mR} {a : Nat} (hR : wR J a S) (e : ∀ b, a ≤ b → b ≤ a + 3 → J' b = J b) : wR J' a S := by
  obtain ⟨w1, w2, w3, w4, w5, w6, w7, w8⟩ := hR
  unfold wR
  rw [e a (by omega) (by omega), e (a + 1) (by omega) (by omega), e (a + 2) (by omega) (by omega), e (a + 3) (by omega) (by omega)]
  exact ⟨w1, w2, w3, w4, w5, w6, w7, w8⟩
end CT
