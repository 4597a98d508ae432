/-! all whole numbers of a memory as Ints: oI J; all longs: oL Q -/
abbrev mR : Type := Nat → Int → Int
def oI (J : mR) : Nat → Nat → Int32 := fun b j => iI (J b j)
def oL (Q : mR) : Nat → Nat → Int64 := fun b j => jI (Q b j)
def ur (J : mR) (b : Nat) (V : Int → Int) : mR := fun c => if c = b then V else J c
abbrev rg (J : mR) : Prop := ∀ b j, -2147483648 ≤ J b j ∧ J b j < 2147483648
theorem oI_r {J : mR} {b : Nat} {z : Int} (h : 0 ≤ z) : oI J b z.toNat = iI (J b z) := by unfold oI; rw [Int.toNat_of_nonneg h]
theorem oI_w {J : mR} {b : Nat} {z v : Int} (h : 0 ≤ z) : am_u (oI J) b z.toNat (iI v) = oI (ur J b (up (J b) z v)) := by
  funext c j
  unfold am_u oI ur up
  by_cases hc : c = b
  · subst hc
    by_cases hj : j = z.toNat
    · have : (j : Int) = z := by omega
      rw [if_pos ⟨rfl, hj⟩, if_pos rfl, if_pos this]
    · have : ¬ (j : Int) = z := by omega
      rw [if_neg (fun q => hj q.2), if_pos rfl, if_neg this]
  · rw [if_neg (fun q => hc q.1), if_neg hc]
theorem oI_f {J : mR} {b k : Nat} : oI J b k = iI (J b (k : Int)) := rfl
theorem oI_g {J : mR} {b k : Nat} {v : Int} : am_u (oI J) b k (iI v) = oI (ur J b (up (J b) (k : Int) v)) := by
  have := oI_w (J := J) (b := b) (z := (k : Int)) (v := v) (Int.natCast_nonneg k)
  rwa [Int.toNat_natCast] at this
theorem oI_f0 {J : mR} {b : Nat} : oI J b 0 = iI (J b 0) := rfl
theorem oI_g0 {J : mR} {b : Nat} {v : Int} : am_u (oI J) b 0 (iI v) = oI (ur J b (up (J b) 0 v)) := oI_g
theorem oI_f1 {J : mR} {b : Nat} : oI J b 1 = iI (J b 1) := rfl
theorem oI_g1 {J : mR} {b : Nat} {v : Int} : am_u (oI J) b 1 (iI v) = oI (ur J b (up (J b) 1 v)) := oI_g
theorem oI_f2 {J : mR} {b : Nat} : oI J b 2 = iI (J b 2) := rfl
theorem oI_g2 {J : mR} {b : Nat} {v : Int} : am_u (oI J) b 2 (iI v) = oI (ur J b (up (J b) 2 v)) := oI_g
theorem oI_f3 {J : mR} {b : Nat} : oI J b 3 = iI (J b 3) := rfl
theorem oI_g3 {J : mR} {b : Nat} {v : Int} : am_u (oI J) b 3 (iI v) = oI (ur J b (up (J b) 3 v)) := oI_g
theorem oI_f4 {J : mR} {b : Nat} : oI J b 4 = iI (J b 4) := rfl
theorem oI_g4 {J : mR} {b : Nat} {v : Int} : am_u (oI J) b 4 (iI v) = oI (ur J b (up (J b) 4 v)) := oI_g
theorem oI_f5 {J : mR} {b : Nat} : oI J b 5 = iI (J b 5) := rfl
theorem oI_g5 {J : mR} {b : Nat} {v : Int} : am_u (oI J) b 5 (iI v) = oI (ur J b (up (J b) 5 v)) := oI_g
theorem oI_f6 {J : mR} {b : Nat} : oI J b 6 = iI (J b 6) := rfl
theorem oI_g6 {J : mR} {b : Nat} {v : Int} : am_u (oI J) b 6 (iI v) = oI (ur J b (up (J b) 6 v)) := oI_g
theorem oI_f7 {J : mR} {b : Nat} : oI J b 7 = iI (J b 7) := rfl
theorem oI_g7 {J : mR} {b : Nat} {v : Int} : am_u (oI J) b 7 (iI v) = oI (ur J b (up (J b) 7 v)) := oI_g
theorem oI_f8 {J : mR} {b : Nat} : oI J b 8 = iI (J b 8) := rfl
theorem oI_g8 {J : mR} {b : Nat} {v : Int} : am_u (oI J) b 8 (iI v) = oI (ur J b (up (J b) 8 v)) := oI_g
theorem oI_f9 {J : mR} {b : Nat} : oI J b 9 = iI (J b 9) := rfl
theorem oI_g9 {J : mR} {b : Nat} {v : Int} : am_u (oI J) b 9 (iI v) = oI (ur J b (up (J b) 9 v)) := oI_g
theorem oI_f10 {J : mR} {b : Nat} : oI J b 10 = iI (J b 10) := rfl
theorem oI_g10 {J : mR} {b : Nat} {v : Int} : am_u (oI J) b 10 (iI v) = oI (ur J b (up (J b) 10 v)) := oI_g
theorem oI_f11 {J : mR} {b : Nat} : oI J b 11 = iI (J b 11) := rfl
theorem oI_g11 {J : mR} {b : Nat} {v : Int} : am_u (oI J) b 11 (iI v) = oI (ur J b (up (J b) 11 v)) := oI_g
theorem oI_f12 {J : mR} {b : Nat} : oI J b 12 = iI (J b 12) := rfl
theorem oI_g12 {J : mR} {b : Nat} {v : Int} : am_u (oI J) b 12 (iI v) = oI (ur J b (up (J b) 12 v)) := oI_g
theorem oI_f13 {J : mR} {b : Nat} : oI J b 13 = iI (J b 13) := rfl
theorem oI_g13 {J : mR} {b : Nat} {v : Int} : am_u (oI J) b 13 (iI v) = oI (ur J b (up (J b) 13 v)) := oI_g
theorem oI_f14 {J : mR} {b : Nat} : oI J b 14 = iI (J b 14) := rfl
theorem oI_g14 {J : mR} {b : Nat} {v : Int} : am_u (oI J) b 14 (iI v) = oI (ur J b (up (J b) 14 v)) := oI_g
theorem oI_f15 {J : mR} {b : Nat} : oI J b 15 = iI (J b 15) := rfl
theorem oI_g15 {J : mR} {b : Nat} {v : Int} : am_u (oI J) b 15 (iI v) = oI (ur J b (up (J b) 15 v)) := oI_g
theorem oI_f16 {J : mR} {b : Nat} : oI J b 16 = iI (J b 16) := rfl
theorem oI_g16 {J : mR} {b : Nat} {v : Int} : am_u (oI J) b 16 (iI v) = oI (ur J b (up (J b) 16 v)) := oI_g
theorem oI_f17 {J : mR} {b : Nat} : oI J b 17 = iI (J b 17) := rfl
theorem oI_g17 {J : mR} {b : Nat} {v : Int} : am_u (oI J) b 17 (iI v) = oI (ur J b (up (J b) 17 v)) := oI_g
theorem oI_f18 {J : mR} {b : Nat} : oI J b 18 = iI (J b 18) := rfl
theorem oI_g18 {J : mR} {b : Nat} {v : Int} : am_u (oI J) b 18 (iI v) = oI (ur J b (up (J b) 18 v)) := oI_g
theorem oI_f19 {J : mR} {b : Nat} : oI J b 19 = iI (J b 19) := rfl
theorem oI_g19 {J : mR} {b : Nat} {v : Int} : am_u (oI J) b 19 (iI v) = oI (ur J b (up (J b) 19 v)) := oI_g
theorem oI_f20 {J : mR} {b : Nat} : oI J b 20 = iI (J b 20) := rfl
theorem oI_g20 {J : mR} {b : Nat} {v : Int} : am_u (oI J) b 20 (iI v) = oI (ur J b (up (J b) 20 v)) := oI_g
theorem oI_f21 {J : mR} {b : Nat} : oI J b 21 = iI (J b 21) := rfl
theorem oI_g21 {J : mR} {b : Nat} {v : Int} : am_u (oI J) b 21 (iI v) = oI (ur J b (up (J b) 21 v)) := oI_g
theorem oI_f22 {J : mR} {b : Nat} : oI J b 22 = iI (J b 22) := rfl
theorem oI_g22 {J : mR} {b : Nat} {v : Int} : am_u (oI J) b 22 (iI v) = oI (ur J b (up (J b) 22 v)) := oI_g
theorem oI_f23 {J : mR} {b : Nat} : oI J b 23 = iI (J b 23) := rfl
theorem oI_g23 {J : mR} {b : Nat} {v : Int} : am_u (oI J) b 23 (iI v) = oI (ur J b (up (J b) 23 v)) := oI_g
theorem oI_f24 {J : mR} {b : Nat} : oI J b 24 = iI (J b 24) := rfl
theorem oI_g24 {J : mR} {b : Nat} {v : Int} : am_u (oI J) b 24 (iI v) = oI (ur J b (up (J b) 24 v)) := oI_g
theorem oI_f25 {J : mR} {b : Nat} : oI J b 25 = iI (J b 25) := rfl
theorem oI_g25 {J : mR} {b : Nat} {v : Int} : am_u (oI J) b 25 (iI v) = oI (ur J b (up (J b) 25 v)) := oI_g
theorem oL_r {Q : mR} {b : Nat} {z : Int} (h : 0 ≤ z) : oL Q b z.toNat = jI (Q b z) := by unfold oL; rw [Int.toNat_of_nonneg h]
theorem oL_w {Q : mR} {b : Nat} {z v : Int} (h : 0 ≤ z) : am_u (oL Q) b z.toNat (jI v) = oL (ur Q b (up (Q b) z v)) := by
  funext c j
  unfold am_u oL ur up
  by_cases hc : c = b
  · subst hc
    by_cases hj : j = z.toNat
    · have : (j : Int) = z := by omega
      rw [if_pos ⟨rfl, hj⟩, if_pos rfl, if_pos this]
    · have : ¬ (j : Int) = z := by omega
      rw [if_neg (fun q => hj q.2), if_pos rfl, if_neg this]
  · rw [if_neg (fun q => hc q.1), if_neg hc]
theorem oL_g {Q : mR} {b k : Nat} {v : Int} : am_u (oL Q) b k (jI v) = oL (ur Q b (up (Q b) (k : Int) v)) := by
  have := oL_w (Q := Q) (b := b) (z := (k : Int)) (v := v) (Int.natCast_nonneg k)
  rwa [Int.toNat_natCast] at this
theorem oL_f6 {Q : mR} {b : Nat} : oL Q b 6 = jI (Q b 6) := rfl
theorem oL_g6 {Q : mR} {b : Nat} {v : Int} : am_u (oL Q) b 6 (jI v) = oL (ur Q b (up (Q b) 6 v)) := oL_g
theorem oL_f7 {Q : mR} {b : Nat} : oL Q b 7 = jI (Q b 7) := rfl
theorem oL_g7 {Q : mR} {b : Nat} {v : Int} : am_u (oL Q) b 7 (jI v) = oL (ur Q b (up (Q b) 7 v)) := oL_g
theorem oL_f17 {Q : mR} {b : Nat} : oL Q b 17 = jI (Q b 17) := rfl
theorem oL_g17 {Q : mR} {b : Nat} {v : Int} : am_u (oL Q) b 17 (jI v) = oL (ur Q b (up (Q b) 17 v)) := oL_g
theorem oL_f18 {Q : mR} {b : Nat} : oL Q b 18 = jI (Q b 18) := rfl
theorem oL_g18 {Q : mR} {b : Nat} {v : Int} : am_u (oL Q) b 18 (jI v) = oL (ur Q b (up (Q b) 18 v)) := oL_g
theorem ur_r {J : mR} {b : Nat} {V : Int → Int} : ur J b V b = V := by unfold ur; rw [if_pos rfl]
theorem ur_o {J : mR} {b c : Nat} {V : Int → Int} (h : ¬ c = b) : ur J b V c = J c := by unfold ur; rw [if_neg h]
theorem ur_s {J : mR} {b : Nat} {V W : Int → Int} : ur (ur J b V) b W = ur J b W := by
  funext c; unfold ur; by_cases h : c = b <;> simp [h]
theorem ur_c {J : mR} {b c : Nat} {V W : Int → Int} (h : c < b) : ur (ur J b V) c W = ur (ur J c W) b V := by
  funext e; unfold ur
  by_cases h1 : e = c
  · have : ¬ e = b := by omega
    rw [if_pos h1, if_neg this, if_pos h1]
  · rw [if_neg h1]
    by_cases h2 : e = b
    · rw [if_pos h2, if_pos h2]
    · rw [if_neg h2, if_neg h2, if_neg h1]
theorem ur_e {J : mR} {b : Nat} : ur J b (J b) = J := by
  funext c; unfold ur; by_cases h : c = b
  · rw [if_pos h, h]
  · rw [if_neg h]
theorem up_s {V : Int → Int} {k v w : Int} : up (up V k v) k w = up V k w := by
  funext c; unfold up; by_cases h : c = k <;> simp [h]
theorem up_c {V : Int → Int} {j k v w : Int} (h : k < j) : up (up V j v) k w = up (up V k w) j v := by
  funext e; unfold up
  by_cases h1 : e = k
  · have : ¬ e = j := by omega
    rw [if_pos h1, if_neg this, if_pos h1]
  · rw [if_neg h1]
    by_cases h2 : e = j
    · rw [if_pos h2, if_pos h2]
    · rw [if_neg h2, if_neg h2, if_neg h1]
theorem up_e {V : Int → Int} {k : Int} : up V k (V k) = V := by
  funext c; unfold up; by_cases h : c = k
  · rw [if_pos h, h]
  · rw [if_neg h]
theorem ov_oI {J : mR} {b : Nat} {V : Int → Int} : ov (oI J) b V = oI (ur J b V) := by
  funext c j; unfold ov oI ur; by_cases h : c = b <;> simp [h]
/-- deciding -/
theorem dl_T {a b : Int} (h : a < b) : (a < b) = True := eq_true h
theorem dl_F {a b : Int} (h : ¬ a < b) : (a < b) = False := eq_false h
theorem dle_T {a b : Int} (h : a ≤ b) : (a ≤ b) = True := eq_true h
theorem dle_F {a b : Int} (h : ¬ a ≤ b) : (a ≤ b) = False := eq_false h
theorem de_T {a b : Int} (h : a = b) : (a = b) = True := eq_true h
theorem de_F {a b : Int} (h : ¬ a = b) : (a = b) = False := eq_false h
theorem nd_v {v : Int} (h : 0 ≤ v ∧ v ≤ 1) : iI v &&& 1 = iI v := by
  have : v = 0 ∨ v = 1 := by omega
  rcases this with rfl | rfl
  · exact nd_0
  · exact nd_1
theorem ct_s {a b : Nat} : ([a].contains b = true) = (b = a) := by
  apply propext
  constructor
  · intro h
    simpa using h
  · intro h
    simp [h]
theorem rg_up {J : mR} (hJ : rg J) {b : Nat} {V : Int → Int} (hV : ∀ j, -2147483648 ≤ V j ∧ V j < 2147483648) : rg (ur J b V) := by
  intro c j; unfold ur; by_cases h : c = b
  · rw [if_pos h]; exact hV j
  · rw [if_neg h]; exact hJ c j
/-- numbers that stand for those of a memory -/
def nmI (J : mR) : mR := fun b j => (iI (J b j)).toInt
theorem nmI_o {J : mR} : oI (nmI J) = oI J := by funext b j; exact (iI_self _).symm
theorem nmI_rg {J : mR} : rg (nmI J) := fun b j => iI_rng _
theorem nmI_e {J : mR} {b : Nat} {j : Int} (h : -2147483648 ≤ J b j ∧ J b j < 2147483648) : nmI J b j = J b j := iI_toInt h.1 h.2
theorem nmI_x (I : Nat → Nat → Int32) : ∃ J, rg J ∧ I = oI J := by
  refine ⟨fun b j => (I b j.toNat).toInt, fun b j => iI_rng _, ?_⟩
  funext b j; exact iI_self _
theorem nc_s {k : Nat} : ((k + 1 : Nat) : Int) = (k : Int) + 1 := rfl
theorem nc_0 : ((0 : Nat) : Int) = 0 := rfl
