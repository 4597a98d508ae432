/-! both sides: the relation, and how a call keeps it -/
section UB
variable {d : Nat} {T T' : Nat → Nat × Nat} {L : Nat → Nat → Int64} {R R' : Nat → Nat → Option Nat} {z z' w : Nat} {J J1 J2 J3 Q : mR} {t t' : Nat} {S S' : Int → Int} {cs cs' : List CL}
def keptR (T : Nat → Nat × Nat) (R : Nat → Nat → Option Nat) (J : mR) : Prop := J 193 3 = 1 → ∃ t cs, stB T R J 119 t cs (J 195) ∧ oR (tokL cs) (J 195) ∧ oW (J 195)
def traR (J : mR) : Prop := J 137 1 = J 193 22 ∧ (0 ≤ J 193 22 ∧ J 193 22 ≤ 100) ∧ ∀ j, 0 ≤ j → j < 20 → J 138 j = J 204 j
/-- class and reference stand at the same -/
def clR (T : Nat → Nat × Nat) (R : Nat → Nat → Option Nat) (J : mR) (z : Nat) : Prop :=
  cM T R ∧ rM T R ∧ sK T J ∧ rJ J ∧ 205 ≤ z ∧ (∀ b, z ≤ b → T b = (0, 0)) ∧ (∀ b, z ≤ b → ∀ j, J b j = 0) ∧
  (∃ t cs, cS T R J t cs (J 194) ∧ cPl J (J 194) ∧ oR (tokL cs) (J 194) ∧ oW (J 194)) ∧
  qW T R 106 ∧ qW T R 124 ∧ (J 100 2 = J 193 3 ∧ (J 193 3 = 0 ∨ J 193 3 = 1)) ∧ keptR T R J ∧ traR J
theorem rM_x (h : rM T R) (hT : tE T T') (hR : rE T R R') : rM T' R' := by
  unfold rM at h ⊢
  obtain ⟨h1, h2, h3, h4, h5, h6, h7, h8, h9, h10, h11, h12, g⟩ := h
  have r : ∀ j, R' 193 j = R 193 j := fun j => hR 193 j (by rw [h1]; decide) (by omega) (by omega) (by omega) (by omega)
  simp only [r]
  rw [hT 193 (by rw [h1]; decide), hT 194 (by rw [h2]; decide), hT 195 (by rw [h3]; decide), hT 196 (by rw [h4]; decide), hT 197 (by rw [h5]; decide), hT 198 (by rw [h6]; decide), hT 199 (by rw [h7]; decide), hT 200 (by rw [h8]; decide), hT 201 (by rw [h9]; decide), hT 202 (by rw [h10]; decide), hT 203 (by rw [h11]; decide), hT 204 (by rw [h12]; decide)]
  exact ⟨h1, h2, h3, h4, h5, h6, h7, h8, h9, h10, h11, h12, g⟩
theorem nm_row {b : Nat} (hJ : rg J) (e : J1 b = J b) : nmI J1 b = J b := by
  funext j
  have := hJ b j
  rw [nmI_e (by rw [e]; exact this), e]
/-- where one who walks doesn't lie -/
theorem wkx (hM : cM T R) (hr : rM T R) (htc : tc T R t) {x : Nat} (tg : [1, 2, 3, 4, 5, 6, 10].contains (T x).1 = true) : ¬ (100 ≤ x ∧ x ≤ 107) ∧ ¬ (115 ≤ x ∧ x ≤ 118) ∧ ¬ (137 ≤ x ∧ x ≤ 138) ∧ ¬ (141 ≤ x ∧ x ≤ 192) ∧ ¬ x = t + 6 ∧ ¬ (193 ≤ x ∧ x ≤ 204) := by
  have e0 : ∀ (a : Nat) (v : Nat × Nat), T a = v → ¬ [1, 2, 3, 4, 5, 6, 10].contains v.1 = true → x = a → False := fun a v hv hn e => hn (by rw [← hv, ← e]; exact tg)
  have e1 : (T x).1 = 11 ∨ (T x).1 = 20 → False := by
    intro q
    rcases q with q | q <;> (rw [q] at tg; exact absurd tg (by decide))
  obtain ⟨h1, h2, h3, h4, h5, h6, h7, h8, h9, h10, h11, h12, _⟩ := hr
  obtain ⟨_, _, _, _, _, _, k7, _⟩ := htc
  refine ⟨fun q => ?_, fun q => ?_, fun q => ?_, fun q => ?_, e0 _ _ k7 (by decide), fun q => ?_⟩
  · have : x = 100 ∨ x = 101 ∨ (102 ≤ x ∧ x ≤ 105) ∨ x = 106 ∨ x = 107 := by omega
    rcases this with e | e | e | e | e
    · exact e0 _ _ hM.t100 (by decide) e
    · exact e0 _ _ hM.t101 (by decide) e
    · exact e1 (wrow hM (Or.inl e))
    · exact e0 _ _ hM.t106 (by decide) e
    · exact e0 _ _ hM.t107 (by decide) e
  · have : x = 115 ∨ x = 116 ∨ x = 117 ∨ x = 118 := by omega
    rcases this with e | e | e | e
    · exact e0 _ _ hM.t115 (by decide) e
    · exact e0 _ _ hM.t116 (by decide) e
    · exact e0 _ _ hM.t117 (by decide) e
    · exact e0 _ _ hM.t118 (by decide) e
  · have : x = 137 ∨ x = 138 := by omega
    rcases this with e | e
    · exact e0 _ _ hM.t137 (by decide) e
    · exact e0 _ _ hM.t138 (by decide) e
  · exact e1 (wrow hM (Or.inr q))
  · have : x = 193 ∨ x = 194 ∨ x = 195 ∨ x = 196 ∨ x = 197 ∨ x = 198 ∨ x = 199 ∨ x = 200 ∨ x = 201 ∨ x = 202 ∨ x = 203 ∨ x = 204 := by omega
    rcases this with e | e | e | e | e | e | e | e | e | e | e | e
    · exact e0 _ _ h1 (by decide) e
    · exact e0 _ _ h2 (by decide) e
    · exact e0 _ _ h3 (by decide) e
    · exact e0 _ _ h4 (by decide) e
    · exact e0 _ _ h5 (by decide) e
    · exact e0 _ _ h6 (by decide) e
    · exact e0 _ _ h7 (by decide) e
    · exact e0 _ _ h8 (by decide) e
    · exact e0 _ _ h9 (by decide) e
    · exact e0 _ _ h10 (by decide) e
    · exact e0 _ _ h11 (by decide) e
    · exact e0 _ _ h12 (by decide) e
/-- what a call of the class may change -/
def fK (z t : Nat) (J J' : mR) : Prop := ∀ b, b < z → ¬ (100 ≤ b ∧ b ≤ 107) → ¬ (115 ≤ b ∧ b ≤ 118) → ¬ (137 ≤ b ∧ b ≤ 138) → ¬ (141 ≤ b ∧ b ≤ 192) → ¬ b = t + 6 → J' b = J b
/-- what is kept stays -/
theorem kept_f {tk' : Nat} {csk : List CL} {Sk : Int → Int} (hM : cM T R) (hr : rM T R) (hz : ∀ b, z ≤ b → T b = (0, 0)) (hz5 : 205 ≤ z) (htc : tc T R t) (htp : tpl t) (h : stB T R J 119 tk' csk Sk) (hT : tE T T') (hR : rE T R R') (hR5 : ∀ k, R' 124 k = R 124 k) (hR4 : R' 119 4 = R 119 4) (f : fK z t J J1) (hF : ∀ j, 0 ≤ j → j < 5 → i32 (J1 (t + 6) j)) : stB T' R' J1 119 tk' csk Sk := by
  have hk := h.1
  obtain ⟨k1, k2, k3, k4, k5, k6, k7, _⟩ := hk.1
  have c7 : T (t + 6) = (20, 5) := htc.2.2.2.2.2.2.1
  have hp := h.2.2.2.2.1
  unfold tpl at hp htp
  have lt : ∀ a v, T a = v → ¬ v.1 = 0 → a < z := by
    intro a v e n
    rcases Nat.lt_or_ge a z with q | q
    · exact q
    · exact absurd (by rw [← e, hz a q]) n
  have ne : ∀ a v, T a = v → ¬ v = (20, 5) → ¬ a = t + 6 := by
    intro a v e n q
    rw [q, c7] at e
    exact n e.symm
  refine stB_x h hT hR5 hR4 (fun j => hR tk' j (by rw [k1]; decide) (by omega) (by omega) (by omega) (by omega)) (fun a a1 a2 => ?_) (fun j j0 j5 => ?_) (fun x tg => ?_) (fun a ha => ?_)
  · have : a = tk' ∨ a = tk' + 1 ∨ a = tk' + 2 ∨ a = tk' + 3 ∨ a = tk' + 4 ∨ a = tk' + 5 := by omega
    rcases this with e | e | e | e | e | e
    · exact f a (by rw [e]; exact lt _ _ k1 (by decide)) (by omega) (by omega) (by omega) (by omega) (by rw [e]; exact ne _ _ k1 (by decide))
    · exact f a (by rw [e]; exact lt _ _ k2 (by decide)) (by omega) (by omega) (by omega) (by omega) (by rw [e]; exact ne _ _ k2 (by decide))
    · exact f a (by rw [e]; exact lt _ _ k3 (by decide)) (by omega) (by omega) (by omega) (by omega) (by rw [e]; exact ne _ _ k3 (by decide))
    · exact f a (by rw [e]; exact lt _ _ k4 (by decide)) (by omega) (by omega) (by omega) (by omega) (by rw [e]; exact ne _ _ k4 (by decide))
    · exact f a (by rw [e]; exact lt _ _ k5 (by decide)) (by omega) (by omega) (by omega) (by omega) (by rw [e]; exact ne _ _ k5 (by decide))
    · exact f a (by rw [e]; exact lt _ _ k6 (by decide)) (by omega) (by omega) (by omega) (by omega) (by rw [e]; exact ne _ _ k6 (by decide))
  · by_cases e : tk' + 6 = t + 6
    · rw [e]; exact hF j j0 j5
    · rw [f _ (lt _ _ k7 (by decide)) (by omega) (by omega) (by omega) (by omega) e]
      exact hk.2.2.2.2.2.2 j j0 j5
  · obtain ⟨x1, x2, x3, x4, x5, x6⟩ := wkx hM hr htc tg
    refine f x ?_ x1 x2 x3 x4 x5
    rcases Nat.lt_or_ge x z with q | q
    · exact q
    · rw [hz x q] at tg; exact absurd tg (by decide)
  · exact f a (by omega) (by omega) (by omega) (by omega) (by omega) (by omega)
/-- the reference's rows alone have changed -/
theorem stB_r {b : Nat} (hM : cM T R) (hr : rM T R) (h : stB T R (nmI J1) b t cs S) (hb : b = 101 ∨ b = 119) (r1 : ∀ b, ¬ (193 ≤ b ∧ b ≤ 204) → J3 b = nmI J1 b) : stB T R J3 b t cs S := by
  have hp := h.2.2.2.2.1
  unfold tpl at hp
  refine stB_x h tE.i (fun _ => rfl) rfl (fun _ => rfl) (fun a a1 a2 => r1 a (by omega)) (fun j j0 j5 => by rw [r1 _ (by omega)]; exact nmI_rg _ _) (fun x tg => r1 x (wkx hM hr h.1.1 tg).2.2.2.2.2) (fun a ha => r1 a (by omega))
theorem fin (h : clR T R J z) (hT : tE T T') (hR : rE T R R') (hR5 : ∀ k, R' 124 k = R 124 k) (hR4 : R' 119 4 = R 119 4) (hq : qW T' R' 106) (hz : z ≤ z') (hTz : ∀ b, z' ≤ b → T' b = (0, 0)) (htc : tc T R t) (htp : tpl t) (f : fK z t J J1) (hfz : ∀ b, z' ≤ b → ∀ j, J1 b j = 0) (f2 : J1 100 2 = J 100 2) (hF : ∀ j, 0 ≤ j → j < 5 → i32 (J1 (t + 6) j)) (hs : stB T' R' J1 101 t' cs' S') (h5 : ∀ j, 0 ≤ j ∧ j < 4 → J1 105 j = 0) (hcz : cz J1) (ho : oR (tokL cs') S') (hw : oW S') (r1 : ∀ b, ¬ (193 ≤ b ∧ b ≤ 204) → J3 b = nmI J1 b) (r2 : rJ J3) (r3 : J3 194 = S') (r4 : J3 195 = J 195) (r5 : J3 193 3 = J 193 3) (r6 : J3 193 22 = J1 137 1 ∧ (0 ≤ J1 137 1 ∧ J1 137 1 ≤ 100)) (r7 : ∀ j, 0 ≤ j → j < 20 → J3 204 j = J1 138 j ∧ i32 (J1 138 j)) : clR T' R' J3 z' ∧ ∀ b, b < 100 → J3 b = J b := by
  obtain ⟨hM, hr, hsk, hJ, hz5, hz0, hJ0, _, _, hq2, ⟨s1, s2⟩, hk, htr⟩ := h
  have hM' := cM_x hM hT hR
  have hr' := rM_x hr hT hR
  have lo : ∀ b, b < 100 → J3 b = J b := by
    intro b hb
    rw [r1 b (by omega)]
    unfold tpl at htp
    exact nm_row hJ.1 (f b (by omega) (by omega) (by omega) (by omega) (by omega) (by omega))
  have n0 : ∀ a j, J1 a j = 0 → nmI J1 a j = 0 := fun a j e => nm_v e (by omega)
  have hs3 := stB_r hM' hr' (stB_nm hs ho hw) (Or.inl rfl) r1
  have hcl := stB_to hs3 (fun j hj => by rw [r1 105 (by omega)]; exact n0 _ _ (h5 j hj)) (fun k hk j hj => by rw [r1 _ (by omega)]; exact n0 _ _ (hcz k hk j hj))
  refine ⟨⟨hM', hr', ⟨fun i hi => ?_, fun i k hi hk => by rw [lo _ (by omega)]; exact hsk.2 i k hi hk⟩, r2, by omega, hTz, fun b hb j => by rw [r1 b (by omega)]; exact n0 _ _ (hfz b hb j), ⟨t', cs', by rw [r3]; exact hcl.1, by rw [r3]; exact hcl.2, by rw [r3]; exact ho, by rw [r3]; exact hw⟩, hq, qW_x hq2 hT hR5, ⟨?_, by rw [r5]; exact s2⟩, fun q => ?_, ⟨?_, ?_, fun j j0 j1 => ?_⟩⟩, lo⟩
  · obtain ⟨i1, i2⟩ := hsk.1 i hi
    have e1 := hT (10 + i) (by rw [i1]; simp)
    have e2 := hT (30 + i) (by rw [i2]; simp)
    rw [e1, e2]; exact ⟨i1, i2⟩
  · rw [r1 100 (by omega), r5, ← s1, ← f2]
    exact nmI_e (by rw [f2]; exact hJ.1 100 2)
  · rw [r5] at q
    obtain ⟨tk', csk, k1, k2, k3⟩ := hk q
    rw [r4]
    have := kept_f hM hr hz0 hz5 htc htp k1 hT hR hR5 hR4 f hF
    exact ⟨tk', csk, stB_r hM' hr' (stB_nm this k2 k3) (Or.inr rfl) r1, k2, k3⟩
  · rw [r1 137 (by omega), r6.1]
    exact nmI_e (by omega)
  · rw [r6.1]; exact r6.2
  · obtain ⟨a1, a2⟩ := r7 j j0 j1
    rw [r1 138 (by omega), a1]
    exact nmI_e a2
end UB
