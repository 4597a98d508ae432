/-! the reference's looks: a whole row -/
section LK2
variable {d : Nat} {T : Nat → Nat × Nat} {I : Nat → Nat → Int32} {L : Nat → Nat → Int64} {R : Nat → Nat → Option Nat} {z w : Nat} {S X V B : Int → Int}
def lkX (X : Int → Int) (r l : Int) : Int → Int := up (up X 12 r) 13 l
theorem lkX_12 (X : Int → Int) (r l : Int) : lkX X r l 12 = r := by unfold lkX; rw [up_o (by decide), up_r]
theorem lkX_13 (X : Int → Int) (r l : Int) : lkX X r l 13 = l := by unfold lkX; rw [up_r]
theorem lkX_x (X : Int → Int) (r l r' l' : Int) : up (up (lkX X r l) 12 r') 13 l' = lkX X r' l' := by
  funext j; unfold lkX up
  by_cases h1 : j = 13 <;> by_cases h2 : j = 12 <;> simp [h1, h2]
theorem lkX_r (X : Int → Int) (r l r' : Int) : up (lkX X r l) 12 r' = lkX X r' l := by
  funext j; unfold lkX up
  by_cases h1 : j = 13
  · subst h1; simp
  · by_cases h2 : j = 12 <;> simp [h1, h2]
abbrev lkQ : Type := (Int → Int) × Int × Int × Int
def lkS (B : Int → Int) (hour t : Int) (q : lkQ) : lkQ :=
  if 0 ≤ t then (up q.1 q.2.1 (tst (B (t % 8)) (t / 8 % 4) (t / 32)), q.2.1 + 1, q.2.2)
  else if t = -1 then (up q.1 (q.2.1 - 1) (if q.1 (q.2.1 - 1) = 0 then 1 else 0), q.2)
  else if -10 < t then (up q.1 (q.2.1 - 2) (if t = -2 then (if q.1 (q.2.1 - 2) = 0 then 0 else if q.1 (q.2.1 - 1) = 0 then 0 else 1) else (if q.1 (q.2.1 - 2) = 0 then (if q.1 (q.2.1 - 1) = 0 then 0 else 1) else 1)), q.2.1 - 1, q.2.2)
  else (q.1, 0, lkr (q.1 0) t q.2.2.1, lkl (q.1 0) t hour q.2.2.2)
def lkG (B : Int → Int) (hour : Int) : List Int → lkQ → lkQ
  | [], q => q
  | t :: ts, q => lkG B hour ts (lkS B hour t q)
/-- a token that may stand where so many truths are -/
def lkO (t top : Int) : Prop := (0 ≤ t ∧ t % 8 < 5 ∧ 0 ≤ top ∧ top < 64) ∨ (t = -1 ∧ 0 < top ∧ top ≤ 64) ∨ ((t = -2 ∨ t = -3) ∧ 2 ≤ top ∧ top ≤ 64) ∨ (-300 ≤ t ∧ t ≤ -10 ∧ top = 1)
def lkT (t top : Int) : Int := if 0 ≤ t then top + 1 else if t = -1 then top else if -10 < t then top - 1 else 0
def lkOk : List Int → Int → Prop
  | [], _ => True
  | t :: ts, top => lkO t top ∧ lkOk ts (lkT t top)
def seg (S : Int → Int) : Int → List Int → Prop
  | _, [] => True
  | i, t :: ts => S i = t ∧ seg S (i + 1) ts
theorem tst_01 (a b c : Int) : 0 ≤ tst a b c ∧ tst a b c ≤ 1 := by unfold tst; split <;> split <;> (try split) <;> omega
theorem lkl_01 (a b c l : Int) (h : 0 ≤ l ∧ l ≤ 1) : 0 ≤ lkl a b c l ∧ lkl a b c l ≤ 1 := by
  unfold lkl; split <;> (try split) <;> (try split) <;> (try split) <;> (try split) <;> omega
theorem up_01 {V : Int → Int} (hV : ∀ j, 0 ≤ V j ∧ V j ≤ 1) {k v : Int} (hv : 0 ≤ v ∧ v ≤ 1) : ∀ j, 0 ≤ up V k v j ∧ up V k v j ≤ 1 := by
  intro j; unfold up; split
  · exact hv
  · exact hV j
theorem lk_loop (h : rM T R) (sky hour per door st many frm : Int) (hm : 0 ≤ frm ∧ frm < 940 ∧ 0 ≤ many ∧ many < 200 ∧ frm + many ≤ 940) (hr : ∀ j, -2147483648 ≤ S j ∧ S j < 2147483648) (hB : ∀ j, -2147483648 ≤ B j ∧ B j < 2147483648) (hh : 0 ≤ hour ∧ hour < 2000) :
    ∀ (ts : List Int) (i top r l : Int) (V : Int → Int) (g0 g1 g2 g3 : Option Value), seg S i ts → lkOk ts top → 0 ≤ i → i + (ts.length : Int) = frm + many → (∀ j, 0 ≤ V j ∧ V j ≤ 1) → 0 ≤ l ∧ l ≤ 1 → 0 ≤ r ∧ r + 200 * (ts.length : Int) ≤ 1000000 →
    rn_r d 127 84 (lkL sky hour per door st many frm top i [g0, g1, g2, g3]) [] (T, lkM I (lkX X r l) V B S, L, R, z, w) = some (none, (T, lkM I (lkX X (if (lkG B hour ts (V, top, r, l)).2.2.1 ≤ 10 then (lkG B hour ts (V, top, r, l)).2.2.1 else 10) (lkG B hour ts (V, top, r, l)).2.2.2) (lkG B hour ts (V, top, r, l)).1 B S, L, R, z, w)) := by
  intro ts
  induction ts with
  | nil =>
    intro i top r l V g0 g1 g2 g3 _ _ hi hl hV hL hR
    simp only [List.length_nil] at hl hR
    have e1 : frm + many ≤ i := by omega
    simp only [lkG]
    by_cases c : r ≤ 10 <;>
      simp (disch := omega) only [s127_84, s127_86, s127_88, s127_90, s127_91, s127_435, s127_435v, s127_436, s127_436v, s127_437, s127_440, s127_442, s127_445, s127_447, s127_450, s127_450v, s127_451, s127_454, s127_457, kl_i, kl_r, kl_l, kl_n, kl_z, bd_s, tl_s, tl_n, ap_c, ap_n, v_s, v_n, nd_1, nd_0, ct13, eq_self, iI_add, iI_sub, iI_mul, iI_nat, iI_eq, iI_lt, iI_le, iI_eq0, iI_lt0, ↓reduceIte, if_true, if_false, not_true_eq_false, not_false_eq_true, true_and, and_true, false_and, and_false, true_or, or_true, false_or, or_false, Int.reduceLT, Int.reduceLE, Int.reduceEq, Int.reduceAdd, Int.reduceSub, Int.reduceMul, Nat.reduceAdd, Nat.reduceLT, Nat.reduceEqDiff, Int.reduceNeg, h.t193, ov_r, ov_o, ov_p, rf12, wf12, lkX_12, lkX_r, e1, c]
  | cons t ts ih =>
    intro i top r l V g0 g1 g2 g3 hs ho hi hl hV hL hR
    obtain ⟨hs1, hs2⟩ := hs
    obtain ⟨ho1, ho2⟩ := ho
    subst hs1
    rw [List.length_cons] at hl hR
    have hm' : 0 ≤ frm ∧ frm < 940 ∧ 0 ≤ many ∧ many < 200 ∧ i < frm + many := by omega
    have hi' : 0 ≤ i ∧ i < 940 := by omega
    have hR' : 0 ≤ r ∧ r + 200 * (ts.length : Int) ≤ 1000000 := by omega
    rcases ho1 with ⟨a1, a2, a3, a4⟩ | ⟨a1, a2, a3⟩ | ⟨a1, a2, a3⟩ | ⟨a1, a2, a3⟩
    · obtain ⟨g, hg, hrun⟩ := lk_test (d := d) (I := I) (L := L) (z := z) (w := w) (X := lkX X r l) (V := V) h sky hour per door st many frm top i g0 g1 g2 g3 hi' hm' ⟨a3, a4⟩ hr hB a1 a2
      obtain ⟨q0, q1, q2, q3, rfl⟩ : ∃ q0 q1 q2 q3, g = [q0, q1, q2, q3] := by
        match g, hg with
        | [q0, q1, q2, q3], _ => exact ⟨q0, q1, q2, q3, rfl⟩
      have e : lkS B hour (S i) (V, top, r, l) = (up V top (tst (B (S i % 8)) (S i / 8 % 4) (S i / 32)), top + 1, r, l) := by unfold lkS; rw [if_pos a1]
      have eT : lkT (S i) top = top + 1 := by unfold lkT; rw [if_pos a1]
      rw [eT] at ho2
      rw [hrun, s127_432, ih (i + 1) (top + 1) r l _ q0 q1 q2 q3 hs2 ho2 (by omega) (by omega) (up_01 hV (tst_01 _ _ _)) hL hR']
      simp only [lkG, e]
    · have n1 : ¬ 0 ≤ S i := by omega
      have e : lkS B hour (S i) (V, top, r, l) = (up V (top - 1) (if V (top - 1) = 0 then 1 else 0), top, r, l) := by unfold lkS; rw [if_neg n1, if_pos a1]
      have eT : lkT (S i) top = top := by unfold lkT; rw [if_neg n1, if_pos a1]
      rw [eT] at ho2
      rw [lk_not h sky hour per door st many frm top i g0 g1 g2 g3 hi' hm' hr hV ⟨a2, a3⟩ a1, s127_432, ih (i + 1) top r l _ _ _ _ _ hs2 ho2 (by omega) (by omega) (up_01 hV (by split <;> omega)) hL hR']
      simp only [lkG, e]
    · have n1 : ¬ 0 ≤ S i := by omega
      have n2 : ¬ S i = -1 := by omega
      have n3 : -10 < S i := by omega
      have e : lkS B hour (S i) (V, top, r, l) = (up V (top - 2) (if S i = -2 then (if V (top - 2) = 0 then 0 else if V (top - 1) = 0 then 0 else 1) else (if V (top - 2) = 0 then (if V (top - 1) = 0 then 0 else 1) else 1)), top - 1, r, l) := by unfold lkS; rw [if_neg n1, if_neg n2, if_pos n3]
      have eT : lkT (S i) top = top - 1 := by unfold lkT; rw [if_neg n1, if_neg n2, if_pos n3]
      rw [eT] at ho2
      rw [lk_bin h sky hour per door st many frm top i g0 g1 g2 g3 hi' hm' hr hV ⟨a2, a3⟩ a1, s127_432, ih (i + 1) (top - 1) r l _ _ _ _ _ hs2 ho2 (by omega) (by omega) (up_01 hV (by split <;> split <;> (try split) <;> omega)) hL hR']
      simp only [lkG, e]
    · have n1 : ¬ 0 ≤ S i := by omega
      have n2 : ¬ S i = -1 := by omega
      have n3 : ¬ -10 < S i := by omega
      have e : lkS B hour (S i) (V, top, r, l) = (V, 0, lkr (V 0) (S i) r, lkl (V 0) (S i) hour l) := by unfold lkS; rw [if_neg n1, if_neg n2, if_neg n3]
      have eT : lkT (S i) top = 0 := by unfold lkT; rw [if_neg n1, if_neg n2, if_neg n3]
      rw [eT] at ho2
      have hlr : 0 ≤ lkr (V 0) (S i) r ∧ lkr (V 0) (S i) r ≤ r + 200 := by
        unfold lkr lkn; split <;> (try split) <;> omega
      rw [lk_end h sky hour per door st many frm top i g0 g1 g2 g3 hi' hm' hr hV hh (by rw [lkX_13]; exact hL) ⟨a1, a2⟩, s127_432, lkX_12, lkX_13, lkX_x, ih (i + 1) 0 _ _ _ _ _ _ _ hs2 ho2 (by omega) (by omega) hV (lkl_01 _ _ _ _ hL) (by omega)]
      simp only [lkG, e]
theorem lkG_01 (B : Int → Int) (hour : Int) : ∀ (ts : List Int) (q : lkQ), (∀ j, 0 ≤ q.1 j ∧ q.1 j ≤ 1) → ∀ j, 0 ≤ (lkG B hour ts q).1 j ∧ (lkG B hour ts q).1 j ≤ 1 := by
  intro ts
  induction ts with
  | nil => intro q hq; exact hq
  | cons t ts ih =>
    intro q hq
    refine ih (lkS B hour t q) ?_
    unfold lkS
    by_cases h1 : 0 ≤ t
    · rw [if_pos h1]; exact up_01 hq (tst_01 _ _ _)
    rw [if_neg h1]
    by_cases h2 : t = -1
    · rw [if_pos h2]; exact up_01 hq (by split <;> omega)
    rw [if_neg h2]
    by_cases h3 : -10 < t
    · rw [if_pos h3]; exact up_01 hq (by split <;> split <;> (try split) <;> omega)
    rw [if_neg h3]; exact hq
/-- what is known, in the reference's row -/
def lkB (B : Int → Int) (sky hour per door st : Int) : Int → Int := up (up (up (up (up B 0 sky) 1 (hour % 24)) 2 per) 3 door) 4 st
theorem up_rng {V : Int → Int} (hV : ∀ j, -2147483648 ≤ V j ∧ V j < 2147483648) {k v : Int} (hv : -2147483648 ≤ v ∧ v < 2147483648) : ∀ j, -2147483648 ≤ up V k v j ∧ up V k v j < 2147483648 := by
  intro j; unfold up; split
  · exact hv
  · exact hV j
theorem lkX_0 (X : Int → Int) : up (up X 12 0) 13 0 = lkX X 0 0 := rfl
/-- the row of the town that is held -/
def held (S : Int → Int) (ts : List Int) : Prop := (S 20 = -1 ∧ ts = []) ∨ (0 ≤ S 20 ∧ S 20 < 5 ∧ S (235 + S 20) = (ts.length : Int) ∧ seg S (240 + 140 * S 20) ts ∧ ts.length ≤ 140)
theorem m_looks (h : rM T R) (sky hour per door st : Int) (ts : List Int) (hts : held S ts) (hok : lkOk ts 0) (hr : ∀ j, -2147483648 ≤ S j ∧ S j < 2147483648) (hB : ∀ j, -2147483648 ≤ B j ∧ B j < 2147483648) (hV : ∀ j, 0 ≤ V j ∧ V j ≤ 1) (hh : 0 ≤ hour ∧ hour < 2000) (hsky : 0 ≤ sky ∧ sky ≤ 1) (hper : 0 ≤ per ∧ per < 100) (hdoor : 0 ≤ door ∧ door < 100) (hst : 0 ≤ st ∧ st < 100) :
    rn_c (d + 1) 127 [.ref 193, .int (iI sky), .int (iI hour), .int (iI per), .int (iI door), .int (iI st)] (T, lkM I X V B S, L, R, z, w) = some (none, (T, lkM I (lkX X (if (lkG (lkB B sky hour per door st) hour ts (V, 0, 0, 0)).2.2.1 ≤ 10 then (lkG (lkB B sky hour per door st) hour ts (V, 0, 0, 0)).2.2.1 else 10) (lkG (lkB B sky hour per door st) hour ts (V, 0, 0, 0)).2.2.2) (lkG (lkB B sky hour per door st) hour ts (V, 0, 0, 0)).1 (lkB B sky hour per door st) S, L, R, z, w)) := by
  have h20 : -1 ≤ S 20 ∧ S 20 < 5 := by rcases hts with q | q <;> omega
  have hmd : 0 ≤ hour % 24 ∧ hour % 24 < 24 := by omega
  have hB' : ∀ j, -2147483648 ≤ lkB B sky hour per door st j ∧ lkB B sky hour per door st j < 2147483648 := up_rng (up_rng (up_rng (up_rng (up_rng hB (by omega)) (by omega)) (by omega)) (by omega)) (by omega)
  have hseg : seg S (240 + 140 * S 20) ts := by
    rcases hts with q | q
    · rw [q.2]; exact trivial
    · exact q.2.2.2.1
  have hlen : (if S 20 = -1 then 0 else S (235 + S 20)) = (ts.length : Int) := by
    rcases hts with q | q
    · rw [if_pos q.1, q.2]; rfl
    · rw [if_neg (by omega)]; exact q.2.2.1
  have hl140 : ts.length ≤ 140 := by
    rcases hts with q | q
    · rw [q.2]; exact Nat.zero_le _
    · exact q.2.2.2.2
  have key := lk_loop (d := d + 1) (I := I) (L := L) (z := z) (w := w) (X := X) (B := lkB B sky hour per door st) h sky hour per door st (ts.length : Int) (240 + 140 * S 20) (by omega) hr hB' hh ts (240 + 140 * S 20) 0 0 0 V none none none none hseg hok (by omega) rfl hV (by omega) (by omega)
  rw [← key]
  simp (disch := omega) only [c127, s127_0, s127_0v, s127_1, s127_4, s127_5, s127_6, s127_7, s127_7v, s127_8, s127_11, s127_12, s127_13, s127_15, s127_16, s127_17, s127_17v, s127_18, s127_21, s127_22, s127_23, s127_24, s127_24v, s127_25, s127_28, s127_29, s127_31, s127_32, s127_32v, s127_33, s127_36, s127_37, s127_39, s127_40, s127_40v, s127_41, s127_42, s127_45, s127_45v, s127_46, s127_47, s127_50, s127_50v, s127_51, s127_54, s127_55, s127_58, s127_60, s127_63, s127_66, s127_66v, s127_67, s127_70, s127_72, s127_73, s127_74, s127_75, s127_77, s127_78, s127_80, s127_82, kl_i, kl_r, kl_l, kl_n, kl_z, bd_s, tl_s, tl_n, ap_c, ap_n, v_s, v_n, nd_1, nd_0, ct13, eq_self, iI_add, iI_sub, iI_mul, iI_nat, iI_eq, iI_lt, iI_le, iI_eq0, iI_lt0, ↓reduceIte, if_true, if_false, not_true_eq_false, not_false_eq_true, true_and, and_true, false_and, and_false, true_or, or_true, false_or, or_false, Int.reduceLT, Int.reduceLE, Int.reduceEq, Int.reduceAdd, Int.reduceSub, Int.reduceMul, Nat.reduceAdd, Nat.reduceLT, Nat.reduceEqDiff, Int.reduceNeg, h.t193, h.r1, h.r10, h.a194, h.b197, ov_r, ov_o, ov_p, ov_w, rf12, rf13, wf12, wf13, iI_divn, rem_n, m_tellsOf h hr, hlen, lkX_0, lkB]
end LK2
