/-! towns as clauses: what the reference's row comes to, and the class's loses -/
section LC
variable {d : Nat} {T : Nat → Nat × Nat} {L : Nat → Nat → Int64} {R : Nat → Nat → Option Nat} {z w : Nat} {J : mR} {t : Nat}
def repV (V : Int → Int) : List Int → Prop
  | [] => True
  | x :: r => V (r.length : Int) = x ∧ repV V r
theorem repV_u {V : Int → Int} {k v : Int} : ∀ (r : List Int), (r.length : Int) ≤ k → repV V r → repV (up V k v) r := by
  intro r
  induction r with
  | nil => intro _ _; trivial
  | cons x r ih =>
    intro hk h
    rw [List.length_cons] at hk
    exact ⟨by rw [up_o (by omega)]; exact h.1, ih (by omega) h.2⟩
theorem lkG_E (B : Int → Int) (hour : Int) : ∀ (ts st : List Int) (V : Int → Int) (h' : Int), vE ts (st.length : Int) h' → repV V st → ∃ V' : Int → Int, (∀ rest r l, lkG B hour (ts ++ rest) (V, (st.length : Int), r, l) = lkG B hour rest (V', h', r, l)) ∧ h' = ((evE B ts st).length : Int) ∧ repV V' (evE B ts st) := by
  intro ts
  induction ts with
  | nil => intro st V h' hv hr; cases hv; exact ⟨V, fun _ _ _ => rfl, rfl, hr⟩
  | cons t ts ih =>
    intro st V h' hv hr
    rcases hv with ⟨a1, a2, a3, a4, a5, a6, a7⟩ | ⟨a1, a2, a3, a4⟩ | ⟨a1, a2, a3, a4⟩
    · have et : evT B t st = tst (B (t % 8)) (t / 8 % 4) (t / 32) :: st := by unfold evT; rw [if_pos a1]
      obtain ⟨V', q1, q2, q3⟩ := ih (tst (B (t % 8)) (t / 8 % 4) (t / 32) :: st) (up V (st.length : Int) (tst (B (t % 8)) (t / 8 % 4) (t / 32))) h' (by rw [List.length_cons]; exact a7) ⟨up_r, repV_u st (Int.le_refl _) hr⟩
      refine ⟨V', fun rest r l => ?_, by show h' = ((evE B ts (evT B t st)).length : Int); rw [et]; exact q2, by show repV V' (evE B ts (evT B t st)); rw [et]; exact q3⟩
      rw [← q1 rest r l]
      show lkG B hour (ts ++ rest) (lkS B hour t (V, (st.length : Int), r, l)) = _
      unfold lkS; rw [if_pos a1]; rfl
    · match st, hr, a2 with
      | [], _, a2 => exact absurd a2 (by decide)
      | y :: q, hr, a2 =>
        have n1 : ¬ 0 ≤ t := by omega
        have et : evT B t (y :: q) = (if y = 0 then 1 else 0) :: q := by unfold evT; rw [if_neg n1, if_pos a1]
        have el : (((y :: q).length : Nat) : Int) - 1 = (q.length : Int) := by rw [List.length_cons]; omega
        obtain ⟨V', q1, q2, q3⟩ := ih ((if y = 0 then 1 else 0) :: q) (up V (q.length : Int) (if y = 0 then 1 else 0)) h' (by rw [List.length_cons] at a4 ⊢; exact a4) ⟨up_r, repV_u q (Int.le_refl _) hr.2⟩
        refine ⟨V', fun rest r l => ?_, by show h' = ((evE B ts (evT B t (y :: q))).length : Int); rw [et]; exact q2, by show repV V' (evE B ts (evT B t (y :: q))); rw [et]; exact q3⟩
        rw [← q1 rest r l]
        show lkG B hour (ts ++ rest) (lkS B hour t (V, (((y :: q).length : Nat) : Int), r, l)) = _
        unfold lkS; rw [if_neg n1, if_pos a1]; simp only [el, hr.1]; rfl
    · match st, hr, a2 with
      | [], _, a2 => exact absurd a2 (by decide)
      | [y], _, a2 => exact absurd a2 (by show ¬ (2 : Int) ≤ 1; decide)
      | y :: u :: q, hr, a2 =>
        have n1 : ¬ 0 ≤ t := by omega
        have n2 : ¬ t = -1 := by omega
        have n3 : -10 < t := by omega
        have el1 : (((y :: u :: q).length : Nat) : Int) - 1 = ((u :: q).length : Int) := by simp only [List.length_cons]; omega
        have el2 : (((y :: u :: q).length : Nat) : Int) - 2 = (q.length : Int) := by simp only [List.length_cons]; omega
        have el3 : ((u :: q).length : Int) = (q.length : Int) + 1 := by simp only [List.length_cons]; omega
        have key : ∀ v : Int, evT B t (y :: u :: q) = v :: q → (if t = -2 then (if u = 0 then 0 else if y = 0 then 0 else 1) else (if u = 0 then (if y = 0 then 0 else 1) else 1)) = v → ∃ V' : Int → Int, (∀ rest r l, lkG B hour ((t :: ts) ++ rest) (V, (((y :: u :: q).length : Nat) : Int), r, l) = lkG B hour rest (V', h', r, l)) ∧ h' = ((evE B (t :: ts) (y :: u :: q)).length : Int) ∧ repV V' (evE B (t :: ts) (y :: u :: q)) := by
          intro v et ev
          obtain ⟨V', q1, q2, q3⟩ := ih (v :: q) (up V (q.length : Int) v) h' (by rw [List.length_cons]; rw [el1] at a4; rw [List.length_cons] at a4; exact a4) ⟨up_r, repV_u q (Int.le_refl _) hr.2.2⟩
          refine ⟨V', fun rest r l => ?_, by show h' = ((evE B ts (evT B t (y :: u :: q))).length : Int); rw [et]; exact q2, by show repV V' (evE B ts (evT B t (y :: u :: q))); rw [et]; exact q3⟩
          rw [← q1 rest r l]
          show lkG B hour (ts ++ rest) (lkS B hour t (V, (((y :: u :: q).length : Nat) : Int), r, l)) = _
          unfold lkS; rw [if_neg n1, if_neg n2, if_pos n3]
          simp only [el1, el2, hr.1, hr.2.1, ev]
          rw [el3]; rfl
        rcases a1 with e | e
        · exact key (if u = 0 then 0 else if y = 0 then 0 else 1) (by unfold evT; rw [if_neg n1, if_neg n2, if_pos e]) (by rw [if_pos e])
        · exact key (if u = 0 then (if y = 0 then 0 else 1) else 1) (by unfold evT; rw [if_neg n1, if_neg n2, if_neg (by omega)]) (by rw [if_neg (by omega)])
theorem vE_len {B : Int → Int} {ts : List Int} (h : vE ts 0 1) : ∃ x, evE B ts [] = [x] ∧ evV B ts = x := by
  obtain ⟨V', _, q2, _⟩ := lkG_E B 0 ts [] (fun _ => 0) 1 h trivial
  generalize hz : evE B ts [] = s at *
  match s, q2 with
  | [x], _ => exact ⟨x, rfl, by unfold evV; rw [hz]; rfl⟩
  | [], q2 => exact absurd q2 (by decide)
  | _ :: _ :: r, q2 => exfalso; simp only [List.length_cons] at q2; omega
theorem evT_n {B B' : Int → Int} {t : Int} {st : List Int} (n1 : ¬ 0 ≤ t) : evT B t st = evT B' t st := by
  unfold evT
  rw [if_neg n1, if_neg n1]
theorem evE_B {B B' : Int → Int} (hB : ∀ j, 0 ≤ j → j < 5 → B j = B' j) : ∀ (ts st : List Int) (h h' : Int), vE ts h h' → evE B ts st = evE B' ts st := by
  intro ts
  induction ts with
  | nil => intro st h h' _; rfl
  | cons t ts ih =>
    intro st h h' hv
    rcases hv with ⟨a1, a2, a3, a4, a5, a6, a7⟩ | ⟨a1, a2, a3, a4⟩ | ⟨a1, a2, a3, a4⟩
    · have et : evT B t st = evT B' t st := by unfold evT; rw [if_pos a1, if_pos a1, hB _ (by omega) a2]
      show evE B ts (evT B t st) = evE B' ts (evT B' t st)
      rw [et]; exact ih _ _ _ a7
    · have et : evT B t st = evT B' t st := evT_n (by omega)
      show evE B ts (evT B t st) = evE B' ts (evT B' t st)
      rw [et]; exact ih _ _ _ a4
    · have et : evT B t st = evT B' t st := evT_n (by omega)
      show evE B ts (evT B t st) = evE B' ts (evT B' t st)
      rw [et]; exact ih _ _ _ a4
theorem evV_B {B B' : Int → Int} {ts : List Int} (hB : ∀ j, 0 ≤ j → j < 5 → B j = B' j) (h : vE ts 0 1) : evV B ts = evV B' ts := by unfold evV; rw [evE_B hB ts [] 0 1 h]
/-- a clause's tokens in the reference's row -/
def tokC (c : CL) : List Int := if c.1 = 0 then c.2.2 ++ [-10 - c.2.1] else if c.1 = 3 then c.2.2 ++ [-200 - c.2.1] else []
def wfC (c : CL) : Prop := (0 ≤ c.1 ∧ c.1 ≤ 4) ∧ (0 ≤ c.2.1 ∧ c.2.1 ≤ 99) ∧ ((c.1 = 0 ∨ c.1 = 3) → vE c.2.2 0 1)
def wfL (cs : List CL) : Prop := ∀ c, c ∈ cs → wfC c
def tokL (cs : List CL) : List Int := cs.flatMap tokC
def rnC (B : Int → Int) : List CL → Int
  | [] => 0
  | c :: cs => (if c.1 = 0 then (if evV B c.2.2 = 0 then 0 else c.2.1) else 0) + rnC B cs
def lsC (B : Int → Int) (hour : Int) : List CL → Int
  | [] => 0
  | c :: cs => if c.1 = 3 then (if evV B c.2.2 = 0 then lsC B hour cs else if c.2.1 ≤ 0 then lsC B hour cs else if (hour + 1) % c.2.1 = 0 then 1 else lsC B hour cs) else lsC B hour cs
theorem evV_01 {B : Int → Int} {ts : List Int} (h : vE ts 0 1) : evV B ts = 0 ∨ evV B ts = 1 := by
  have : ∀ (ts st : List Int), b01 st → b01 (evE B ts st) := by
    intro ts
    induction ts with
    | nil => intro st h; exact h
    | cons t ts ih => intro st h; exact ih _ (evT_01 h)
  obtain ⟨x, e1, e2⟩ := vE_len (B := B) h
  have := this ts [] (fun q hq => absurd hq (List.not_mem_nil))
  rw [e1] at this
  rw [e2]; exact this x (List.mem_cons_self ..)
theorem lkG_C (B : Int → Int) (hour : Int) : ∀ (cs : List CL) (V : Int → Int) (r l : Int), wfL cs → l = 0 ∨ l = 1 → (lkG B hour (tokL cs) (V, 0, r, l)).2.2 = (r + rnC B cs, if l = 0 then lsC B hour cs else 1) := by
  intro cs
  induction cs with
  | nil =>
    intro V r l _ hl
    show (r, l) = _
    simp only [rnC, lsC, Int.add_zero]
    rcases hl with rfl | rfl <;> rfl
  | cons c cs ih =>
    intro V r l hw hl
    have hc := hw c (List.mem_cons_self ..)
    have hcs : wfL cs := fun q hq => hw q (List.mem_cons_of_mem _ hq)
    have et : tokL (c :: cs) = tokC c ++ tokL cs := by unfold tokL; rw [List.flatMap_cons]
    rw [et]
    obtain ⟨⟨c0, c4⟩, ⟨n0, n9⟩, hv⟩ := hc
    by_cases k0 : c.1 = 0
    · obtain ⟨V', q1, q2, q3⟩ := lkG_E B hour c.2.2 [] V 1 (hv (Or.inl k0)) trivial
      obtain ⟨x, e1, e2⟩ := vE_len (B := B) (hv (Or.inl k0))
      rw [e1] at q3
      have hx0 : V' 0 = x := q3.1
      have ek : tokC c = c.2.2 ++ [-10 - c.2.1] := by unfold tokC; rw [if_pos k0]
      rw [ek, List.append_assoc]
      have q1' := q1 ([-10 - c.2.1] ++ tokL cs) r l
      rw [List.length_nil] at q1'
      rw [show (0 : Int) = ((0 : Nat) : Int) from rfl, q1']
      show (lkG B hour (tokL cs) (lkS B hour (-10 - c.2.1) (V', 1, r, l))).2.2 = _
      have es : lkS B hour (-10 - c.2.1) (V', 1, r, l) = (V', 0, lkr (V' 0) (-10 - c.2.1) r, lkl (V' 0) (-10 - c.2.1) hour l) := by
        unfold lkS; rw [if_neg (by omega), if_neg (by omega), if_neg (by omega)]
      have er : lkr (V' 0) (-10 - c.2.1) r = r + (if evV B c.2.2 = 0 then 0 else c.2.1) := by
        have n2 : ¬ -10 - c.2.1 ≤ -200 := by omega
        unfold lkr lkn; rw [hx0, e2, if_neg n2, if_neg n2]
        congr 1; split
        · rfl
        · omega
      have el : lkl (V' 0) (-10 - c.2.1) hour l = l := by
        unfold lkl
        rw [if_neg (by omega : ¬ (-10 - c.2.1 ≤ -200))]
        rcases hl with rfl | rfl
        · rw [if_pos rfl]; split <;> rfl
        · rfl
      rw [es, er, el, ih V' _ l hcs hl]
      simp only [rnC, lsC, if_pos k0]
      rw [if_neg (by omega : ¬ c.1 = 3), Int.add_assoc]
      rfl
    · by_cases k3 : c.1 = 3
      · obtain ⟨V', q1, q2, q3⟩ := lkG_E B hour c.2.2 [] V 1 (hv (Or.inr k3)) trivial
        obtain ⟨x, e1, e2⟩ := vE_len (B := B) (hv (Or.inr k3))
        rw [e1] at q3
        have hx0 : V' 0 = x := q3.1
        have ek : tokC c = c.2.2 ++ [-200 - c.2.1] := by unfold tokC; rw [if_neg k0, if_pos k3]
        rw [ek, List.append_assoc]
        have q1' := q1 ([-200 - c.2.1] ++ tokL cs) r l
        rw [List.length_nil] at q1'
        rw [show (0 : Int) = ((0 : Nat) : Int) from rfl, q1']
        show (lkG B hour (tokL cs) (lkS B hour (-200 - c.2.1) (V', 1, r, l))).2.2 = _
        have es : lkS B hour (-200 - c.2.1) (V', 1, r, l) = (V', 0, lkr (V' 0) (-200 - c.2.1) r, lkl (V' 0) (-200 - c.2.1) hour l) := by
          unfold lkS; rw [if_neg (by omega), if_neg (by omega), if_neg (by omega)]
        have er : lkr (V' 0) (-200 - c.2.1) r = r := by
          unfold lkr; rw [if_pos (by omega : -200 - c.2.1 ≤ -200)]
          split <;> omega
        have en : lkn (-200 - c.2.1) = c.2.1 := by unfold lkn; rw [if_pos (by omega)]; omega
        have el : lkl (V' 0) (-200 - c.2.1) hour l = if l = 0 then (if evV B c.2.2 = 0 then 0 else if c.2.1 ≤ 0 then 0 else if (hour + 1) % c.2.1 = 0 then 1 else 0) else 1 := by
          unfold lkl; rw [hx0, e2, if_pos (by omega : -200 - c.2.1 ≤ -200), en]
        have hl' : lkl (V' 0) (-200 - c.2.1) hour l = 0 ∨ lkl (V' 0) (-200 - c.2.1) hour l = 1 := by
          rw [el]; repeat' split
          all_goals omega
        rw [es, er, ih V' _ _ hcs hl', el]
        simp only [rnC, lsC, if_neg k0, if_pos k3, Int.zero_add]
        rw [show (((0 : Nat) : Int)) = 0 from rfl]
        rcases hl with rfl | rfl
        · simp only [if_true]
          by_cases v0 : evV B c.2.2 = 0
          · simp only [if_pos v0, if_true]
          · simp only [if_neg v0]
            by_cases m0 : c.2.1 ≤ 0
            · simp only [if_pos m0, if_true]
            · simp only [if_neg m0]
              by_cases m1 : (hour + 1) % c.2.1 = 0
              · simp only [if_pos m1]; rfl
              · simp only [if_neg m1, if_true]
        · rfl
      · have ek : tokC c = [] := by unfold tokC; rw [if_neg k0, if_neg k3]
        rw [ek, List.nil_append, ih V r l hcs hl]
        simp only [rnC, lsC, if_neg k0, if_neg k3, Int.zero_add]
/-- what is known -/
abbrev knB (sky hour per door st : Int) : Int → Int := lkB (fun _ => 0) sky hour per door st
theorem lkRes_C {cs : List CL} (hw : wfL cs) (sky hour per door st : Int) : lkRes (tokL cs) sky hour per door st = (rnC (knB sky hour per door st) cs, lsC (knB sky hour per door st) hour cs) := by
  unfold lkRes
  rw [lkG_C _ hour cs _ 0 0 hw (Or.inl rfl)]
  rw [Int.zero_add, if_pos rfl]
/-- the class's town: from a place of its code and a loss on -/
def loR (J : mR) (t : Nat) : List CL → Int → Int → Prop
  | [], p, k => J t 7 = k ∧ J t 9 = p
  | c :: cs, p, k => if c.1 = 0 then seg (J (t + 5)) p (c.2.2.map trC) ∧ loR J t cs (p + (c.2.2.length : Int)) k
    else if c.1 = 3 then seg (J (t + 5)) p (c.2.2.map trC) ∧ J (t + 2) k = c.2.1 ∧ J (t + 3) k = p ∧ J (t + 4) k = p + (c.2.2.length : Int) ∧ loR J t cs (p + (c.2.2.length : Int)) (k + 1)
    else loR J t cs p k
theorem loR_k (J : mR) (t : Nat) : ∀ (cs : List CL) (p k : Int), loR J t cs p k → k ≤ J t 7 ∧ p ≤ J t 9 := by
  intro cs
  induction cs with
  | nil => intro p k h; exact ⟨by rw [h.1]; exact Int.le_refl _, by rw [h.2]; exact Int.le_refl _⟩
  | cons c cs ih =>
    intro p k h
    unfold loR at h
    split at h
    · have := ih _ _ h.2; omega
    split at h
    · have := ih _ _ h.2.2.2.2; omega
    · exact ih _ _ h
theorem loR_x {J J' : mR} {t : Nat} (e0 : J' t = J t) (e2 : J' (t + 2) = J (t + 2)) (e3 : J' (t + 3) = J (t + 3)) (e4 : J' (t + 4) = J (t + 4)) (e5 : J' (t + 5) = J (t + 5)) : ∀ (cs : List CL) (p k : Int), loR J t cs p k → loR J' t cs p k := by
  intro cs
  induction cs with
  | nil => intro p k h; exact ⟨by rw [e0]; exact h.1, by rw [e0]; exact h.2⟩
  | cons c cs ih =>
    intro p k h
    unfold loR at h ⊢
    split
    · rename_i q; rw [if_pos q] at h; exact ⟨by rw [e5]; exact h.1, ih _ _ h.2⟩
    rename_i q; rw [if_neg q] at h
    split
    · rename_i q2; rw [if_pos q2] at h; exact ⟨by rw [e5]; exact h.1, by rw [e2]; exact h.2.1, by rw [e3]; exact h.2.2.1, by rw [e4]; exact h.2.2.2.1, ih _ _ h.2.2.2.2⟩
    · rename_i q2; rw [if_neg q2] at h; exact ih _ _ h
end LC
