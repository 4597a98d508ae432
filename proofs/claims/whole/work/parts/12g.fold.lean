/-! both sides: town -/
section UG
variable {d : Nat} {T T' : Nat → Nat × Nat} {L : Nat → Nat → Int64} {R R' : Nat → Nat → Option Nat} {z z' w : Nat} {J J1 J2 J3 Q : mR} {t t' b : Nat} {S S' : Int → Int} {cs cs' : List CL} {ts : List Int} {x : Int → Int} {n a : Int}
theorem lk_v : ∀ (ts : List Int) (h h' : Int) (rest : List Int), vE ts h h' → lkOk rest h' → lkOk (ts ++ rest) h := by
  intro ts
  induction ts with
  | nil => intro h h' rest hv hr; cases hv; exact hr
  | cons t ts ih =>
    intro h h' rest hv hr
    show lkO t h ∧ lkOk (ts ++ rest) (lkT t h)
    rcases hv with ⟨a1, a2, a3, a4, a5, a6, a7⟩ | ⟨a1, a2, a3, a4⟩ | ⟨a1, a2, a3, a4⟩
    · refine ⟨Or.inl ⟨a1, a2, a5, by omega⟩, ?_⟩
      unfold lkT; rw [if_pos a1]; exact ih _ _ _ a7 hr
    · refine ⟨Or.inr (Or.inl ⟨a1, by omega, by omega⟩), ?_⟩
      unfold lkT; rw [if_neg (by omega), if_pos a1]; exact ih _ _ _ a4 hr
    · refine ⟨Or.inr (Or.inr (Or.inl ⟨a1, a2, by omega⟩)), ?_⟩
      unfold lkT; rw [if_neg (by omega), if_neg (by omega), if_pos (by omega)]; exact ih _ _ _ a4 hr
theorem lk_wf : ∀ cs : List CL, wfL cs → lkOk (tokL cs) 0 := by
  intro cs
  induction cs with
  | nil => intro _; trivial
  | cons c cs ih =>
    intro h
    obtain ⟨⟨c0, c4⟩, ⟨n0, n9⟩, hv⟩ := h c (List.mem_cons_self ..)
    have ih := ih (fun q hq => h q (List.mem_cons_of_mem _ hq))
    show lkOk (tokC c ++ tokL cs) 0
    unfold tokC
    split
    · rename_i k
      rw [List.append_assoc]
      refine lk_v _ 0 1 _ (hv (Or.inl k)) ⟨Or.inr (Or.inr (Or.inr ⟨by omega, by omega, rfl⟩)), ?_⟩
      unfold lkT; rw [if_neg (by omega), if_neg (by omega), if_neg (by omega)]; exact ih
    split
    · rename_i k0 k
      rw [List.append_assoc]
      refine lk_v _ 0 1 _ (hv (Or.inr k)) ⟨Or.inr (Or.inr (Or.inr ⟨by omega, by omega, rfl⟩)), ?_⟩
      unfold lkT; rw [if_neg (by omega), if_neg (by omega), if_neg (by omega)]; exact ih
    · exact ih
theorem vE_t : ∀ (ts : List Int) (h h' : Int), vE ts h h' → ∀ v, v ∈ ts → i32 v := by
  intro ts
  induction ts with
  | nil => intro h h' _ v hv; exact absurd hv (List.not_mem_nil)
  | cons t ts ih =>
    intro h h' hv v hm
    rcases List.mem_cons.mp hm with rfl | hm
    · rcases hv with ⟨a1, a2, a3, a4, _⟩ | ⟨a1, _⟩ | ⟨a1, _⟩
      · omega
      · omega
      · omega
    · rcases hv with ⟨_, _, _, _, _, _, a⟩ | ⟨_, _, _, a⟩ | ⟨_, _, _, a⟩
      · exact ih _ _ a v hm
      · exact ih _ _ a v hm
      · exact ih _ _ a v hm
theorem tok_r : ∀ cs : List CL, wfL cs → ∀ v, v ∈ tokL cs → i32 v := by
  intro cs
  induction cs with
  | nil => intro _ v hv; exact absurd hv (List.not_mem_nil)
  | cons c cs ih =>
    intro h v hv
    obtain ⟨⟨c0, c4⟩, ⟨n0, n9⟩, hve⟩ := h c (List.mem_cons_self ..)
    have ih := ih (fun q hq => h q (List.mem_cons_of_mem _ hq))
    have hv : v ∈ tokC c ++ tokL cs := hv
    rcases List.mem_append.mp hv with hv | hv
    · unfold tokC at hv
      split at hv
      · rename_i k
        rcases List.mem_append.mp hv with hv | hv
        · exact vE_t _ _ _ (hve (Or.inl k)) v hv
        · rw [List.mem_singleton.mp hv]; omega
      split at hv
      · rename_i k0 k
        rcases List.mem_append.mp hv with hv | hv
        · exact vE_t _ _ _ (hve (Or.inr k)) v hv
        · rw [List.mem_singleton.mp hv]; omega
      · exact absurd hv (List.not_mem_nil)
    · exact ih v hv
/-- tokens laid in the reference's row -/
theorem laT_p (ha : 0 ≤ a ∧ a ≤ 4) : ∀ (us dn : List Int) (S : Int → Int), S (235 + a) = (dn.length : Int) → seg S (240 + 140 * a) dn → (dn ++ us).length ≤ 140 → laT a S us (235 + a) = ((dn ++ us).length : Int) ∧ seg (laT a S us) (240 + 140 * a) (dn ++ us) ∧ eqO a S (laT a S us) := by
  have sga : ∀ (xs ys : List Int) (S : Int → Int) (k : Int), seg S k xs → seg S (k + xs.length) ys → seg S k (xs ++ ys) := by
    intro xs
    induction xs with
    | nil => intro ys S k _ h; rw [show k + (([] : List Int).length : Int) = k by simp] at h; exact h
    | cons v xs ih =>
      intro ys S k h g
      refine ⟨h.1, ih ys S (k + 1) h.2 ?_⟩
      rw [List.length_cons, nc_s] at g
      rw [show k + 1 + (xs.length : Int) = k + ((xs.length : Int) + 1) by omega]; exact g
  intro us
  induction us with
  | nil => intro dn S h1 h2 h3; rw [List.append_nil]; exact ⟨h1, h2, fun _ _ _ => rfl⟩
  | cons v us ih =>
    intro dn S h1 h2 h3
    have hl : (dn ++ v :: us).length = dn.length + us.length + 1 := by rw [List.length_append, List.length_cons]; omega
    have el : dn ++ v :: us = (dn ++ [v]) ++ us := by rw [List.append_assoc]; rfl
    have eo : eqO a S (emS a S v) := emS_o (by omega) ha
    have g1 : emS a S v (235 + a) = ((dn ++ [v]).length : Int) := by
      rw [emS_c, h1, List.length_append]; simp only [List.length_cons, List.length_nil]; omega
    have g2 : seg (emS a S v) (240 + 140 * a) (dn ++ [v]) := by
      refine sga dn [v] _ _ (seg_e dn _ (fun j j0 j1 => ?_) h2) ⟨?_, trivial⟩
      · unfold emS; rw [up_o (by omega), up_o (by omega)]
      · unfold emS; rw [up_o (by omega), h1, up_r]
    rw [el]
    obtain ⟨r1, r2, r3⟩ := ih (dn ++ [v]) (emS a S v) g1 g2 (by rw [← el]; exact h3)
    exact ⟨r1, r2, eo.tr r3⟩
theorem eqO.c (h : eqO a S S') : eqC a S S' := fun j _ _ _ h4 h5 => h j h4 h5
theorem eqC_tr {S'' : Int → Int} (h : eqC a S S') (g : eqC a S' S'') : eqC a S S'' := fun j h1 h2 h3 h4 h5 => (g j h1 h2 h3 h4 h5).trans (h j h1 h2 h3 h4 h5)
theorem fold_cl (ha : 0 ≤ a ∧ a ≤ 4) : ∀ (cs : List CL) (dn : List Int) (S : Int → Int), wfL cs → S (235 + a) = (dn.length : Int) → seg S (240 + 140 * a) dn → (dn ++ tokL cs).length ≤ 140 → cs.foldl (clS a) S (235 + a) = ((dn ++ tokL cs).length : Int) ∧ seg (cs.foldl (clS a) S) (240 + 140 * a) (dn ++ tokL cs) ∧ cs.foldl (clS a) S (220 + a) = lsW 1 cs (S (220 + a)) ∧ cs.foldl (clS a) S (225 + a) = lsW 2 cs (S (225 + a)) ∧ cs.foldl (clS a) S (230 + a) = lsW 4 cs (S (230 + a)) ∧ eqC a S (cs.foldl (clS a) S) := by
  intro cs
  induction cs with
  | nil =>
    intro dn S _ h1 h2 h3
    have e : dn ++ tokL [] = dn := List.append_nil _
    rw [e]
    exact ⟨h1, h2, rfl, rfl, rfl, fun _ _ _ _ _ _ => rfl⟩
  | cons c cs ih =>
    intro dn S hw h1 h2 h3
    obtain ⟨⟨c0, c4⟩, ⟨n0, n9⟩, hve⟩ := hw c (List.mem_cons_self ..)
    have hcs : wfL cs := fun q hq => hw q (List.mem_cons_of_mem _ hq)
    have et : dn ++ tokL (c :: cs) = (dn ++ tokC c) ++ tokL cs := by rw [List.append_assoc]; rfl
    rw [et] at h3 ⊢
    have hl : (dn ++ tokC c).length ≤ 140 := by rw [List.length_append] at h3; omega
    -- what the clause leaves
    have key : clS a S c (235 + a) = ((dn ++ tokC c).length : Int) ∧ seg (clS a S c) (240 + 140 * a) (dn ++ tokC c) ∧ clS a S c (220 + a) = (if c.1 = 1 then c.2.1 else S (220 + a)) ∧ clS a S c (225 + a) = (if c.1 = 2 then c.2.1 else S (225 + a)) ∧ clS a S c (230 + a) = (if c.1 = 4 then c.2.1 else S (230 + a)) ∧ eqC a S (clS a S c) := by
      have lay : ∀ us : List Int, tokC c = us → clS a S c = laT a S us → ¬ c.1 = 1 → ¬ c.1 = 2 → ¬ c.1 = 4 → clS a S c (235 + a) = ((dn ++ tokC c).length : Int) ∧ seg (clS a S c) (240 + 140 * a) (dn ++ tokC c) ∧ clS a S c (220 + a) = (if c.1 = 1 then c.2.1 else S (220 + a)) ∧ clS a S c (225 + a) = (if c.1 = 2 then c.2.1 else S (225 + a)) ∧ clS a S c (230 + a) = (if c.1 = 4 then c.2.1 else S (230 + a)) ∧ eqC a S (clS a S c) := by
        intro us e1 e2 m1 m2 m4
        rw [e1] at hl ⊢
        obtain ⟨r1, r2, r3⟩ := laT_p ha us dn S h1 h2 hl
        rw [e2, if_neg m1, if_neg m2, if_neg m4]
        exact ⟨r1, r2, r3 _ (by omega) (by omega), r3 _ (by omega) (by omega), r3 _ (by omega) (by omega), r3.c⟩
      have one : ∀ (p q : Int), tokC c = [] → clS a S c = up S (p + a) c.2.1 → (p = 220 ∧ c.1 = 1 ∨ p = 225 ∧ c.1 = 2 ∨ p = 230 ∧ c.1 = 4) → clS a S c (235 + a) = ((dn ++ tokC c).length : Int) ∧ seg (clS a S c) (240 + 140 * a) (dn ++ tokC c) ∧ clS a S c (220 + a) = (if c.1 = 1 then c.2.1 else S (220 + a)) ∧ clS a S c (225 + a) = (if c.1 = 2 then c.2.1 else S (225 + a)) ∧ clS a S c (230 + a) = (if c.1 = 4 then c.2.1 else S (230 + a)) ∧ eqC a S (clS a S c) := by
        intro p q e1 e2 hp
        rw [e1, e2, List.append_nil]
        refine ⟨by rw [up_o (by omega)]; exact h1, seg_e dn _ (fun j j0 j1 => up_o (by omega)) h2, ?_, ?_, ?_, fun j g1 g2 g3 _ _ => up_o (by omega)⟩
        · by_cases m : c.1 = 1
          · rw [if_pos m, show p = 220 by omega, up_r]
          · rw [if_neg m, up_o (by omega)]
        · by_cases m : c.1 = 2
          · rw [if_pos m, show p = 225 by omega, up_r]
          · rw [if_neg m, up_o (by omega)]
        · by_cases m : c.1 = 4
          · rw [if_pos m, show p = 230 by omega, up_r]
          · rw [if_neg m, up_o (by omega)]
      have hk : c.1 = 0 ∨ c.1 = 1 ∨ c.1 = 2 ∨ c.1 = 3 ∨ c.1 = 4 := by omega
      rcases hk with k | k | k | k | k
      · exact lay (c.2.2 ++ [-10 - c.2.1]) (by unfold tokC; rw [if_pos k]) (by unfold clS; rw [if_pos k]) (by omega) (by omega) (by omega)
      · exact one 220 0 (by unfold tokC; rw [if_neg (by omega), if_neg (by omega)]) (by unfold clS; rw [if_neg (by omega), if_neg (by omega), if_pos k]) (by omega)
      · exact one 225 0 (by unfold tokC; rw [if_neg (by omega), if_neg (by omega)]) (by unfold clS; rw [if_neg (by omega), if_neg (by omega), if_neg (by omega), if_pos k]) (by omega)
      · exact lay (c.2.2 ++ [-200 - c.2.1]) (by unfold tokC; rw [if_neg (by omega), if_pos k]) (by unfold clS; rw [if_neg (by omega), if_pos k]) (by omega) (by omega) (by omega)
      · exact one 230 0 (by unfold tokC; rw [if_neg (by omega), if_neg (by omega)]) (by unfold clS; rw [if_neg (by omega), if_neg (by omega), if_neg (by omega), if_neg (by omega)]) (by omega)
    obtain ⟨k1, k2, k3, k4, k5, k6⟩ := key
    obtain ⟨r1, r2, r3, r4, r5, r6⟩ := ih (dn ++ tokC c) (clS a S c) hcs k1 k2 h3
    have ef : (c :: cs).foldl (clS a) S = cs.foldl (clS a) (clS a S c) := rfl
    rw [ef]
    rw [k3] at r3
    rw [k4] at r4
    rw [k5] at r5
    exact ⟨r1, r2, r3, r4, r5, eqC_tr k6 r6⟩
theorem tokL_n {J : mR} : ∀ (cs : List CL) (p k : Int), loR J t cs p k → ((tokL cs).length : Int) ≤ J t 9 - p + (cs.length : Int) := by
  intro cs
  induction cs with
  | nil => intro p k h; rw [h.2]; show ((0 : Nat) : Int) ≤ _; simp
  | cons c cs ih =>
    intro p k h
    have el : (tokL (c :: cs)).length = (tokC c).length + (tokL cs).length := by
      show (tokC c ++ tokL cs).length = _
      rw [List.length_append]
    rw [el, List.length_cons]
    unfold loR at h
    unfold tokC
    split at h
    · rename_i q
      have := ih _ _ h.2
      rw [if_pos q, List.length_append]
      simp only [List.length_cons, List.length_nil]
      omega
    rename_i q
    split at h
    · rename_i q2
      have := ih _ _ h.2.2.2.2
      rw [if_neg q, if_pos q2, List.length_append]
      simp only [List.length_cons, List.length_nil]
      omega
    · rename_i q2
      have := ih _ _ h
      rw [if_neg q, if_neg q2]
      simp only [List.length_nil]
      omega
theorem tnP_n (h : (tnP x n).2 = some cs) : cs.length ≤ 10 := by
  have key : ∀ (m : Nat) (j : Int) (cs : List CL), (tnR x n m j).2 = some cs → cs.length ≤ m := by
    intro m
    induction m with
    | zero => intro j cs h; cases h; simp
    | succ m ih =>
      intro j cs h
      simp only [tnR] at h
      split at h
      · cases hc : clP x n (j + 1) with
        | mk p oc =>
          rw [hc] at h
          cases oc with
          | none => cases h
          | some c =>
            cases hz : tnR x n m p with
            | mk q ocs =>
              cases ocs with
              | none => rw [tnC_n hz] at h; cases h
              | some us =>
                rw [tnC_s hz] at h
                cases h
                have := ih p us (by rw [hz])
                simp only [List.length_cons]; omega
      · cases h; simp
  unfold tnP at h
  cases hc : clP x n 0 with
  | mk p oc =>
    rw [hc] at h
    cases oc with
    | none => cases h
    | some c =>
      cases hz : tnR x n 9 p with
      | mk q ocs =>
        cases ocs with
        | none => rw [tnC_n hz] at h; cases h
        | some us =>
          rw [tnC_s hz] at h
          cases h
          have := key 9 p us (by rw [hz])
          simp only [List.length_cons]; omega
end UG
