/-! RUNS AS VALUES: rn_r is what AM's run from a place comes to, whatever the fuel; rn_c a method's call -/
abbrev rn_A : Type := Option (Option Value × am_Mem)
theorem rn_run2 {n d y pc len : Nat} {ls : am_Loc} {st : List Value} {M : am_Mem} {i : Instr} (hd : decode (am_bc y) pc = .ok (i, len)) (hl : am_len i = len ∨ am_len i = 0) : am_run (n + 1) d y pc ls st M = match am_ex d y i pc ls st M with
      | none => none
      | some (.inl (pc', ls', st', M')) => am_run n d y pc' ls' st' M'
      | some (.inr (.inl r)) => some r
      | some (.inr (.inr (c, as, rest))) => match d with
        | 0 => none
        | d' + 1 => match am_run n d' c 0 (am_entry c as) [] M with
          | none => none
          | some (v, M') => am_run n (d' + 1) y (pc + 3) ls (v.toList ++ rest) M' := by
  rw [am_run, hd]
  dsimp only
  rw [if_pos hl]
  rfl
theorem rn_run3 {n d y pc : Nat} {ls : am_Loc} {st : List Value} {M : am_Mem} {r : Option Value × am_Mem} (h : am_run (n + 1) d y pc ls st M = some r) : ∃ i len, decode (am_bc y) pc = .ok (i, len) ∧ (am_len i = len ∨ am_len i = 0) := by
  rw [am_run] at h
  cases hd : decode (am_bc y) pc with
  | error z => rw [hd] at h; cases h
  | ok z =>
    obtain ⟨i, len⟩ := z
    rw [hd] at h
    dsimp only at h
    by_cases hl : am_len i = len ∨ am_len i = 0
    · exact ⟨i, len, rfl, hl⟩
    · rw [if_neg hl] at h
      cases h
theorem rn_more : ∀ (n d y pc : Nat) (ls : am_Loc) (st : List Value) (M : am_Mem) (r : Option Value × am_Mem), am_run n d y pc ls st M = some r → ∀ k, am_run (n + k) d y pc ls st M = some r := by
  intro n
  induction n with
  | zero => intro d y pc ls st M r h; cases h
  | succ n ih =>
    intro d y pc ls st M r h k
    obtain ⟨i, len, hd, hl⟩ := rn_run3 h
    rw [show n + 1 + k = (n + k) + 1 by omega, rn_run2 hd hl]
    rw [rn_run2 hd hl] at h
    generalize am_ex d y i pc ls st M = z at h ⊢
    rcases z with _ | (⟨pc', ls', st', M'⟩ | r' | ⟨c, as, rest⟩)
    · cases h
    · exact ih _ _ _ _ _ _ _ h k
    · exact h
    · cases d with
      | zero => exact h
      | succ d' =>
        dsimp only at h ⊢
        split at h
        · cases h
        · rename_i h1
          rw [ih _ _ _ _ _ _ _ h1 k]
          exact ih _ _ _ _ _ _ _ h k
theorem rn_same {n m d y pc : Nat} {ls : am_Loc} {st : List Value} {M : am_Mem} {r r' : Option Value × am_Mem} (h : am_run n d y pc ls st M = some r) (h' : am_run m d y pc ls st M = some r') : r = r' := by
  have h1 := rn_more _ _ _ _ _ _ _ _ h m
  have h2 := rn_more _ _ _ _ _ _ _ _ h' n
  rw [Nat.add_comm m n, h1] at h2
  exact Option.some.inj h2
noncomputable def rn_r (d y pc : Nat) (ls : am_Loc) (st : List Value) (M : am_Mem) : rn_A :=
  @dite _ (∃ n r, am_run n d y pc ls st M = some r) (Classical.propDecidable _) (fun h => some h.choose_spec.choose) (fun _ => none)
theorem rn_iff {d y pc : Nat} {ls : am_Loc} {st : List Value} {M : am_Mem} {r : Option Value × am_Mem} : rn_r d y pc ls st M = some r ↔ ∃ n, am_run n d y pc ls st M = some r := by
  unfold rn_r
  constructor
  · intro h
    by_cases hx : ∃ n r, am_run n d y pc ls st M = some r
    · rw [dif_pos hx] at h
      exact ⟨hx.choose, by rw [hx.choose_spec.choose_spec]; exact h⟩
    · rw [dif_neg hx] at h
      cases h
  · intro h
    obtain ⟨n, hn⟩ := h
    have hx : ∃ n r, am_run n d y pc ls st M = some r := ⟨n, r, hn⟩
    rw [dif_pos hx]
    exact congrArg some (rn_same hx.choose_spec.choose_spec hn)
theorem rn_ext {a b : rn_A} (h : ∀ r, a = some r ↔ b = some r) : a = b := by
  cases ha : a with
  | some r => exact ((h r).mp ha).symm
  | none =>
    cases hb : b with
    | none => rfl
    | some r => rw [(h r).mpr hb] at ha; cases ha
noncomputable def rn_c (d y : Nat) (as : List Value) (M : am_Mem) : rn_A := rn_r d y 0 (am_entry y as) [] M
section RN
variable {d y pc pc' len : Nat} {ls ls' : am_Loc} {st st' : List Value} {M M' : am_Mem} {i : Instr} {q : MethodName × ByteArray × Nat × Option FieldType × Nat × Nat}
theorem rn_run1 {n : Nat} (hm : am_m y = q) (hd : decode q.2.1 pc = .ok (i, len)) (hl : am_len i = len ∨ am_len i = 0) : am_run (n + 1) d y pc ls st M = match am_ex d y i pc ls st M with
      | none => none
      | some (.inl (pc', ls', st', M')) => am_run n d y pc' ls' st' M'
      | some (.inr (.inl r)) => some r
      | some (.inr (.inr (c, as, rest))) => match d with
        | 0 => none
        | d' + 1 => match am_run n d' c 0 (am_entry c as) [] M with
          | none => none
          | some (v, M') => am_run n (d' + 1) y (pc + 3) ls (v.toList ++ rest) M' := by
  have hd' : decode (am_bc y) pc = .ok (i, len) := by unfold am_bc; rw [hm]; exact hd
  exact rn_run2 hd' hl
theorem rn_next (hm : am_m y = q) (hd : decode q.2.1 pc = .ok (i, len)) (hl : am_len i = len ∨ am_len i = 0) (he : am_ex d y i pc ls st M = am_nx pc' ls' st' M') : rn_r d y pc ls st M = rn_r d y pc' ls' st' M' := by
  apply rn_ext
  intro r
  rw [rn_iff, rn_iff]
  constructor
  · rintro ⟨n, hn⟩
    cases n with
    | zero => cases hn
    | succ n =>
      rw [rn_run1 hm hd hl, he] at hn
      exact ⟨n, hn⟩
  · rintro ⟨n, hn⟩
    refine ⟨n + 1, ?_⟩
    rw [rn_run1 hm hd hl, he]
    exact hn
theorem rn_dead (hm : am_m y = q) (hd : decode q.2.1 pc = .ok (i, len)) (hl : am_len i = len ∨ am_len i = 0) (he : am_ex d y i pc ls st M = none) : rn_r d y pc ls st M = none := by
  apply rn_ext
  intro r
  rw [rn_iff]
  constructor
  · rintro ⟨n, hn⟩
    cases n with
    | zero => cases hn
    | succ n =>
      rw [rn_run1 hm hd hl, he] at hn
      cases hn
  · intro h; cases h
theorem rn_nextIf {p : Prop} {dp : Decidable p} (hm : am_m y = q) (hd : decode q.2.1 pc = .ok (i, len)) (hl : am_len i = len ∨ am_len i = 0) (he : am_ex d y i pc ls st M = @ite _ p dp (am_nx pc' ls' st' M') none) : rn_r d y pc ls st M = if p then rn_r d y pc' ls' st' M' else none := by
  by_cases h : p
  · rw [if_pos h] at he ⊢
    exact rn_next hm hd hl he
  · rw [if_neg h] at he ⊢
    exact rn_dead hm hd hl he
theorem rn_nextT {t : Nat} {M0 : am_Mem} {a : Nat} (hm : am_m y = q) (hd : decode q.2.1 pc = .ok (i, len)) (hl : am_len i = len ∨ am_len i = 0) (he : am_ex d y i pc ls st M = if [t].contains (M0.1 a).1 then am_nx pc' ls' st' M' else none) : rn_r d y pc ls st M = if (M0.1 a).1 = t then rn_r d y pc' ls' st' M' else none := by
  rw [rn_nextIf hm hd hl he]
  by_cases h : (M0.1 a).1 = t <;> simp [h]
theorem rn_nextB {p : Prop} {dp : Decidable p} {pc2 : Nat} (hm : am_m y = q) (hd : decode q.2.1 pc = .ok (i, len)) (hl : am_len i = len ∨ am_len i = 0) (h1 : p → am_ex d y i pc ls st M = am_nx pc' ls' st' M') (h2 : ¬ p → am_ex d y i pc ls st M = am_nx pc2 ls' st' M') : rn_r d y pc ls st M = if p then rn_r d y pc' ls' st' M' else rn_r d y pc2 ls' st' M' := by
  by_cases h : p
  · rw [if_pos h]
    exact rn_next hm hd hl (h1 h)
  · rw [if_neg h]
    exact rn_next hm hd hl (h2 h)
theorem rn_stop {r : Option Value × am_Mem} (hm : am_m y = q) (hd : decode q.2.1 pc = .ok (i, len)) (hl : am_len i = len ∨ am_len i = 0) (he : am_ex d y i pc ls st M = some (.inr (.inl r))) : rn_r d y pc ls st M = some r :=
  rn_iff.mpr ⟨1, by rw [rn_run1 (n := 0) hm hd hl, he]⟩
theorem rn_stopIf {p : Prop} {dp : Decidable p} {r : Option Value × am_Mem} (hm : am_m y = q) (hd : decode q.2.1 pc = .ok (i, len)) (hl : am_len i = len ∨ am_len i = 0) (he : am_ex d y i pc ls st M = @ite _ p dp (some (.inr (.inl r))) none) : rn_r d y pc ls st M = if p then some r else none := by
  by_cases h : p
  · rw [if_pos h] at he ⊢
    exact rn_stop hm hd hl he
  · rw [if_neg h] at he ⊢
    exact rn_dead hm hd hl he
theorem rn_call {c : Nat} {as rest : List Value} (hm : am_m y = q) (hd : decode q.2.1 pc = .ok (i, len)) (hl : am_len i = len ∨ am_len i = 0) (he : am_ex (d + 1) y i pc ls st M = some (.inr (.inr (c, as, rest)))) : rn_r (d + 1) y pc ls st M = (rn_c d c as M).bind (fun r => rn_r (d + 1) y (pc + 3) ls (r.1.toList ++ rest) r.2) := by
  apply rn_ext
  intro r
  rw [rn_iff]
  constructor
  · rintro ⟨n, hn⟩
    cases n with
    | zero => cases hn
    | succ n =>
      rw [rn_run1 hm hd hl, he] at hn
      dsimp only at hn
      split at hn
      · cases hn
      · rename_i v M' h1
        have : rn_c d c as M = some (v, M') := rn_iff.mpr ⟨n, h1⟩
        rw [this]
        exact rn_iff.mpr ⟨n, hn⟩
  · intro h
    obtain ⟨⟨v, M'⟩, h1, h2⟩ := Option.bind_eq_some_iff.mp h
    obtain ⟨n, hn⟩ := rn_iff.mp h1
    obtain ⟨m, hm2⟩ := rn_iff.mp h2
    refine ⟨n + m + 1, ?_⟩
    rw [rn_run1 hm hd hl, he]
    dsimp only
    rw [rn_more _ _ _ _ _ _ _ _ hn m]
    dsimp only
    rw [Nat.add_comm n m]
    exact rn_more _ _ _ _ _ _ _ _ hm2 n
theorem rn_callIf {p : Prop} {dp : Decidable p} {c : Nat} {as rest : List Value} (hm : am_m y = q) (hd : decode q.2.1 pc = .ok (i, len)) (hl : am_len i = len ∨ am_len i = 0) (he : am_ex (d + 1) y i pc ls st M = @ite _ p dp (some (.inr (.inr (c, as, rest)))) none) : rn_r (d + 1) y pc ls st M = if p then (rn_c d c as M).bind (fun r => rn_r (d + 1) y (pc + 3) ls (r.1.toList ++ rest) r.2) else none := by
  by_cases h : p
  · rw [if_pos h] at he ⊢
    exact rn_call hm hd hl he
  · rw [if_neg h] at he ⊢
    exact rn_dead hm hd hl he
/-- what a call that is made comes to -/
theorem am_call_ok {c : Nat} {as rest : List Value} (h1 : (am_al as).length ≤ am_mx c) (h2 : am_sum rest ≤ 8) : am_call c as rest = some (.inr (.inr (c, as, rest))) := by
  unfold am_call
  rw [if_pos ⟨h1, h2⟩]
/-- virtual calls: one kind of receiver -/
theorem rn_iv1 {c x n t a o : Nat} {as0 rest : List Value} {rows : List (Nat × Nat × Nat × List Nat)} {k2 : Nat} {js : List Nat} (hm : am_m y = q) (hd : decode q.2.1 pc = .ok (.invokevirtual x, 3)) (hk : am_lk am_ivL q.2.2.2.2.1 x = some (n, rows)) (hst : st.drop n = .ref a :: rest) (has : (st.take n).reverse = as0) (hr : rows = [(t, c, k2, js)]) (h1 : (am_al (.ref a :: as0)).length ≤ am_mx c) (h2 : am_sum rest ≤ 8) :
    rn_r (d + 1) y pc ls st M = if (M.1 a).1 = t then (rn_c d c (.ref a :: as0) M).bind (fun r => rn_r (d + 1) y (pc + 3) ls (r.1.toList ++ rest) r.2) else none := by
  have hk' : am_lk am_ivL (am_ow y) x = some (n, rows) := by unfold am_ow; rw [hm]; exact hk
  subst hr
  refine rn_callIf (p := (M.1 a).1 = t) (dp := inferInstance) hm hd (Or.inl rfl) ?_
  show am_iv (am_ow y) x st M = _
  unfold am_iv
  rw [hk']
  dsimp only
  rw [hst]
  dsimp only
  by_cases h : (M.1 a).1 = t
  · rw [if_pos h]
    simp only [List.find?_cons, h, beq_self_eq_true]
    rw [has]
    exact am_call_ok h1 h2
  · rw [if_neg h]
    have : (t == (M.1 a).1) = false := by simpa using fun e => h e.symm
    simp [List.find?_cons, this]
/-- virtual calls: any kind of receiver, told by its row -/
theorem rn_ivk {x n a t c k2 : Nat} {js : List Nat} {as0 rest : List Value} {rows : List (Nat × Nat × Nat × List Nat)} (hm : am_m y = q) (hd : decode q.2.1 pc = .ok (.invokevirtual x, 3)) (hk : am_lk am_ivL q.2.2.2.2.1 x = some (n, rows)) (hst : st.drop n = .ref a :: rest) (has : (st.take n).reverse = as0) (ht : (M.1 a).1 = t) (hr : rows.find? (fun z => z.1 == t) = some (t, c, k2, js)) (h1 : (am_al (.ref a :: as0)).length ≤ am_mx c) (h2 : am_sum rest ≤ 8) :
    rn_r (d + 1) y pc ls st M = (rn_c d c (.ref a :: as0) M).bind (fun r => rn_r (d + 1) y (pc + 3) ls (r.1.toList ++ rest) r.2) := by
  have hk' : am_lk am_ivL (am_ow y) x = some (n, rows) := by unfold am_ow; rw [hm]; exact hk
  refine rn_call hm hd (Or.inl rfl) ?_
  show am_iv (am_ow y) x st M = _
  unfold am_iv
  rw [hk']
  dsimp only
  rw [hst]
  dsimp only
  rw [ht, hr]
  dsimp only
  rw [has]
  exact am_call_ok h1 h2
theorem rn_is {x n c : Nat} {js : List Nat} {as0 rest : List Value} (hm : am_m y = q) (hd : decode q.2.1 pc = .ok (.invokestatic x, 3)) (hk0 : am_lk am_acL q.2.2.2.2.1 x = none) (hk : am_lk am_isL q.2.2.2.2.1 x = some (n, c, js)) (hn : n ≤ st.length) (hst : st.drop n = rest) (has : (st.take n).reverse = as0) (h1 : (am_al as0).length ≤ am_mx c) (h2 : am_sum rest ≤ 8) :
    rn_r (d + 1) y pc ls st M = (rn_c d c as0 M).bind (fun r => rn_r (d + 1) y (pc + 3) ls (r.1.toList ++ rest) r.2) := by
  have hk' : am_lk am_isL (am_ow y) x = some (n, c, js) := by unfold am_ow; rw [hm]; exact hk
  have hk0' : am_lk am_acL (am_ow y) x = none := by unfold am_ow; rw [hm]; exact hk0
  refine rn_call hm hd (Or.inl rfl) ?_
  simp only [am_ex, hk0', am_is, hk', if_pos hn, hst, has]
  exact am_call_ok h1 h2
theorem rn_ip {x n c kd a : Nat} {tags js : List Nat} {as0 rest : List Value} (hm : am_m y = q) (hd : decode q.2.1 pc = .ok (.invokespecial x, 3)) (hk0 : am_lk am_oiL q.2.2.2.2.1 x = none) (hk : am_lk am_ipL q.2.2.2.2.1 x = some (n, c, kd, tags, js)) (hst : st.drop n = .ref a :: rest) (has : (st.take n).reverse = as0) (h1 : (am_al (.ref a :: as0)).length ≤ am_mx c) (h2 : am_sum rest ≤ 8) :
    rn_r (d + 1) y pc ls st M = if tags.contains (M.1 a).1 = true then (rn_c d c (.ref a :: as0) M).bind (fun r => rn_r (d + 1) y (pc + 3) ls (r.1.toList ++ rest) r.2) else none := by
  have hk' : am_lk am_ipL (am_ow y) x = some (n, c, kd, tags, js) := by unfold am_ow; rw [hm]; exact hk
  have hk0' : am_lk am_oiL (am_ow y) x = none := by unfold am_ow; rw [hm]; exact hk0
  refine rn_callIf (p := tags.contains (M.1 a).1 = true) (dp := inferInstance) hm hd (Or.inl rfl) ?_
  simp only [am_ex, am_ip, hk0', hk', hst, has]
  by_cases h : tags.contains (M.1 a).1 = true
  · rw [if_pos h, if_pos h]
    exact am_call_ok h1 h2
  · rw [if_neg h, if_neg h]
theorem rn_oi {x a jj : Nat} {rest : List Value} (hm : am_m y = q) (hd : decode q.2.1 pc = .ok (.invokespecial x, 3)) (hk : am_lk am_oiL q.2.2.2.2.1 x = some jj) (h2 : am_sum rest ≤ 8) :
    rn_r (d + 1) y pc ls (.ref a :: rest) M = if 1 ≤ (M.1 a).1 ∧ (M.1 a).1 < 30 then rn_r (d + 1) y (pc + 3) ls rest M else none := by
  have hk' : am_lk am_oiL (am_ow y) x = some jj := by unfold am_ow; rw [hm]; exact hk
  refine rn_nextIf (p := 1 ≤ (M.1 a).1 ∧ (M.1 a).1 < 30) (dp := inferInstance) hm hd (Or.inl rfl) ?_
  simp only [am_ex, am_ip, hk']
  by_cases h : 1 ≤ (M.1 a).1 ∧ (M.1 a).1 < 30
  · rw [if_pos h, if_pos ⟨Nat.succ_pos d, h2, h⟩]
  · rw [if_neg h, if_neg (fun z => h z.2.2)]
def rn_fv (code : Nat) (i : Int32) (l : Int64) (r : Option Nat) : Value := match code with
  | 2 => .long l
  | 3 => am_v r
  | _ => .int i
theorem rn_get {x k code fin j t a : Nat} (hm : am_m y = q) (hd : decode q.2.1 pc = .ok (.getfield x, 3)) (hk : am_lk am_fldL q.2.2.2.2.1 x = some (k, code, fin, [t], j)) :
    rn_r d y pc ls (.ref a :: st) M = if (M.1 a).1 = t then rn_r d y (pc + 3) ls (rn_fv code (M.2.1 a k) (M.2.2.1 a k) (M.2.2.2.1 a k) :: st) M else none := by
  have hk' : am_lk am_fldL (am_ow y) x = some (k, code, fin, [t], j) := by unfold am_ow; rw [hm]; exact hk
  refine rn_nextT (M0 := M) hm hd (Or.inl rfl) ?_
  simp only [am_ex, am_get, hk']
  rfl
theorem rn_getW {x k code fin j a : Nat} {tags : List Nat} (hm : am_m y = q) (hd : decode q.2.1 pc = .ok (.getfield x, 3)) (hk : am_lk am_fldL q.2.2.2.2.1 x = some (k, code, fin, tags, j)) :
    rn_r d y pc ls (.ref a :: st) M = if tags.contains (M.1 a).1 = true then rn_r d y (pc + 3) ls (rn_fv code (M.2.1 a k) (M.2.2.1 a k) (M.2.2.2.1 a k) :: st) M else none := by
  have hk' : am_lk am_fldL (am_ow y) x = some (k, code, fin, tags, j) := by unfold am_ow; rw [hm]; exact hk
  refine rn_nextIf (p := tags.contains (M.1 a).1 = true) (dp := inferInstance) hm hd (Or.inl rfl) ?_
  simp only [am_ex, am_get, hk']
  rfl
end RN
