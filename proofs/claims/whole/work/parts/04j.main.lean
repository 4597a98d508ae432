/-! THE SIMULATION, part nine: every run of AM is a run of the machine -/
theorem am_mono1 {d y : Nat} {i : Instr} {pc pc' : Nat} {ls ls' : am_Loc} {st st' : List Value} {M M' : am_Mem} (he : am_ex d y i pc ls st M = some (.inl (pc', ls', st', M'))) : M.2.2.2.2.1 ≤ M'.2.2.2.2.1 ∧ M.2.2.2.2.2 ≤ M'.2.2.2.2.2 := by
  have nx : ∀ {pc ls st} {N : am_Mem}, am_nx pc ls st N = some (.inl (pc', ls', st', M')) → M.2.2.2.2.1 ≤ N.2.2.2.2.1 → M.2.2.2.2.2 ≤ N.2.2.2.2.2 → M.2.2.2.2.1 ≤ M'.2.2.2.2.1 ∧ M.2.2.2.2.2 ≤ M'.2.2.2.2.2 := fun h h1 h2 => by
    obtain ⟨-, -, -, rfl⟩ := am_nx_inv h
    exact ⟨h1, h2⟩
  have br : ∀ {pc off ls st}, am_br pc off ls st M = some (.inl (pc', ls', st', M')) → M.2.2.2.2.1 ≤ M'.2.2.2.2.1 ∧ M.2.2.2.2.2 ≤ M'.2.2.2.2.2 := fun h => by
    obtain ⟨-, -, -, rfl⟩ := am_br_inv h
    exact ⟨Nat.le_refl _, Nat.le_refl _⟩
  have nocall : ∀ {z as rest}, am_call z as rest = some (.inl (pc', ls', st', M')) → False := fun h => by unfold am_call at h; split at h <;> cases h
  cases i <;> simp only [am_ex, am_li, am_ll, am_la, am_si, am_sl, am_sa, am_i2, am_l2, am_i1, am_get, am_put, am_sti, am_bst, am_ast, am_iv, am_is, am_acp, am_ip] at he <;> (repeat' split at he) <;> first | exact nx he (Nat.le_refl _) (Nat.le_refl _) | exact nx he (Nat.le_succ _) (Nat.le_add_right _ _) | exact br he | exact (nocall he).elim | (cases he; done)
theorem am_ret_mem {d y : Nat} {i : Instr} {pc : Nat} {ls : am_Loc} {st : List Value} {M M' : am_Mem} {v : Option Value} (he : am_ex d y i pc ls st M = some (.inr (.inl (v, M')))) : M' = M := by
  have notnx : ∀ {pc ls st} {N : am_Mem} {r : Option Value × am_Mem}, am_nx pc ls st N = some (.inr (.inl r)) → False := fun h => by cases h
  have notbr : ∀ {pc off ls st} {N : am_Mem} {r : Option Value × am_Mem}, am_br pc off ls st N = some (.inr (.inl r)) → False := fun h => by unfold am_br at h; split at h <;> cases h
  have notcall : ∀ {z as rest} {r : Option Value × am_Mem}, am_call z as rest = some (.inr (.inl r)) → False := fun h => by unfold am_call at h; split at h <;> cases h
  cases i <;> simp only [am_ex, am_li, am_ll, am_la, am_si, am_sl, am_sa, am_i2, am_l2, am_i1, am_get, am_put, am_sti, am_bst, am_ast, am_iv, am_is, am_acp, am_ip] at he <;> (repeat' split at he) <;> first | exact (notnx he).elim | exact (notbr he).elim | exact (notcall he).elim | (cases he; rfl) | (cases he; done)
theorem am_mono : ∀ (n d y pc : Nat) (ls : am_Loc) (st : List Value) (M : am_Mem) (r : Option Value × am_Mem), am_run n d y pc ls st M = some r → M.2.2.2.2.1 ≤ r.2.2.2.2.2.1 ∧ M.2.2.2.2.2 ≤ r.2.2.2.2.2.2 := by
  intro n
  induction n with
  | zero => intro d y pc ls st M r h; cases h
  | succ n ih =>
    intro d y pc ls st M r h
    unfold am_run at h
    split at h
    · cases h
    · split at h
      · split at h
        · cases h
        · rename_i he
          have h1 := am_mono1 he
          have h2 := ih _ _ _ _ _ _ _ h
          omega
        · rename_i r' he
          cases h
          obtain ⟨v, M'⟩ := r
          rw [am_ret_mem he]
          exact ⟨Nat.le_refl _, Nat.le_refl _⟩
        · split at h
          · cases h
          · split at h
            · cases h
            · rename_i h1
              have g1 := ih _ _ _ _ _ _ _ h1
              have g2 := ih _ _ _ _ _ _ _ h
              dsimp only at g1
              omega
      · cases h
theorem am_call_inv {d y : Nat} {i : Instr} {pc : Nat} {ls : am_Loc} {st : List Value} {M : am_Mem} {cy : Nat} {as rest : List Value} (he : am_ex d y i pc ls st M = some (.inr (.inr (cy, as, rest)))) :
    ((am_al as).length ≤ am_mx cy ∧ am_sum rest ≤ 8) ∧ ((∃ x n js, i = .invokestatic x ∧ am_lk am_isL (am_ow y) x = some (n, cy, js) ∧ n ≤ st.length ∧ as = (st.take n).reverse ∧ rest = st.drop n) ∨
      (∃ x n rows q a, i = .invokevirtual x ∧ am_lk am_ivL (am_ow y) x = some (n, rows) ∧ rows.find? (fun q => q.1 == (M.1 a).1) = some q ∧ q.2.1 = cy ∧ st.drop n = .ref a :: rest ∧ as = .ref a :: (st.take n).reverse) ∨
      (∃ x n kd tags js a, i = .invokespecial x ∧ am_lk am_ipL (am_ow y) x = some (n, cy, kd, tags, js) ∧ tags.contains (M.1 a).1 = true ∧ st.drop n = .ref a :: rest ∧ as = .ref a :: (st.take n).reverse)) := by
  have notnx : ∀ {pc ls st} {N : am_Mem} {r : Nat × List Value × List Value}, am_nx pc ls st N = some (.inr (.inr r)) → False := fun h => by cases h
  have notbr : ∀ {pc off ls st} {N : am_Mem} {r : Nat × List Value × List Value}, am_br pc off ls st N = some (.inr (.inr r)) → False := fun h => by unfold am_br at h; split at h <;> cases h
  have cinv : ∀ {z as' rest'}, am_call z as' rest' = some (.inr (.inr (cy, as, rest))) → z = cy ∧ as' = as ∧ rest' = rest ∧ ((am_al as').length ≤ am_mx z ∧ am_sum rest' ≤ 8) := fun h => by
    unfold am_call at h
    split at h
    · rename_i hc
      cases h
      exact ⟨rfl, rfl, rfl, hc⟩
    · cases h
  cases i
  case invokestatic x =>
    simp only [am_ex] at he
    split at he
    · split at he
      · unfold am_acp at he
        split at he
        · split at he
          · exact (notnx he).elim
          · cases he
        · cases he
      · cases he
    · simp only [am_is] at he
      split at he
      · rename_i n z js hlk
        split at he
        · rename_i hn
          obtain ⟨rfl, rfl, rfl, hc⟩ := cinv he
          exact ⟨hc, Or.inl ⟨x, n, js, rfl, hlk, hn, rfl, rfl⟩⟩
        · cases he
      · cases he
  case invokevirtual x =>
    simp only [am_ex, am_iv] at he
    split at he
    · rename_i n rows hlk
      split at he
      · rename_i a r hst
        split at he
        · rename_i q hq
          obtain ⟨e1, rfl, rfl, hc⟩ := cinv he
          rw [e1] at hc
          exact ⟨hc, Or.inr (Or.inl ⟨x, n, rows, q, a, rfl, hlk, hq, e1, hst, rfl⟩)⟩
        · cases he
      · cases he
    · cases he
  case invokespecial x =>
    simp only [am_ex, am_ip] at he
    split at he
    · split at he
      · split at he
        · exact (notnx he).elim
        · cases he
      · cases he
    · split at he
      · rename_i n z kd tags js hlk
        split at he
        · rename_i a r hst
          split at he
          · rename_i hc0
            obtain ⟨rfl, rfl, rfl, hc⟩ := cinv he
            exact ⟨hc, Or.inr (Or.inr ⟨x, n, kd, tags, js, a, rfl, hlk, hc0, hst, rfl⟩)⟩
          · cases he
        · cases he
      · cases he
  all_goals
    exfalso
    simp only [am_ex, am_li, am_ll, am_la, am_si, am_sl, am_sa, am_i2, am_l2, am_i1, am_get, am_put, am_sti, am_bst, am_ast] at he
    repeat' split at he
    all_goals first | exact notnx he | exact notbr he | (cases he; done)
theorem am_al_len {base : Nat} {fr : Nat → Value} (hf : am_Foreign fr) (as : List Value) : (lg_sl (as.map (am_vm base fr))).length = (am_al as).length := by
  induction as with
  | nil => rfl
  | cons v vs ih =>
    unfold lg_sl at ih ⊢
    rw [List.map_cons, List.flatMap_cons, List.length_append, ih, am_vm_cat hf.1]
    show _ = (if v.category = 2 then some v :: none :: am_al vs else some v :: am_al vs).length
    split <;> simp <;> omega
theorem am_al_in {base : Nat} {fr : Nat → Value} (hf : am_Foreign fr) : ∀ (as : List Value) (k i : Nat) (v : Value), (am_al as)[i]? = some (some v) → (k + i, am_vm base fr v) ∈ lv_args k (as.map (am_vm base fr)) := by
  intro as
  induction as with
  | nil => intro k i v h; simp [am_al] at h
  | cons w ws ih =>
    intro k i v h
    show (k + i, am_vm base fr v) ∈ (k, am_vm base fr w) :: lv_args (if (am_vm base fr w).category = 2 then k + 2 else k + 1) (ws.map (am_vm base fr))
    rw [am_vm_cat hf.1]
    have h : (if w.category = 2 then some w :: none :: am_al ws else some w :: am_al ws)[i]? = some (some v) := h
    by_cases hc : w.category = 2
    · rw [if_pos hc] at h ⊢
      match i, h with
      | 0, h => cases h; exact List.mem_cons_self
      | 1, h => cases h
      | i + 2, h =>
        have := ih (k + 2) i v h
        rw [show k + (i + 2) = k + 2 + i by omega]
        exact List.mem_cons_of_mem _ this
    · rw [if_neg hc] at h ⊢
      match i, h with
      | 0, h => cases h; exact List.mem_cons_self
      | i + 1, h =>
        have := ih (k + 1) i v h
        rw [show k + (i + 1) = k + 1 + i by omega]
        exact List.mem_cons_of_mem _ this
theorem am_entry_lv {base : Nat} {fr : Nat → Value} (hf : am_Foreign fr) {y : Nat} {as : List Value} (h : (am_al as).length ≤ am_mx y) : am_lv base fr ((lg_sl (as.map (am_vm base fr)) ++ List.replicate (am_mx y - (lg_sl (as.map (am_vm base fr))).length) Slot.unset).toArray) (am_mx y) (am_entry y as) := by
  have hl := lv_entry (as.map (am_vm base fr)) (n := am_mx y) (by rw [am_al_len hf]; exact h)
  refine ⟨hl.1, hl.2.1, fun i v hv => ?_⟩
  refine hl.2.2 (i, am_vm base fr v) ?_
  have h1 : (am_al as)[i]? = some (some v) := by
    unfold am_ld am_entry at hv
    rcases Nat.lt_or_ge i (am_al as).length with q | q
    · rw [List.getElem?_append_left q] at hv
      cases hz : (am_al as)[i]? with
      | none => rw [hz] at hv; cases hv
      | some z => rw [hz] at hv; exact congrArg some hv
    · rw [List.getElem?_append_right q] at hv
      cases hz : (List.replicate (am_mx y - (am_al as).length) (none : Option Value))[i - (am_al as).length]? with
      | none => rw [hz] at hv; cases hv
      | some z =>
        rw [hz] at hv
        have := List.mem_of_getElem? hz
        rw [(List.mem_replicate.mp this).2] at hv
        cases hv
  have := am_al_in (base := base) hf as 0 i v h1
  rw [Nat.zero_add] at this
  exact this
/-- the statement, for runs of n instructions at most -/
def am_Ok (n : Nat) : Prop := ∀ (d y pc : Nat) (ls : am_Loc) (st : List Value) (M : am_Mem) (r : Option Value × am_Mem), am_run n d y pc ls st M = some r →
  ∀ (p : Program) (l : Launch) (e : Env) (R : Room) (s : State) (m : MethodId) (args : Array Value) (below : List Frame) (meth : Method) (c : Code) (base : Nat) (fr : Nat → Value) (cT : Nat → ClassId) (D : va_G) (L : Nat) (xs : Nat → Int32) (Q : State → Prop) (n0 s0 : Nat),
    am_Fx p s m args meth c y → am_Ctx base fr cT D L xs s → am_Foreign fr → (n0 ≤ M.2.2.2.2.1 ∧ s0 ≤ M.2.2.2.2.2) → (r.2.2.2.2.2.1 - n0 ≤ R.cells ∧ r.2.2.2.2.2.2 - s0 ≤ R.slots) → (d ≤ R.frames ∧ 41 * d ≤ R.locals) →
    (∀ (i : Instr) (len pc : Nat) (ls : am_Loc) (st : List Value) (M0 : am_Mem), decode (am_bc y) pc = .ok (i, len) → (am_len i = len ∨ am_len i = 0) → am_ex d y i pc ls st M0 = some (.inr (.inl r)) → am_J p l e R s m args below meth c base fr cT D L xs Q n0 s0 y pc ls st M0) →
    am_J p l e R s m args below meth c base fr cT D L xs Q n0 s0 y pc ls st M
theorem am_met {n : Nat} (IH : am_Ok n) (l : Launch) {d cy : Nat} {as : List Value} {M M1 : am_Mem} {v : Option Value} (h1 : cy < am_N) (h2 : cy ≠ am_law) (hal : (am_al as).length ≤ am_mx cy) (hrun : am_run n d cy 0 (am_entry cy as) [] M = some (v, M1)) (base : Nat) (fr : Nat → Value) (cT : Nat → ClassId) (D : va_G) (L : Nat) (xs : Nat → Int32) (hf : am_Foreign fr) :
    Met l (am_nm cy) (am_ws cy) (am_rm d M M1) (am_Pc base fr cT D L xs M as) (am_Qc base fr cT D L xs M1 v) (M1.2.2.2.2.1 - M.2.2.2.2.1) (M1.2.2.2.2.2 - M.2.2.2.2.2) (am_A base) := by
  obtain ⟨hG, hmx, hpl, hmh, hon⟩ := am_goodIn h1 h2
  refine MetFree.of_bodySF (code := am_bc cy) (maxLocals := am_mx cy) (ret := am_rt cy) hpl ?_ ?_
  · intro args s m h hn
    obtain ⟨meth, c, h1, h2, h3, h4, h5, h6, -, -⟩ := Cond.code_spec hn (atoms_spec (ws := am_ws cy) h _ List.mem_cons_self)
    exact ⟨meth, c, h1, h2, h3, h4, h5, h6⟩
  · intro p e s m args below meth c s₁ B hml hP _
    have hh0 : s₁.heap = s.heap := by rw [B.state]; rfl
    obtain ⟨rfl, hC, hI⟩ := hP
    have hts := atoms_spec (ws := am_ws cy) B.pre
    have hF : am_Fx p s m (as.map (am_vm base fr)).toArray meth c cy := ⟨B.exec, B.bytes, hml, by rw [hon]; exact findClass_of_methodNamed B.named, fun w hw => hts w (List.mem_cons_of_mem _ hw), fun h => (name_of_methodNamed B.named B.method).1.trans h, B.returns, B.notSynchronized⟩
    have K := IH d cy 0 (am_entry cy as) [] M (v, M1) hrun p l e (headSpec (am_ws cy) (am_rm d M M1)).room s m (as.map (am_vm base fr)).toArray below meth c base fr cT D L xs (MQ below (am_Qc base fr cT D L xs M1 v) (as.map (am_vm base fr)).toArray s (M1.2.2.2.2.1 - M.2.2.2.2.1) (M1.2.2.2.2.2 - M.2.2.2.2.2) (am_A base)) M.2.2.2.2.1 M.2.2.2.2.2 hF hC hf ⟨Nat.le_refl _, Nat.le_refl _⟩ ⟨Nat.le_refl _, Nat.le_refl _⟩ ⟨Nat.le_refl _, Nat.le_refl _⟩ (fun i len pc ls st M0 hd hl he => am_ret_ok hF hf hd hl he)
    have K2 := K s.heap [] _ hI (am_entry_lv hf hal)
    rw [Nat.sub_self, Nat.sub_self] at K2
    rw [List.map_nil, ← lg_entry_eq m] at K2
    obtain ⟨t, a1, o, b1, b2, b3⟩ := K2 s₁ hh0 (Stand.of_body B)
    exact ⟨t, o, a1, b1, b2, ⟨b3.1, b3.2⟩⟩
theorem am_is_use {o x n cy : Nat} {js : List Nat} (h : am_lk am_isL o x = some (n, cy, js)) : cy < am_N ∧ cy ≠ am_law := by
  have hck := List.all_eq_true.mp am_is_ok _ (am_lk_mem h)
  unfold am_ischk at hck
  simp only [Bool.and_eq_true] at hck
  obtain ⟨y1, y2, -⟩ := am_np_use hck.1.1.1
  exact ⟨y1, y2⟩
theorem am_iv_use {o x n : Nat} {rows : List (Nat × Nat × Nat × List Nat)} {q : Nat × Nat × Nat × List Nat} (h : am_lk am_ivL o x = some (n, rows)) (hq : q ∈ rows) : q.2.1 < am_N ∧ q.2.1 ≠ am_law := by
  have hck := List.all_eq_true.mp (List.all_eq_true.mp am_iv_ok _ (am_lk_mem h)) _ hq
  unfold am_ivchk1 at hck
  simp only [Bool.and_eq_true] at hck
  obtain ⟨y1, y2, -⟩ := am_np_use hck.1.1
  exact ⟨y1, y2⟩
theorem am_ip_use {o x n cy kd : Nat} {tags js : List Nat} (h : am_lk am_ipL o x = some (n, cy, kd, tags, js)) : cy < am_N ∧ cy ≠ am_law := by
  have hck := List.all_eq_true.mp am_ip_ok _ (am_lk_mem h)
  unfold am_ipchk at hck
  rw [Bool.and_eq_true, Bool.and_eq_true] at hck
  obtain ⟨y1, y2, -⟩ := am_np_use hck.1.1
  exact ⟨y1, y2⟩
theorem am_main : ∀ n, am_Ok n := by
  intro n
  induction n with
  | zero => intro d y pc ls st M r h; cases h
  | succ n ih =>
    intro d y pc ls st M r h p l e R s m args below meth c base fr cT D L xs Q n0 s0 hF hC hf hn0 hroom hR hret
    unfold am_run at h
    split at h
    · cases h
    · rename_i i len hd
      split at h
      · rename_i hlen
        split at h
        · cases h
        · rename_i pc' ls' st' M' he
          have hm1 := am_mono1 he
          have hm2 := am_mono _ _ _ _ _ _ _ _ h
          exact am_step hF hC hf hd hlen he hn0 (by omega) hR (ih d y pc' ls' st' M' r h p l e R s m args below meth c base fr cT D L xs Q n0 s0 hF hC hf (by omega) hroom hR hret)
        · rename_i r' he
          cases h
          exact hret i len pc ls st M hd hlen he
        · rename_i cy as rest he
          split at h
          · cases h
          · rename_i d'
            split at h
            · cases h
            · rename_i v M1 h1
              have hm1 := am_mono _ _ _ _ _ _ _ _ h1
              have hm2 := am_mono _ _ _ _ _ _ _ _ h
              dsimp only at hm1 hm2
              have hrm : M.2.2.2.2.1 - n0 + (M1.2.2.2.2.1 - M.2.2.2.2.1) ≤ R.cells ∧ M.2.2.2.2.2 - s0 + (M1.2.2.2.2.2 - M.2.2.2.2.2) ≤ R.slots := by omega
              have kk := ih (d' + 1) y (pc + 3) ls (v.toList ++ rest) M1 r h p l e R s m args below meth c base fr cT D L xs Q n0 s0 hF hC hf (by omega) hroom hR hret
              have fin : ∀ (st0 rs : List Value) (H : Heap) (locs : List Loc) (lsr : Array Slot), am_Inv base cT D L xs s M H locs → am_lv base fr lsr (am_mx y) ls → rs = rest.map (am_vm base fr) →
                  (∃ z, va_Run p l e R s m args below meth c H locs (M.2.2.2.2.1 - n0) (M.2.2.2.2.2 - s0) (M1.2.2.2.2.1 - M.2.2.2.2.1) (M1.2.2.2.2.2 - M.2.2.2.2.2) (F0 m pc lsr st0) rs (am_Qc base fr cT D L xs M1 v z) (am_A base)) →
                  W p l e R s m args below meth c H locs (M.2.2.2.2.1 - n0) (M.2.2.2.2.2 - s0) Q (F0 m pc lsr st0) := by
                intro st0 rs H locs lsr hI hlv hrs ⟨z, hz⟩
                refine am_callEnd hI hz (fun H1 locs1 hI1 => ?_)
                have k2 := kk H1 locs1 lsr hI1 hlv
                have e1 : M1.2.2.2.2.1 - n0 = M.2.2.2.2.1 - n0 + (M1.2.2.2.2.1 - M.2.2.2.2.1) := by omega
                have e2 : M1.2.2.2.2.2 - s0 = M.2.2.2.2.2 - s0 + (M1.2.2.2.2.2 - M.2.2.2.2.2) := by omega
                rw [e1, e2] at k2
                rw [hrs]
                have e3 : (v.toList ++ rest).map (am_vm base fr) = (v.map (am_vm base fr)).toList ++ rest.map (am_vm base fr) := by
                  rw [List.map_append]
                  cases v <;> rfl
                rw [e3] at k2
                exact k2
              obtain ⟨⟨hal, hsum⟩, hcase⟩ := am_call_inv he
              intro H locs lsr hI hlv
              rcases hcase with ⟨x, k, js, rfl, hlk, hk, rfl, rfl⟩ | ⟨x, k, rows, q, a, rfl, hlk, hq, rfl, hst, rfl⟩ | ⟨x, k, kd, tags, js, a, rfl, hlk, htg, hst, rfl⟩
              · have hl : len = 3 := by rcases hlen with g | g <;> simp [am_len] at g; exact g.symm
                subst hl
                obtain ⟨y1, y2⟩ := am_is_use hlk
                exact fin _ _ H locs lsr hI hlv rfl (am_runS hF hC hf hlk hk hsum hR hd hlv.1 (am_met ih l y1 y2 hal h1 base fr cT D L xs hf) hI hrm)
              · have hl : len = 3 := by rcases hlen with g | g <;> simp [am_len] at g; exact g.symm
                subst hl
                obtain ⟨y1, y2⟩ := am_iv_use hlk (List.mem_of_find?_eq_some hq)
                exact fin _ _ H locs lsr hI hlv rfl (am_runV hF hC hf hlk hq hst hsum hR hd hlv.1 (am_met ih l y1 y2 hal h1 base fr cT D L xs hf) hI hrm)
              · have hl : len = 3 := by rcases hlen with g | g <;> simp [am_len] at g; exact g.symm
                subst hl
                obtain ⟨y1, y2⟩ := am_ip_use hlk
                exact fin _ _ H locs lsr hI hlv rfl (am_runP hF hC hf hlk htg hst hsum hR hd hlv.1 (am_met ih l y1 y2 hal h1 base fr cT D L xs hf) hI hrm)
      · cases h
