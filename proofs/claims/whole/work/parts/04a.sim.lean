/-! THE SIMULATION, part one: what an AM state says of the machine's; locals, stack, plain instructions -/
def am_vm (base : Nat) (fr : Nat → Value) (v : Value) : Value := match v with
  | .ref a => if a < 100 then fr a else .ref (base + (a - 100))
  | v => v
abbrev am_ro (base a : Nat) : Nat := base + (a - 100)
/-- the fields' kinds: 0 int, 1 boolean, 2 long, 3 reference -/
def am_code (ty : FieldType) : Nat := match ty with
  | .int => 0
  | .boolean => 1
  | .long => 2
  | .object _ => 3
  | .array _ => 3
  | _ => 9
def am_fty (t : Nat) : Nat → FieldType := match t with
  | 1 => tyX0 | 2 => tyX1 | 3 => tyX2 | 4 => tyX3 | 5 => tyX4 | 6 => tyX5 | 7 => tyX6 | 8 => tyX7 | 9 => tyX8 | 10 => tyX9 | 11 => tyX10 | 12 => tyX11 | _ => tyX12
abbrev am_cl (t : Nat) : vw_C := vwCl.getD (t - 1) (RX0, TX0, 0)
def am_fe (base code : Nat) (i : Int32) (l : Int64) (r : Option Nat) : Value := match code with
  | 2 => .long l
  | 3 => va_rf (r.map (am_ro base))
  | _ => .int i
def am_ent (base : Nat) (M : am_Mem) (t a k : Nat) : Value := am_fe base (am_code (am_fty t k)) (M.2.1 a k) (M.2.2.1 a k) (M.2.2.2.1 a k)
def am_fs (base : Nat) (M : am_Mem) (t a : Nat) : List Value := (List.range (am_cl t).2.2).map (am_ent base M t a)
def am_cv (base : Nat) (cT : Nat → ClassId) (M : am_Mem) (a : Nat) : va_E :=
  if (M.1 a).1 < 20 then .inr ((M.1 a).1 - 1, am_fs base M (M.1 a).1 a)
  else if (M.1 a).1 = 21 then .inl (cT (M.1 a).1, (M.1 a).2, .inr (.inl (M.2.2.1 a)))
  else if (M.1 a).1 = 24 ∨ (M.1 a).1 = 25 then .inl (cT (M.1 a).1, (M.1 a).2, .inr (.inr (.inr (.inr (fun k => (M.2.2.2.1 a k).map (am_ro base))))))
  else .inl (cT (M.1 a).1, (M.1 a).2, .inl (M.2.1 a))
def am_tys (cT : Nat → ClassId) : List (ClassId × FieldType) := [(cT 20, .int), (cT 21, .long), (cT 22, .byte), (cT 23, .boolean), (cT 24, .object RX10), (cT 25, .object RX9)]
/-- foreign shapes and rows: the script, the strings and their bytes -/
def am_str (i : Nat) : String × Nat × String × Nat × List Int32 := am_strL.getD i ("", 0, "", 0, [])
def am_T0 (L : Nat) : Nat → Nat × Nat := fun a => if a = 0 then (30, L) else if 10 ≤ a ∧ a < 25 then (31, 0) else if 30 ≤ a ∧ a < 45 then (32, (am_str (a - 30)).2.2.2.2.length) else (0, 0)
def am_I0 (xs : Nat → Int32) : Nat → Nat → Int32 := fun a k => if a = 0 then xs k else if 30 ≤ a ∧ a < 45 then (am_str (a - 30)).2.2.2.2.getD k 0 else 0
abbrev am_A (base : Nat) : Nat → Prop := fun q => base ≤ q
def am_sh (t : Nat) : Prop := (1 ≤ t ∧ t ≤ 13) ∨ (20 ≤ t ∧ t ≤ 25)
/-- the memory M is what stands in the heap H, from base on -/
def am_Inv (base : Nat) (cT : Nat → ClassId) (D : va_G) (L : Nat) (xs : Nat → Int32) (s : State) (M : am_Mem) (H : Heap) (locs : List Loc) : Prop :=
  (100 ≤ M.2.2.2.2.1 ∧ H.size = base + (M.2.2.2.2.1 - 100)) ∧
  (∀ a, 100 ≤ a → a < M.2.2.2.2.1 → am_sh (M.1 a).1 ∧ va_at D vwCl (am_ro base a, am_cv base cT M a) H) ∧
  (∀ a, M.2.2.2.2.1 ≤ a → M.1 a = (0, 0) ∧ ∀ k, M.2.1 a k = 0 ∧ M.2.2.1 a k = 0 ∧ M.2.2.2.1 a k = none) ∧
  (∀ a k j, M.2.2.2.1 a k = some j → 100 ≤ j) ∧
  (∀ a, a < 100 → M.1 a = am_T0 L a ∧ ∀ k, M.2.1 a k = am_I0 xs a k) ∧
  va_S (am_A base) s.heap H locs
/-- a string constant: where it stands, what it holds -/
def am_Str (base : Nat) (fr : Nat → Value) (s : State) (i : Nat) : Prop := ∃ aK aV : Nat, fr (10 + i) = .ref aK ∧ fr (30 + i) = .ref aV ∧ vk_R (am_str i).1 (am_str i).2.1 (am_str i).2.2.1 aK s ∧
  va_O "java/lang/String" aK (am_A base) s s.heap ∧ va_OF "java/lang/String" "coder" "B" (.int 0) aK (am_A base) s s.heap ∧ va_OF "java/lang/String" "value" "[B" (.ref aV) aK (am_A base) s s.heap ∧
  va_T .byte aV (am_str i).2.2.2.2.length (fun j => .int ((am_str i).2.2.2.2.getD j 0)) (am_A base) s s.heap
/-- what holds at every method's entry -/
def am_Ctx (base : Nat) (fr : Nat → Value) (cT : Nat → ClassId) (D : va_G) (L : Nat) (xs : Nat → Int32) (s : State) : Prop :=
  va_K D vwCl (am_tys cT) s ∧ base ≤ s.heap.size ∧ (∃ b, fr 0 = .ref b ∧ b < base ∧ va_X b L xs s s.heap) ∧ (∀ i, i < 15 → am_Str base fr s i) ∧
  (va_Z "java/lang/String" "COMPACT_STRINGS" "Z" (.int 1) (am_A base) s s.heap) ∧ va_Z "jdk/internal/util/Preconditions" "SIOOBE_FORMATTER" "Ljava/util/function/BiFunction;" (fr 50) (am_A base) s s.heap ∧ (fr 50 = .null ∨ ∃ a, fr 50 = .ref a) ∧
  (∀ o x ys ns j, am_lk am_instL o x = some (ys, ns, j) → ∀ t ∈ ns, ∀ C, C = (am_cl t).1 → ∀ T, lw_tbl[j]? = some (.classLink (am_on o) x T) → va_Nc C T s) ∧
  (∀ C T, Cond.castable C T ∈ lw_tbl → va_Nw (.castable C T) s) ∧ (∀ C, Cond.arrayOver (.object C) ∈ lw_tbl → va_AO C s) ∧ (∀ o x z h, Cond.methodLinkNest o x z h ∈ lw_tbl → va_Nw (.methodLinkNest o x z h) s)
/-- the words that may be said at any entry; the others of them stand in am_Ctx -/
def am_tb : List Cond := lw_tbl.filter goodWord
theorem am_in {w : Cond} (h : w ∈ lw_tbl) (g : goodWord w = true := by rfl) : w ∈ am_tb := List.mem_filter.mpr ⟨h, g⟩
/-- what holds of the frame that runs method y -/
def am_Fx (p : Program) (s : State) (m : MethodId) (args : Array Value) (meth : Method) (c : Code) (y : Nat) : Prop :=
  p.tables.exec = Jvm.exec ∧ c.code = am_bc y ∧ c.maxLocals = am_mx y ∧ s.vm.findClass (am_on (am_ow y)) = some m.cls ∧ (∀ w ∈ am_tb, w.before args s = true) ∧ ((am_nm y).name = "<init>" → meth.name = "<init>") ∧ meth.sig.returnType = am_rt y ∧ meth.locks = false
def am_lv (base : Nat) (fr : Nat → Value) (lsr : Array Slot) (n : Nat) (ls : am_Loc) : Prop := lsr.size = n ∧ lv_wf lsr ∧ ∀ (i : Nat) (v : Value), am_ld ls i = some v → lsr[i]? = some (.val (am_vm base fr v))
theorem am_vm_cat {base : Nat} {fr : Nat → Value} (hf : ∀ a, a < 100 → fr a = .null ∨ ∃ q, fr a = .ref q) (v : Value) : (am_vm base fr v).category = v.category := by
  cases v with
  | ref a =>
    unfold am_vm
    by_cases h : a < 100
    · simp only [h, if_true]
      rcases hf a h with e | ⟨q, e⟩ <;> rw [e] <;> rfl
    · simp only [h, if_false]
      rfl
  | _ => rfl
def am_pairs (base : Nat) (fr : Nat → Value) (ls : am_Loc) : List (Nat × Value) := (List.range ls.length).filterMap (fun i => (am_ld ls i).map (fun v => (i, am_vm base fr v)))
theorem am_ld_lt {ls : am_Loc} {i : Nat} {v : Value} (h : am_ld ls i = some v) : i < ls.length := by
  unfold am_ld at h
  rcases Nat.lt_or_ge i ls.length with q | q
  · exact q
  · rw [List.getElem?_eq_none q] at h; cases h
theorem am_pairs_in {base : Nat} {fr : Nat → Value} {ls : am_Loc} {i : Nat} {v : Value} (h : am_ld ls i = some v) : (i, am_vm base fr v) ∈ am_pairs base fr ls :=
  List.mem_filterMap.mpr ⟨i, List.mem_range.mpr (am_ld_lt h), by rw [h]; rfl⟩
theorem am_lv.has {base : Nat} {fr : Nat → Value} {lsr : Array Slot} {n : Nat} {ls : am_Loc} (h : am_lv base fr lsr n ls) : lv_has lsr n (am_pairs base fr ls) := by
  refine ⟨h.1, h.2.1, fun q hq => ?_⟩
  obtain ⟨i, -, hi⟩ := List.mem_filterMap.mp hq
  cases hv : am_ld ls i with
  | none => rw [hv] at hi; cases hi
  | some v =>
    rw [hv] at hi
    cases hi
    exact h.2.2 i v hv
theorem am_ld_set {ls : am_Loc} {i j : Nat} {x : Option Value} {w : Value} (h : am_ld (ls.set i x) j = some w) : (j = i ∧ x = some w) ∨ (j ≠ i ∧ am_ld ls j = some w) := by
  by_cases hj : j = i
  · subst hj
    have hl := am_ld_lt h
    rw [List.length_set] at hl
    unfold am_ld at h
    rw [List.getElem?_set_self hl] at h
    exact Or.inl ⟨rfl, h⟩
  · unfold am_ld at h ⊢
    rw [List.getElem?_set_ne (Ne.symm hj)] at h
    exact Or.inr ⟨hj, h⟩
theorem am_ld_kill {ls : am_Loc} {i j : Nat} {w : Value} (h : am_ld (am_kill ls i) j = some w) : am_ld ls j = some w ∧ ¬ (j + 1 = i ∧ w.category = 2) := by
  cases i with
  | zero => exact ⟨h, fun z => by omega⟩
  | succ k =>
    unfold am_kill at h
    rcases am_ld_set h with ⟨e, e2⟩ | ⟨e, h2⟩
    · subst e
      cases hk : am_ld ls j with
      | none => rw [hk] at e2; cases e2
      | some v =>
        rw [hk] at e2
        unfold am_kl at e2
        dsimp only at e2
        split at e2
        · cases e2
        · rename_i hc
          cases e2
          exact ⟨rfl, fun z => hc z.2⟩
    · exact ⟨h2, fun z => e (by omega)⟩
theorem am_lv.s1 {base : Nat} {fr : Nat → Value} (hf : ∀ a, a < 100 → fr a = .null ∨ ∃ q, fr a = .ref q) {ls' : Array Slot} {n : Nat} {ls : am_Loc} {i : Nat} {v : Value} (h : lv_has ls' n ((i, am_vm base fr v) :: (am_pairs base fr ls).filter (fun q => !(q.1 == i) && !(q.1 + 1 == i && q.2.category == 2)))) : am_lv base fr ls' n (am_s1 ls i v) := by
  refine ⟨h.1, h.2.1, fun j w hj => ?_⟩
  rcases am_ld_set hj with ⟨e, e2⟩ | ⟨e, h2⟩
  · cases e2
    subst e
    exact h.2.2 (j, _) List.mem_cons_self
  · obtain ⟨h3, h4⟩ := am_ld_kill h2
    refine h.2.2 (j, am_vm base fr w) (List.mem_cons_of_mem _ (List.mem_filter.mpr ⟨am_pairs_in h3, ?_⟩))
    simp only [am_vm_cat hf]
    by_cases z : j + 1 = i
    · have z2 : ¬ w.category = 2 := fun q => h4 ⟨z, q⟩
      simp [e, z2]
    · simp [e, z]
theorem am_lv.s2 {base : Nat} {fr : Nat → Value} (hf : ∀ a, a < 100 → fr a = .null ∨ ∃ q, fr a = .ref q) {ls' : Array Slot} {n : Nat} {ls : am_Loc} {i : Nat} {v : Value} (h : lv_has ls' n ((i, am_vm base fr v) :: (am_pairs base fr ls).filter (fun q => !(q.1 == i) && (!(q.1 == i + 1) && !(q.1 + 1 == i && q.2.category == 2))))) : am_lv base fr ls' n (am_s2 ls i v) := by
  refine ⟨h.1, h.2.1, fun j w hj => ?_⟩
  rcases am_ld_set hj with ⟨_, e2⟩ | ⟨e0, h1⟩
  · cases e2
  · rcases am_ld_set h1 with ⟨e, e2⟩ | ⟨e, h2⟩
    · cases e2
      subst e
      exact h.2.2 (j, _) List.mem_cons_self
    · obtain ⟨h3, h4⟩ := am_ld_kill h2
      refine h.2.2 (j, am_vm base fr w) (List.mem_cons_of_mem _ (List.mem_filter.mpr ⟨am_pairs_in h3, ?_⟩))
      simp only [am_vm_cat hf]
      by_cases z : j + 1 = i
      · have z2 : ¬ w.category = 2 := fun q => h4 ⟨z, q⟩
        simp [e, e0, z2]
      · simp [e, e0, z]
/-- what am_ex's helpers are when they go on -/
theorem am_nx_inv {pc pc' : Nat} {ls ls' : am_Loc} {st st' : List Value} {M M' : am_Mem} (h : am_nx pc ls st M = some (.inl (pc', ls', st', M')))   : pc = pc' ∧ ls = ls' ∧ st = st' ∧ M = M' := by
  unfold am_nx at h; cases h; exact ⟨rfl, rfl, rfl, rfl⟩
theorem am_br_inv {pc pc' : Nat} {off : Int} {ls ls' : am_Loc} {st st' : List Value} {M M' : am_Mem} (h : am_br pc off ls st M = some (.inl (pc', ls', st', M'))) : (pc : Int) + off = (pc' : Int) ∧ ls = ls' ∧ st = st' ∧ M = M' := by
  unfold am_br at h
  by_cases q : 0 ≤ (pc : Int) + off
  · rw [if_pos q] at h
    obtain ⟨rfl, e⟩ := am_nx_inv h
    exact ⟨(Int.toNat_of_nonneg q).symm, e⟩
  · rw [if_neg q] at h; cases h
section SIM1
variable {p : Program} {l : Launch} {e : Env} {R : Room} {s : State} {m : MethodId} {args : Array Value} {below : List Frame} {meth : Method} {c : Code} {base : Nat} {fr : Nat → Value} {cT : Nat → ClassId} {D : va_G} {L : Nat} {xs : Nat → Int32} {Q : State → Prop} {n0 s0 y : Nat}
/-- from this AM state on the machine comes to Q -/
def am_J (p : Program) (l : Launch) (e : Env) (R : Room) (s : State) (m : MethodId) (args : Array Value) (below : List Frame) (meth : Method) (c : Code) (base : Nat) (fr : Nat → Value) (cT : Nat → ClassId) (D : va_G) (L : Nat) (xs : Nat → Int32) (Q : State → Prop) (n0 s0 y pc : Nat) (ls : am_Loc) (st : List Value) (M : am_Mem) : Prop :=
  ∀ (H : Heap) (locs : List Loc) (lsr : Array Slot), am_Inv base cT D L xs s M H locs → am_lv base fr lsr (am_mx y) ls → W p l e R s m args below meth c H locs (M.2.2.2.2.1 - n0) (M.2.2.2.2.2 - s0) Q (F0 m pc lsr (st.map (am_vm base fr)))
variable {pc pc' : Nat} {ls ls' : am_Loc} {st st' : List Value} {M M' : am_Mem}
theorem am_q_i2 {f : Int32 → Int32 → Int32} (he : am_i2 f pc ls st M = some (.inl (pc', ls', st', M'))) (k : am_J p l e R s m args below meth c base fr cT D L xs Q n0 s0 y pc' ls' st' M')
    (row : ∀ (x z : Int32) (H : Heap) (locs : List Loc) (lsr : Array Slot) (r : List Value), W p l e R s m args below meth c H locs (M.2.2.2.2.1 - n0) (M.2.2.2.2.2 - s0) Q (F0 m (pc + 1) lsr (.int (f x z) :: r)) → W p l e R s m args below meth c H locs (M.2.2.2.2.1 - n0) (M.2.2.2.2.2 - s0) Q (F0 m pc lsr (.int z :: .int x :: r))) :
    am_J p l e R s m args below meth c base fr cT D L xs Q n0 s0 y pc ls st M := by
  unfold am_i2 at he
  split at he
  · obtain ⟨rfl, rfl, rfl, rfl⟩ := am_nx_inv he
    intro H locs lsr hI hlv
    exact row _ _ _ _ _ _ (k H locs lsr hI hlv)
  · cases he
theorem am_q_l2 {f : Int64 → Int64 → Int64} (he : am_l2 f pc ls st M = some (.inl (pc', ls', st', M'))) (k : am_J p l e R s m args below meth c base fr cT D L xs Q n0 s0 y pc' ls' st' M')
    (row : ∀ (x z : Int64) (H : Heap) (locs : List Loc) (lsr : Array Slot) (r : List Value), W p l e R s m args below meth c H locs (M.2.2.2.2.1 - n0) (M.2.2.2.2.2 - s0) Q (F0 m (pc + 1) lsr (.long (f x z) :: r)) → W p l e R s m args below meth c H locs (M.2.2.2.2.1 - n0) (M.2.2.2.2.2 - s0) Q (F0 m pc lsr (.long z :: .long x :: r))) :
    am_J p l e R s m args below meth c base fr cT D L xs Q n0 s0 y pc ls st M := by
  unfold am_l2 at he
  split at he
  · obtain ⟨rfl, rfl, rfl, rfl⟩ := am_nx_inv he
    intro H locs lsr hI hlv
    exact row _ _ _ _ _ _ (k H locs lsr hI hlv)
  · cases he
theorem am_q_i1 {f : Int32 → Int32} (he : am_i1 f pc ls st M = some (.inl (pc', ls', st', M'))) (k : am_J p l e R s m args below meth c base fr cT D L xs Q n0 s0 y pc' ls' st' M')
    (row : ∀ (x : Int32) (H : Heap) (locs : List Loc) (lsr : Array Slot) (r : List Value), W p l e R s m args below meth c H locs (M.2.2.2.2.1 - n0) (M.2.2.2.2.2 - s0) Q (F0 m (pc + 1) lsr (.int (f x) :: r)) → W p l e R s m args below meth c H locs (M.2.2.2.2.1 - n0) (M.2.2.2.2.2 - s0) Q (F0 m pc lsr (.int x :: r))) :
    am_J p l e R s m args below meth c base fr cT D L xs Q n0 s0 y pc ls st M := by
  unfold am_i1 at he
  split at he
  · obtain ⟨rfl, rfl, rfl, rfl⟩ := am_nx_inv he
    intro H locs lsr hI hlv
    exact row _ _ _ _ _ (k H locs lsr hI hlv)
  · cases he
theorem am_q_li {k0 w : Nat} (he : am_li ls k0 (pc + w) st M = some (.inl (pc', ls', st', M'))) (k : am_J p l e R s m args below meth c base fr cT D L xs Q n0 s0 y pc' ls' st' M')
    (row : ∀ (x : Int32) (H : Heap) (locs : List Loc) (lsr : Array Slot) (r : List Value), lsr[k0]? = some (.val (.int x)) → W p l e R s m args below meth c H locs (M.2.2.2.2.1 - n0) (M.2.2.2.2.2 - s0) Q (F0 m (pc + w) lsr (.int x :: r)) → W p l e R s m args below meth c H locs (M.2.2.2.2.1 - n0) (M.2.2.2.2.2 - s0) Q (F0 m pc lsr r)) :
    am_J p l e R s m args below meth c base fr cT D L xs Q n0 s0 y pc ls st M := by
  unfold am_li at he
  split at he
  · rename_i x hx
    obtain ⟨rfl, rfl, rfl, rfl⟩ := am_nx_inv he
    intro H locs lsr hI hlv
    exact row x _ _ _ _ (hlv.2.2 _ _ hx) (k H locs lsr hI hlv)
  · cases he
theorem am_q_ll {k0 w : Nat} (he : am_ll ls k0 (pc + w) st M = some (.inl (pc', ls', st', M'))) (k : am_J p l e R s m args below meth c base fr cT D L xs Q n0 s0 y pc' ls' st' M')
    (row : ∀ (x : Int64) (H : Heap) (locs : List Loc) (lsr : Array Slot) (r : List Value), lsr[k0]? = some (.val (.long x)) → W p l e R s m args below meth c H locs (M.2.2.2.2.1 - n0) (M.2.2.2.2.2 - s0) Q (F0 m (pc + w) lsr (.long x :: r)) → W p l e R s m args below meth c H locs (M.2.2.2.2.1 - n0) (M.2.2.2.2.2 - s0) Q (F0 m pc lsr r)) :
    am_J p l e R s m args below meth c base fr cT D L xs Q n0 s0 y pc ls st M := by
  unfold am_ll at he
  split at he
  · rename_i x hx
    obtain ⟨rfl, rfl, rfl, rfl⟩ := am_nx_inv he
    intro H locs lsr hI hlv
    exact row x _ _ _ _ (hlv.2.2 _ _ hx) (k H locs lsr hI hlv)
  · cases he
theorem am_vm_isr (hf : ∀ a, a < 100 → fr a = .null ∨ ∃ q, fr a = .ref q) {v : Value} (h : am_isr v = true) : (∃ q, am_vm base fr v = .ref q) ∨ am_vm base fr v = .null := by
  cases v with
  | ref a =>
    unfold am_vm
    by_cases hl : a < 100
    · simp only [hl, if_true]
      rcases hf a hl with e | e
      · exact Or.inr e
      · exact Or.inl e
    · simp only [hl, if_false]
      exact Or.inl ⟨_, rfl⟩
  | null => exact Or.inr rfl
  | _ => cases h
theorem am_q_la (hf : ∀ a, a < 100 → fr a = .null ∨ ∃ q, fr a = .ref q) {k0 w : Nat} (he : am_la ls k0 (pc + w) st M = some (.inl (pc', ls', st', M'))) (k : am_J p l e R s m args below meth c base fr cT D L xs Q n0 s0 y pc' ls' st' M')
    (row : ∀ (x : Nat) (H : Heap) (locs : List Loc) (lsr : Array Slot) (r : List Value), lsr[k0]? = some (.val (.ref x)) → W p l e R s m args below meth c H locs (M.2.2.2.2.1 - n0) (M.2.2.2.2.2 - s0) Q (F0 m (pc + w) lsr (.ref x :: r)) → W p l e R s m args below meth c H locs (M.2.2.2.2.1 - n0) (M.2.2.2.2.2 - s0) Q (F0 m pc lsr r))
    (rowN : ∀ (H : Heap) (locs : List Loc) (lsr : Array Slot) (r : List Value), lsr[k0]? = some (.val .null) → W p l e R s m args below meth c H locs (M.2.2.2.2.1 - n0) (M.2.2.2.2.2 - s0) Q (F0 m (pc + w) lsr (.null :: r)) → W p l e R s m args below meth c H locs (M.2.2.2.2.1 - n0) (M.2.2.2.2.2 - s0) Q (F0 m pc lsr r)) :
    am_J p l e R s m args below meth c base fr cT D L xs Q n0 s0 y pc ls st M := by
  unfold am_la at he
  split at he
  · rename_i v ha
    split at he
    · rename_i hv
      obtain ⟨rfl, rfl, rfl, rfl⟩ := am_nx_inv he
      intro H locs lsr hI hlv
      have h1 := hlv.2.2 _ _ ha
      have h2 := k H locs lsr hI hlv
      rw [List.map_cons] at h2
      rcases am_vm_isr (base := base) hf hv with ⟨q, e⟩ | e
      · rw [e] at h1 h2
        exact row q _ _ _ _ h1 h2
      · rw [e] at h1 h2
        exact rowN _ _ _ _ h1 h2
    · cases he
  · cases he
theorem am_q_si (hf : ∀ a, a < 100 → fr a = .null ∨ ∃ q, fr a = .ref q) {k0 w : Nat} (he : am_si (am_mx y) ls k0 (pc + w) st M = some (.inl (pc', ls', st', M'))) (k : am_J p l e R s m args below meth c base fr cT D L xs Q n0 s0 y pc' ls' st' M')
    (row : ∀ (x : Int32) (H : Heap) (locs : List Loc) (lsr : Array Slot) (r : List Value) (lv : List (Nat × Value)), lv_has lsr (am_mx y) lv → k0 < am_mx y → (∀ lsr' : Array Slot, lv_has lsr' (am_mx y) ((k0, .int x) :: lv.filter (fun q => !(q.1 == k0) && !(q.1 + 1 == k0 && q.2.category == 2))) → W p l e R s m args below meth c H locs (M.2.2.2.2.1 - n0) (M.2.2.2.2.2 - s0) Q (F0 m (pc + w) lsr' r)) → W p l e R s m args below meth c H locs (M.2.2.2.2.1 - n0) (M.2.2.2.2.2 - s0) Q (F0 m pc lsr (.int x :: r))) :
    am_J p l e R s m args below meth c base fr cT D L xs Q n0 s0 y pc ls st M := by
  unfold am_si at he
  split at he
  · split at he
    · rename_i hk
      obtain ⟨rfl, rfl, rfl, rfl⟩ := am_nx_inv he
      intro H locs lsr hI hlv
      exact row _ _ _ _ _ _ hlv.has hk (fun lsr' h => k H locs lsr' hI (am_lv.s1 (v := .int _) hf h))
    · cases he
  · cases he
theorem am_q_sl (hf : ∀ a, a < 100 → fr a = .null ∨ ∃ q, fr a = .ref q) {k0 w : Nat} (he : am_sl (am_mx y) ls k0 (pc + w) st M = some (.inl (pc', ls', st', M'))) (k : am_J p l e R s m args below meth c base fr cT D L xs Q n0 s0 y pc' ls' st' M')
    (row : ∀ (x : Int64) (H : Heap) (locs : List Loc) (lsr : Array Slot) (r : List Value) (lv : List (Nat × Value)), lv_has lsr (am_mx y) lv → k0 + 1 < am_mx y → (∀ lsr' : Array Slot, lv_has lsr' (am_mx y) ((k0, .long x) :: lv.filter (fun q => !(q.1 == k0) && (!(q.1 == k0 + 1) && !(q.1 + 1 == k0 && q.2.category == 2)))) → W p l e R s m args below meth c H locs (M.2.2.2.2.1 - n0) (M.2.2.2.2.2 - s0) Q (F0 m (pc + w) lsr' r)) → W p l e R s m args below meth c H locs (M.2.2.2.2.1 - n0) (M.2.2.2.2.2 - s0) Q (F0 m pc lsr (.long x :: r))) :
    am_J p l e R s m args below meth c base fr cT D L xs Q n0 s0 y pc ls st M := by
  unfold am_sl at he
  split at he
  · split at he
    · rename_i hk
      obtain ⟨rfl, rfl, rfl, rfl⟩ := am_nx_inv he
      intro H locs lsr hI hlv
      exact row _ _ _ _ _ _ hlv.has hk (fun lsr' h => k H locs lsr' hI (am_lv.s2 (v := .long _) hf h))
    · cases he
  · cases he
theorem am_q_sa (hf : ∀ a, a < 100 → fr a = .null ∨ ∃ q, fr a = .ref q) {k0 w : Nat} (he : am_sa (am_mx y) ls k0 (pc + w) st M = some (.inl (pc', ls', st', M'))) (k : am_J p l e R s m args below meth c base fr cT D L xs Q n0 s0 y pc' ls' st' M')
    (row : ∀ (x : Nat) (H : Heap) (locs : List Loc) (lsr : Array Slot) (r : List Value) (lv : List (Nat × Value)), lv_has lsr (am_mx y) lv → k0 < am_mx y → (∀ lsr' : Array Slot, lv_has lsr' (am_mx y) ((k0, .ref x) :: lv.filter (fun q => !(q.1 == k0) && !(q.1 + 1 == k0 && q.2.category == 2))) → W p l e R s m args below meth c H locs (M.2.2.2.2.1 - n0) (M.2.2.2.2.2 - s0) Q (F0 m (pc + w) lsr' r)) → W p l e R s m args below meth c H locs (M.2.2.2.2.1 - n0) (M.2.2.2.2.2 - s0) Q (F0 m pc lsr (.ref x :: r)))
    (rowN : ∀ (H : Heap) (locs : List Loc) (lsr : Array Slot) (r : List Value) (lv : List (Nat × Value)), lv_has lsr (am_mx y) lv → k0 < am_mx y → (∀ lsr' : Array Slot, lv_has lsr' (am_mx y) ((k0, .null) :: lv.filter (fun q => !(q.1 == k0) && !(q.1 + 1 == k0 && q.2.category == 2))) → W p l e R s m args below meth c H locs (M.2.2.2.2.1 - n0) (M.2.2.2.2.2 - s0) Q (F0 m (pc + w) lsr' r)) → W p l e R s m args below meth c H locs (M.2.2.2.2.1 - n0) (M.2.2.2.2.2 - s0) Q (F0 m pc lsr (.null :: r))) :
    am_J p l e R s m args below meth c base fr cT D L xs Q n0 s0 y pc ls st M := by
  unfold am_sa at he
  split at he
  · split at he
    · rename_i v r hk
      obtain ⟨rfl, rfl, rfl, rfl⟩ := am_nx_inv he
      intro H locs lsr hI hlv
      rw [List.map_cons]
      rcases am_vm_isr (base := base) hf hk.2 with ⟨q, ev⟩ | ev
      · rw [ev]
        exact row _ _ _ _ _ _ hlv.has hk.1 (fun lsr' h => k H locs lsr' hI (am_lv.s1 (v := v) hf (by rw [ev]; exact h)))
      · rw [ev]
        exact rowN _ _ _ _ _ hlv.has hk.1 (fun lsr' h => k H locs lsr' hI (am_lv.s1 (v := v) hf (by rw [ev]; exact h)))
    · cases he
  · cases he
theorem am_q_iinc (hx : p.tables.exec = Jvm.exec) (hb : c.code = am_bc y) (hf : ∀ a, a < 100 → fr a = .null ∨ ∃ q, fr a = .ref q) {k0 : Nat} {n : Int} {x : Int32} (hd : decode (am_bc y) pc = .ok (.iinc k0 n, 3)) (hl : am_ld ls k0 = some (.int x)) (hk : k0 < am_mx y) (k : am_J p l e R s m args below meth c base fr cT D L xs Q n0 s0 y (pc + 3) (am_s1 ls k0 (.int (x + Int32.ofInt n))) st M) :
    am_J p l e R s m args below meth c base fr cT D L xs Q n0 s0 y pc ls st M := by
  intro H locs lsr hI hlv
  obtain ⟨i, hi⟩ := List.getElem?_of_mem (am_pairs_in (base := base) (fr := fr) hl)
  exact lv_iinc hx hb hd hlv.has hi rfl hk rfl (fun lsr' h => k H locs lsr' hI (am_lv.s1 (v := .int _) hf h))
end SIM1
