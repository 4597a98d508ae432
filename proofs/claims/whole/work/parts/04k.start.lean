/-! THE CLAIM OUT OF ONE WALK OF THE LAW'S BODY. Your part is whole_start (and what it stands on); all else here is the same for every law, but numbers. -/
def R_law : String := "UmbrellaDoorsLaw"
def lw_P (b : Addr) (xs : List Int32) (args : Array Value) (s : State) : Prop := args = #[.ref b] ∧ s.IntsAt b xs ∧ xs.length ≤ 2048 ∧ (Jvm.Cond.and given_1 narrow_1).before args s = true
def lw_Q (_ : Array Value) (s : State) (o : Outcome) (t : State) : Prop := o = .returned (some (.int 1)) ∧ Framed s o t [] 600000 7302250
def lw_Z (below : List Frame) (a : Array Value) (s : State) : State → Prop := fun t => ∃ o, t.status = .running ∧ Ended t below o ∧ lw_Q a s o t
/-- the law's own end, with 1 on the stack, nothing written that was there before, its room as the claim has it -/
theorem lw_ret {p : Program} {l : Launch} {e : Env} {s : State} {m : MethodId} {below : List Frame} {meth : Method} {c : Code} {b : Nat} (hx : p.tables.exec = Jvm.exec) (hb : c.code = code) (hr : meth.sig.returnType = ret) (hlocks : meth.locks = false) {pc : Nat} {H : Heap} {ls : Array Slot} (hdg : decode code pc = .ok (.ireturn, 1)) : W p l e room_1 s m #[Value.ref b] below meth c H [] 600000 7302250 (lw_Z below #[Value.ref b] s) (F0 m pc ls [.int 1]) := by
  intro T hT X
  obtain ⟨fs, hret, hrun, hended, hW, hframe⟩ := X.leave (v := some (.int 1)) (hlocks := hlocks) (fun h => by rw [hr] at h; cases h)
  have hmeth' : T.vm.method? m = some meth := X.method'
  refine ⟨T.setFrames fs, ?_, .returned (some (.int 1)), hrun, hended, rfl, ⟨_, rfl⟩, hW, hframe⟩
  jvm_step X.here [X.here.top, hx, hb, hdg, hmeth', hr, ret, narrow_b1]
  (try refine ⟨rfl, ?_⟩); (try refine ⟨rfl, ?_⟩)
  first | (intro acts; rw [hret _ acts rfl rfl rfl]) | rw [hret _ _ rfl rfl rfl]
  exact Steps.refl _
/-- what holds at the law's entry: the machine, the code, the tables' words (any of lw_tbl by 'hts w (by decide +kernel)'), the script of L ints xs at the cell b, what the Statement gives of the start (any of its parts by flat_of_before) -/
def lw_At (p : Program) (s : State) (m : MethodId) (meth : Method) (c : Code) (b L : Nat) (xs : Nat → Int32) : Prop :=
  p.tables.exec = Jvm.exec ∧ c.code = code ∧ meth.sig.returnType = ret ∧ c.maxLocals = 4 ∧ s.vm.findClass R_law = some m.cls ∧ (∀ w ∈ lw_tbl, w.before #[Value.ref b] s = true) ∧ va_X b L xs s s.heap ∧ b < s.heap.size ∧ meth.locks = false ∧ (Jvm.Cond.and given_1 narrow_1).before #[Value.ref b] s = true
/-! FROM THE LAW'S ENTRY: what the start gives is what AM asks -/
def am_flat : List Cond := flatC (Jvm.Cond.and given_1 narrow_1)
def am_M0 (L : Nat) (xs : Nat → Int32) : am_Mem := (am_T0 L, am_I0 xs, fun _ _ => 0, fun _ _ => none, 100, 0)
def am_schk (i : Nat) : Bool :=
  let q := am_str i
  let t := Term.string q.1 q.2.1
  let f := Term.field t "java/lang/String" "value" "[B"
  decide (Cond.stringRef q.1 q.2.1 q.2.2.1 ∈ lw_tbl) && decide (Cond.exactly t "java/lang/String" ∈ am_flat) && decide (Cond.eq (.field t "java/lang/String" "coder" "B") (.int 0) ∈ am_flat) && decide (Cond.arrayOf f .byte ∈ am_flat) && decide (Cond.eq (.length f) (.int (Int32.ofNat q.2.2.2.2.length)) ∈ am_flat) &&
  (List.range q.2.2.2.2.length).all (fun j => decide (Cond.eq (.elem f (.int (Int32.ofNat j))) (.int (q.2.2.2.2.getD j 0)) ∈ am_flat)) && decide (q.2.2.2.2.length < 100)
theorem am_s_ok : (List.range 15).all am_schk = true := by decide +kernel
def am_nchk (q : (Nat × Nat) × List Nat × List Nat × Nat) : Bool := match lw_tbl[q.2.2.2]? with
  | some (.classLink _ _ T) => q.2.2.1.all (fun t => decide (Cond.not (.castable (am_cl t).1 T) ∈ am_flat))
  | _ => false
theorem am_n_ok : am_instL.all am_nchk = true := by decide +kernel
theorem am_st_ok : (Cond.laysStatic "java/lang/String" "COMPACT_STRINGS" "Z" ∈ lw_tbl ∧ Cond.initialized "java/lang/String" ∈ lw_tbl ∧ Cond.eq (.static "java/lang/String" "COMPACT_STRINGS" "Z") (.int 1) ∈ am_flat) ∧ (Cond.laysStatic "jdk/internal/util/Preconditions" "SIOOBE_FORMATTER" "Ljava/util/function/BiFunction;" ∈ lw_tbl ∧ Cond.initialized "jdk/internal/util/Preconditions" ∈ lw_tbl ∧ Cond.isRef (.static "jdk/internal/util/Preconditions" "SIOOBE_FORMATTER" "Ljava/util/function/BiFunction;") ∈ am_flat) := by decide +kernel
theorem am_inst_n : ∀ t, 1 ≤ t → t ≤ 13 → Cond.instantiable (am_cl t).1 (am_cl t).2.2 ∈ lw_tbl := by
  intro t h1 h2
  have h : (List.range 14).all (fun t => decide (t = 0) || decide (Cond.instantiable (am_cl t).1 (am_cl t).2.2 ∈ lw_tbl)) = true := by decide +kernel
  have := List.all_eq_true.mp h t (List.mem_range.mpr (by omega))
  simp only [Bool.or_eq_true, decide_eq_true_eq] at this
  rcases this with q | q
  · omega
  · exact q
theorem am_ov_ok : Cond.arrayOver (.object RX10) ∈ lw_tbl ∧ Cond.arrayOver (.object RX9) ∈ lw_tbl := by decide +kernel
section START
variable {s : State} {b : Nat}
theorem am_arrK {args : Array Value} {ty : FieldType} (h : (Cond.arrayClass ty).before args s = true) (hno : ∀ C, ty ≠ .object C) : ∃ c : ClassId, ArrOfT s c ty ∧ va_RA s c ty := by
  obtain ⟨c, k, comp, h1, h2, h3⟩ := Cond.arrayClass_spec h
  refine ⟨c, fun n z => ⟨(fun k h => by cases h), k, h2, comp, h3⟩, ?_⟩
  cases ty <;> first | exact h1 | exact absurd rfl (hno _)
theorem am_arrO {args : Array Value} {C : String} (h : (Cond.arrayOver (.object C)).before args s = true) : ∃ c : ClassId, ArrOfT s c (.object C) ∧ va_RA s c (.object C) := by
  obtain ⟨comp, c, k, h1, h2, h3, h4, h5⟩ := Cond.arrayOver_spec h
  exact ⟨c, fun n z => ⟨(fun k h => by cases h), k, h3, comp, h4⟩, k, comp, h3, h4, h1, h5⟩
theorem am_start_ctx {L : Nat} {xs : Nat → Int32} (hts : ∀ w ∈ lw_tbl, w.before #[Value.ref b] s = true) (hgv : (Jvm.Cond.and given_1 narrow_1).before #[Value.ref b] s = true) (hX : va_X b L xs s s.heap) (hbl : b < s.heap.size) :
    ∃ (fr : Nat → Value) (cT : Nat → ClassId) (D : va_G), am_Ctx s.heap.size fr cT D L xs s ∧ am_Foreign fr ∧ fr 0 = .ref b := by
  have hs : ∀ w ∈ am_flat, w.before #[Value.ref b] s = true := flat_of_before _ hgv
  have hA : ∀ a : Nat, a < s.heap.size → ¬ am_A s.heap.size a := fun a h q => by
    have q : s.heap.size ≤ a := q
    omega
  -- classes
  have hcls : ∀ t, ∃ q : ClassId × (Nat → Nat), 1 ≤ t → t ≤ 13 → u_Kn s (am_cl t).1 (am_cl t).2.1 (am_cl t).2.2 q.1 q.2 := by
    intro t
    by_cases h : 1 ≤ t ∧ t ≤ 13
    · obtain ⟨-, hin, -, -⟩ := am_cl_ok t h
      obtain ⟨c, i, hk⟩ := u_known (C := (am_cl t).1) (T := (am_cl t).2.1) (N := (am_cl t).2.2) (n := (am_cl t).2.2) hts (fun w hw => (List.mem_filter.mp (hin w hw)).1) (hts _ (am_inst_n t h.1 h.2))
      exact ⟨(c, i), fun _ _ => hk⟩
    · exact ⟨(0, fun _ => 0), fun h1 h2 => absurd ⟨h1, h2⟩ h⟩
  obtain ⟨cf, hcf⟩ := Classical.axiomOfChoice hcls
  -- arrays
  obtain ⟨w0, w1, w2, w3⟩ := am_arr_ok
  obtain ⟨c0, k0⟩ := am_arrK (s := s) (hts _ (List.mem_of_getElem? w0)) (fun C h => by cases h)
  obtain ⟨c1, k1⟩ := am_arrK (s := s) (hts _ (List.mem_of_getElem? w1)) (fun C h => by cases h)
  obtain ⟨c2, k2⟩ := am_arrK (s := s) (hts _ (List.mem_of_getElem? w2)) (fun C h => by cases h)
  obtain ⟨c3, k3⟩ := am_arrK (s := s) (hts _ (List.mem_of_getElem? w3)) (fun C h => by cases h)
  obtain ⟨c4, k4⟩ := am_arrO (s := s) (hts _ am_ov_ok.1)
  obtain ⟨c5, k5⟩ := am_arrO (s := s) (hts _ am_ov_ok.2)
  -- strings
  have hstr : ∀ i, ∃ q : Nat × Nat, i < 15 → vk_R (am_str i).1 (am_str i).2.1 (am_str i).2.2.1 q.1 s ∧ va_O "java/lang/String" q.1 (am_A s.heap.size) s s.heap ∧ va_OF "java/lang/String" "coder" "B" (.int 0) q.1 (am_A s.heap.size) s s.heap ∧ va_OF "java/lang/String" "value" "[B" (.ref q.2) q.1 (am_A s.heap.size) s s.heap ∧ va_T .byte q.2 (am_str i).2.2.2.2.length (fun j => .int ((am_str i).2.2.2.2.getD j 0)) (am_A s.heap.size) s s.heap := by
    intro i
    by_cases hi : i < 15
    · have hck := List.all_eq_true.mp am_s_ok i (List.mem_range.mpr hi)
      unfold am_schk at hck
      simp only [Bool.and_eq_true, decide_eq_true_eq] at hck
      obtain ⟨⟨⟨⟨⟨⟨g0, g1⟩, g2⟩, g3⟩, g4⟩, g5⟩, g6⟩ := hck
      obtain ⟨aK, aV, hS, hev⟩ := vk_Sof (args := #[Value.ref b]) (s := s) (N := 1) (tm := fun _ => Term.string (am_str i).1 (am_str i).2.1) (len := [(am_str i).2.2.2.2.length]) (byt := [(am_str i).2.2.2.2]) (A := am_A s.heap.size)
        (fun j hj => by rw [show j = 0 by omega]; show (am_str i).2.2.2.2.length < _; omega) (fun j _ => hs _ g1) (fun j _ => hs _ g2) (fun j _ => hs _ g3) (fun j hj => by rw [show j = 0 by omega]; exact hs _ g4)
        (fun j hj k hk => by
          rw [show j = 0 by omega] at hk ⊢
          exact hs _ (of_decide_eq_true (List.all_eq_true.mp g5 k (List.mem_range.mpr hk))))
        (fun j k hj hk hjk => absurd (by omega) hjk) hA
      obtain ⟨q1, q2, q3, q4⟩ := hS.1 0 (by decide)
      exact ⟨(aK 0, aV 0), fun _ => ⟨vk_R.of (hts _ g0) (hev 0 (by decide)), q1, q2, q3, q4⟩⟩
    · exact ⟨(0, 0), fun h => absurd h hi⟩
  obtain ⟨sf, hsf⟩ := Classical.axiomOfChoice hstr
  -- statics
  obtain ⟨⟨z1, z2, z3⟩, z4, z5, z6⟩ := am_st_ok
  have hZ1 := va_Zof (s := s) (A := am_A s.heap.size) (hts _ z1) (hts _ z2) (va_eqi (hs _ z3)) hA
  have hZ2 := va_Zqof (s := s) (A := am_A s.heap.size) (hts _ z4) (hts _ z5) (hs _ z6) hA
  obtain ⟨v50, hZ3, hv50⟩ : ∃ v, va_Z "jdk/internal/util/Preconditions" "SIOOBE_FORMATTER" "Ljava/util/function/BiFunction;" v (am_A s.heap.size) s s.heap ∧ (v = .null ∨ ∃ a, v = .ref a) := by
    rcases hZ2 with h | ⟨t, h⟩
    · exact ⟨_, h, Or.inl rfl⟩
    · exact ⟨_, h, Or.inr ⟨t, rfl⟩⟩
  refine ⟨fun k => if k = 50 then v50 else if k = 0 then .ref b else if k < 25 then .ref (sf (k - 10)).1 else .ref (sf (k - 30)).2, fun t => if t = 20 then c0 else if t = 21 then c1 else if t = 22 then c2 else if t = 23 then c3 else if t = 24 then c4 else c5, (fun k => (cf (k + 1)).1, fun k => (cf (k + 1)).2), ⟨⟨fun k q hq => ?_, fun k q hq => ?_⟩, Nat.le_refl _, ⟨b, rfl, hbl, hX⟩, fun i hi => ?_, hZ1, by simpa using hZ3, by simpa using hv50, fun o x ys ns j hl t ht C hC T hw => ?_, fun C T h => va_any rfl (hts _ h), fun C h => va_AO.of (hts _ h), fun o x z h hm => va_any rfl (hts _ hm)⟩, ⟨fun a ha => ?_, fun a ha h50 => ?_⟩, rfl⟩
  · have hk : k < 13 := (List.getElem?_eq_some_iff.mp hq).1
    obtain ⟨h1, -, -, -⟩ := am_cl_ok (k + 1) ⟨by omega, by omega⟩
    rw [Nat.add_sub_cancel] at h1
    cases h1.symm.trans hq
    exact hcf (k + 1) (by omega) (by omega)
  · have hk : k < 6 := (List.getElem?_eq_some_iff.mp hq).1
    have h6 : k = 0 ∨ k = 1 ∨ k = 2 ∨ k = 3 ∨ k = 4 ∨ k = 5 := by omega
    rcases h6 with rfl | rfl | rfl | rfl | rfl | rfl
    · cases hq; exact k0
    · cases hq; exact k1
    · cases hq; exact k2
    · cases hq; exact k3
    · cases hq; exact k4
    · cases hq; exact k5
  · obtain ⟨g0, g1, g2, g3, g4⟩ := hsf i hi
    refine ⟨(sf i).1, (sf i).2, ?_, ?_, g0, g1, g2, g3, g4⟩
    · dsimp only
      rw [if_neg (by omega), if_neg (by omega), if_pos (by omega), Nat.add_sub_cancel_left]
    · dsimp only
      rw [if_neg (by omega), if_neg (by omega), if_neg (by omega), Nat.add_sub_cancel_left]
  · have hck := List.all_eq_true.mp am_n_ok _ (am_lk_mem hl)
    unfold am_nchk at hck
    dsimp only at hck
    rw [hw] at hck
    have h5 := of_decide_eq_true (List.all_eq_true.mp hck t ht)
    rw [hC]
    exact va_Nc.of (hs _ h5)
  · by_cases h1 : a = 50
    · simp only [h1, if_true]; exact hv50
    · simp only [h1, if_false]
      refine Or.inr ?_
      by_cases h2 : a = 0
      · exact ⟨b, by simp [h2]⟩
      · by_cases h3 : a < 25
        · exact ⟨_, by simp only [h2, h3, if_true, if_false]; rfl⟩
        · exact ⟨_, by simp only [h2, h3, if_false]; rfl⟩
  · simp only [h50, if_false]
    by_cases h2 : a = 0
    · exact ⟨b, by simp [h2]⟩
    · by_cases h3 : a < 25
      · exact ⟨_, by simp only [h2, h3, if_true, if_false]; rfl⟩
      · exact ⟨_, by simp only [h2, h3, if_false]; rfl⟩
/-- what is left: AM's own run of the law, for every script -/
def am_Goal : Prop := ∀ (L : Nat) (xs : Nat → Int32), L ≤ 2048 → ∃ (n : Nat) (M' : am_Mem), am_run n 2048 am_law 0 [some (.ref 0), none, none, none] [] (am_M0 L xs) = some (some (.int 1), M') ∧ M'.2.2.2.2.1 ≤ 600000 ∧ M'.2.2.2.2.2 ≤ 7302250
theorem am_whole (hgoal : am_Goal) {p : Program} {e : Env} {m : MethodId} {below : List Frame} {meth : Method} {c : Code} (l : Launch) {L : Nat} {xs : Nat → Int32} (hL : L ≤ 2048) (C0 : lw_At p s m meth c b L xs) : W p l e room_1 s m #[Value.ref b] below meth c s.heap [] 0 0 (lw_Z below #[Value.ref b] s) (entryFrame m ([Value.ref b] : List Value).toArray 4) := by
  obtain ⟨hx, hb, hr, hml, hown, hts, hX, hbl, hlocks, hgv⟩ := id C0
  obtain ⟨fr, cT, D, hC, hf, h0⟩ := am_start_ctx hts hgv hX hbl
  obtain ⟨n, M', hrun, hm1, hm2⟩ := hgoal L xs hL
  have hF : am_Fx p s m #[Value.ref b] meth c am_law := ⟨hx, hb, hml, hown, fun w hw => hts w (List.mem_filter.mp hw).1, fun h => absurd h (by decide +kernel), hr, hlocks⟩
  have hmono := am_mono _ _ _ _ _ _ _ _ hrun
  have hI : am_Inv s.heap.size cT D L xs s (am_M0 L xs) s.heap [] := by
    refine ⟨⟨Nat.le_refl _, rfl⟩, fun a h1 h2 => ?_, fun a ha => ⟨?_, fun k => ⟨?_, rfl, rfl⟩⟩, fun a k j h => ?_, fun a ha => ⟨rfl, fun k => rfl⟩, va_S.rf⟩
    · have h2 : a < 100 := h2
      omega
    · have ha : 100 ≤ a := ha
      show am_T0 L a = (0, 0)
      unfold am_T0
      rw [if_neg (by omega), if_neg (by omega), if_neg (by omega)]
    · have ha : 100 ≤ a := ha
      show am_I0 xs a k = 0
      unfold am_I0
      rw [if_neg (by omega), if_neg (by omega)]
    · cases h
  have K := am_main n 2048 am_law 0 _ [] (am_M0 L xs) _ hrun p l e room_1 s m #[Value.ref b] below meth c s.heap.size fr cT D L xs (lw_Z below #[Value.ref b] s) 100 0 hF hC hf ⟨Nat.le_refl _, Nat.le_refl _⟩ ⟨by show M'.2.2.2.2.1 - 100 ≤ 600000; omega, by show M'.2.2.2.2.2 - 0 ≤ 7302250; omega⟩ ⟨Nat.le_refl _, by show 41 * 2048 ≤ 84000; omega⟩
    (fun i len pc ls st M1 hd hlen he => by
      intro H locs lsr hI1 hlv
      have hM1 := am_ret_mem he
      subst hM1
      cases i
      case ireturn =>
        simp only [am_ex] at he
        have hl : len = 1 := by rcases hlen with g | g <;> simp [am_len] at g; exact g.symm
        subst hl
        split at he
        · rename_i ty x hrt
          split at he
          · cases he
            refine va_forget (fun q hq => hI1.2.2.2.2.2.2.2 q hq) ?_
            refine W.widen (k := 600000) (n := 7302250) (by omega) (by omega) ?_
            exact lw_ret hx hb hr hlocks hd
          · cases he
        · cases he
      case lreturn =>
        simp only [am_ex] at he
        split at he <;> cases he
      case areturn =>
        simp only [am_ex] at he
        split at he
        · split at he <;> cases he
        · cases he
        · cases he
      case return_ =>
        simp only [am_ex] at he
        split at he <;> cases he
      all_goals
        exfalso
        have notnx : ∀ {pc ls st} {N : am_Mem} {r : Option Value × am_Mem}, am_nx pc ls st N = some (.inr (.inl r)) → False := fun h => by cases h
        have notbr : ∀ {pc off ls st} {N : am_Mem} {r : Option Value × am_Mem}, am_br pc off ls st N = some (.inr (.inl r)) → False := fun h => by unfold am_br at h; split at h <;> cases h
        have notcall : ∀ {z as rest} {r : Option Value × am_Mem}, am_call z as rest = some (.inr (.inl r)) → False := fun h => by unfold am_call at h; split at h <;> cases h
        simp only [am_ex, am_li, am_ll, am_la, am_si, am_sl, am_sa, am_i2, am_l2, am_i1, am_get, am_put, am_sti, am_bst, am_ast, am_iv, am_is, am_acp, am_ip] at he
        repeat' split at he
        all_goals first | exact notnx he | exact notbr he | exact notcall he | (cases he; done))
  have hl := am_entry_lv (base := s.heap.size) (fr := fr) hf (y := am_law) (as := [.ref 0]) (by decide +kernel)
  have ev : ([Value.ref 0] : List Value).map (am_vm s.heap.size fr) = [.ref b] := by
    show [if (0 : Nat) < 100 then fr 0 else Value.ref (s.heap.size + (0 - 100))] = _
    rw [if_pos (by decide), h0]
  rw [ev] at hl
  have K2 := K s.heap [] _ hI hl
  rw [List.map_nil] at K2
  rw [lg_entry_eq]
  exact K2
end START
