/-! THE SIMULATION, part four: array stores, new cells, constants, instanceof -/
theorem am_at_i {D : va_G} {cl : List vw_C} {q : Nat} {cA : ClassId} {n i : Nat} {f : Nat → Int32} {x : Int32} {H1 : Heap} (e : H1[q]? = some ((vp_cell cA (n, .inl f)).setSlot i (.int x))) : va_at D cl (q, .inl (cA, n, .inl (fun j => if j = i then x else f j))) H1 := by
  show H1[q]? = some (vp_cell _ _)
  rw [e, vp_cell_i, vp_cell_i, arrV_store]
  congr 2
  funext k
  by_cases h : k = i <;> simp [updV, h]
theorem am_at_l {D : va_G} {cl : List vw_C} {q : Nat} {cA : ClassId} {n i : Nat} {f : Nat → Int64} {x : Int64} {H1 : Heap} (e : H1[q]? = some ((vp_cell cA (n, .inr (.inl f))).setSlot i (.long x))) : va_at D cl (q, .inl (cA, n, .inr (.inl (fun j => if j = i then x else f j)))) H1 := by
  show H1[q]? = some (vp_cell _ _)
  rw [e, vp_cell_l, vp_cell_l, arrV_store]
  congr 2
  funext k
  by_cases h : k = i <;> simp [updV, h]
theorem am_at_q {D : va_G} {cl : List vw_C} {q : Nat} {cA : ClassId} {n i : Nat} {f : Nat → Option Nat} {x : Option Nat} {H1 : Heap} (e : H1[q]? = some ((vp_cell cA (n, .inr (.inr (.inr (.inr f))))).setSlot i (va_rf x))) : va_at D cl (q, .inl (cA, n, .inr (.inr (.inr (.inr (fun j => if j = i then x else f j)))))) H1 := by
  show H1[q]? = some (vp_cell _ _)
  rw [e, vp_cell_q, vp_cell_q, arrV_store]
  congr 2
  funext k
  by_cases h : k = i <;> simp [updV, h]
theorem am_lo {base a sl : Nat} {locs : List Loc} : ∀ q ∈ locs ++ [(⟨am_ro base a, sl⟩ : Loc)], q ∈ locs ∨ base ≤ q.base := by
  intro q hq
  rcases List.mem_append.mp hq with g | g
  · exact Or.inl g
  · rw [List.mem_singleton.mp g]
    exact Or.inr (Nat.le_add_right _ _)
section SIM4
variable {p : Program} {l : Launch} {e : Env} {R : Room} {s : State} {m : MethodId} {args : Array Value} {below : List Frame} {meth : Method} {c : Code} {base : Nat} {fr : Nat → Value} {cT : Nat → ClassId} {D : va_G} {L : Nat} {xs : Nat → Int32} {Q : State → Prop} {n0 s0 y : Nat}
variable {pc pc' : Nat} {ls ls' : am_Loc} {st st' : List Value} {M M' : am_Mem} {H : Heap} {locs : List Loc} {cells slots : Nat} {lsr : Array Slot} {rest : List Value}
theorem am_q_iast (hF : am_Fx p s m args meth c y) (hC : am_Ctx base fr cT D L xs s) {j z : Int32} {a : Nat} {r : List Value} (hdg : decode (am_bc y) pc = .ok (.iastore, 1)) (ha : am_arr M.1 [20] a j = true) (k : am_J p l e R s m args below meth c base fr cT D L xs Q n0 s0 y (pc + 1) ls r (M.1, am_u M.2.1 a j.toNatClampNeg z, M.2.2)) :
    am_J p l e R s m args below meth c base fr cT D L xs Q n0 s0 y pc ls (.int z :: .int j :: .ref a :: r) M := by
  obtain ⟨hx, hb, hml, hown, hts, hin2, hr, hlocks⟩ := id hF
  obtain ⟨ht, hin⟩ := am_arr_use ha
  have ht : (M.1 a).1 = 20 := by simpa using ht
  intro H locs lsr hI hlv
  obtain ⟨ha1, ha2⟩ := hI.own (a := a) (by omega) (by omega)
  have hat := (hI.2.1 a ha1 ha2).2
  rw [am_cv_int ht (Or.inl rfl)] at hat
  rw [List.map_cons, List.map_cons, List.map_cons, am_vm_own ha1]
  refine W.iast hx hb hat ((hC.1.2 0 _ rfl).1 (M.1 a).2 (fun j => .int (M.2.1 a j))) (fun q => by cases q) (by show ¬ (j < 0 ∨ (arrV _ _ _).slots.size ≤ _); rw [arrV_size]; exact hin) rfl rfl hdg fun H1 e1 z1 oq => ?_
  exact k H1 _ lsr (hI.upd (M' := (M.1, am_u M.2.1 a j.toNatClampNeg z, M.2.2)) ha1 ha2 rfl rfl (fun b hb => am_row_ne _ _ _ hb) (fun _ _ => rfl) (fun _ _ => rfl) (fun i q h => hI.2.2.2.1 a i q h) z1 oq (by rw [am_cv_int (M := (M.1, am_u M.2.1 a j.toNatClampNeg z, M.2.2)) ht (Or.inl rfl)]; show va_at D vwCl (_, .inl (_, _, .inl (am_u M.2.1 a j.toNatClampNeg z a))) H1; rw [am_row_self]; exact am_at_i e1) am_lo) hlv
theorem am_q_bast (hF : am_Fx p s m args meth c y) (hC : am_Ctx base fr cT D L xs s) {j z : Int32} {a : Nat} {r : List Value} (hdg : decode (am_bc y) pc = .ok (.bastore, 1)) (ha : am_arr M.1 [22] a j = true) (k : am_J p l e R s m args below meth c base fr cT D L xs Q n0 s0 y (pc + 1) ls r (M.1, am_u M.2.1 a j.toNatClampNeg z.toInt8.toInt32, M.2.2)) :
    am_J p l e R s m args below meth c base fr cT D L xs Q n0 s0 y pc ls (.int z :: .int j :: .ref a :: r) M := by
  obtain ⟨hx, hb, hml, hown, hts, hin2, hr, hlocks⟩ := id hF
  obtain ⟨ht, hin⟩ := am_arr_use ha
  have ht : (M.1 a).1 = 22 := by simpa using ht
  intro H locs lsr hI hlv
  obtain ⟨ha1, ha2⟩ := hI.own (a := a) (by omega) (by omega)
  have hat := (hI.2.1 a ha1 ha2).2
  rw [am_cv_int ht (Or.inr (Or.inl rfl))] at hat
  rw [List.map_cons, List.map_cons, List.map_cons, am_vm_own ha1]
  refine W.bast hx hb hat ((hC.1.2 2 _ rfl).1 (M.1 a).2 (fun j => .int (M.2.1 a j))) (fun q => by cases q) (by show ¬ (j < 0 ∨ (arrV _ _ _).slots.size ≤ _); rw [arrV_size]; exact hin) rfl rfl hdg fun H1 e1 z1 oq => ?_
  exact k H1 _ lsr (hI.upd (M' := (M.1, am_u M.2.1 a j.toNatClampNeg z.toInt8.toInt32, M.2.2)) ha1 ha2 rfl rfl (fun b hb => am_row_ne _ _ _ hb) (fun _ _ => rfl) (fun _ _ => rfl) (fun i q h => hI.2.2.2.1 a i q h) z1 oq (by rw [am_cv_int (M := (M.1, am_u M.2.1 a j.toNatClampNeg z.toInt8.toInt32, M.2.2)) ht (Or.inr (Or.inl rfl))]; show va_at D vwCl (_, .inl (_, _, .inl (am_u M.2.1 a j.toNatClampNeg z.toInt8.toInt32 a))) H1; rw [am_row_self]; exact am_at_i e1) am_lo) hlv
theorem am_q_zast (hF : am_Fx p s m args meth c y) (hC : am_Ctx base fr cT D L xs s) {j z : Int32} {a : Nat} {r : List Value} (hdg : decode (am_bc y) pc = .ok (.bastore, 1)) (ha : am_arr M.1 [23] a j = true) (k : am_J p l e R s m args below meth c base fr cT D L xs Q n0 s0 y (pc + 1) ls r (M.1, am_u M.2.1 a j.toNatClampNeg (z &&& 1), M.2.2)) :
    am_J p l e R s m args below meth c base fr cT D L xs Q n0 s0 y pc ls (.int z :: .int j :: .ref a :: r) M := by
  obtain ⟨hx, hb, hml, hown, hts, hin2, hr, hlocks⟩ := id hF
  obtain ⟨ht, hin⟩ := am_arr_use ha
  have ht : (M.1 a).1 = 23 := by simpa using ht
  intro H locs lsr hI hlv
  obtain ⟨ha1, ha2⟩ := hI.own (a := a) (by omega) (by omega)
  have hat := (hI.2.1 a ha1 ha2).2
  rw [am_cv_int ht (Or.inr (Or.inr rfl))] at hat
  rw [List.map_cons, List.map_cons, List.map_cons, am_vm_own ha1]
  refine W.zast hx hb hat ((hC.1.2 3 _ rfl).1 (M.1 a).2 (fun j => .int (M.2.1 a j))) (fun q => by cases q) (by show ¬ (j < 0 ∨ (arrV _ _ _).slots.size ≤ _); rw [arrV_size]; exact hin) rfl rfl hdg fun H1 e1 z1 oq => ?_
  exact k H1 _ lsr (hI.upd (M' := (M.1, am_u M.2.1 a j.toNatClampNeg (z &&& 1), M.2.2)) ha1 ha2 rfl rfl (fun b hb => am_row_ne _ _ _ hb) (fun _ _ => rfl) (fun _ _ => rfl) (fun i q h => hI.2.2.2.1 a i q h) z1 oq (by rw [am_cv_int (M := (M.1, am_u M.2.1 a j.toNatClampNeg (z &&& 1), M.2.2)) ht (Or.inr (Or.inr rfl))]; show va_at D vwCl (_, .inl (_, _, .inl (am_u M.2.1 a j.toNatClampNeg (z &&& 1) a))) H1; rw [am_row_self]; exact am_at_i e1) am_lo) hlv
theorem am_q_last (hF : am_Fx p s m args meth c y) (hC : am_Ctx base fr cT D L xs s) {j : Int32} {z : Int64} {a : Nat} {r : List Value} (hdg : decode (am_bc y) pc = .ok (.lastore, 1)) (ha : am_arr M.1 [21] a j = true) (k : am_J p l e R s m args below meth c base fr cT D L xs Q n0 s0 y (pc + 1) ls r (M.1, M.2.1, am_u M.2.2.1 a j.toNatClampNeg z, M.2.2.2)) :
    am_J p l e R s m args below meth c base fr cT D L xs Q n0 s0 y pc ls (.long z :: .int j :: .ref a :: r) M := by
  obtain ⟨hx, hb, hml, hown, hts, hin2, hr, hlocks⟩ := id hF
  obtain ⟨ht, hin⟩ := am_arr_use ha
  have ht : (M.1 a).1 = 21 := by simpa using ht
  intro H locs lsr hI hlv
  obtain ⟨ha1, ha2⟩ := hI.own (a := a) (by omega) (by omega)
  have hat := (hI.2.1 a ha1 ha2).2
  rw [am_cv_long ht] at hat
  rw [List.map_cons, List.map_cons, List.map_cons, am_vm_own ha1]
  refine W.last hx hb hat ((hC.1.2 1 _ rfl).1 (M.1 a).2 (fun j => .long (M.2.2.1 a j))) (fun q => by cases q) (by show ¬ (j < 0 ∨ (arrV _ _ _).slots.size ≤ _); rw [arrV_size]; exact hin) rfl rfl hdg fun H1 e1 z1 oq => ?_
  exact k H1 _ lsr (hI.upd (M' := (M.1, M.2.1, am_u M.2.2.1 a j.toNatClampNeg z, M.2.2.2)) ha1 ha2 rfl rfl (fun _ _ => rfl) (fun b hb => am_row_ne _ _ _ hb) (fun _ _ => rfl) (fun i q h => hI.2.2.2.1 a i q h) z1 oq (by rw [am_cv_long (M := (M.1, M.2.1, am_u M.2.2.1 a j.toNatClampNeg z, M.2.2.2)) ht]; show va_at D vwCl (_, .inl (_, _, .inr (.inl (am_u M.2.2.1 a j.toNatClampNeg z a)))) H1; rw [am_row_self]; exact am_at_l e1) am_lo) hlv
theorem am_q_aastEnd (hI : am_Inv base cT D L xs s M H locs) {a t i : Nat} {w : Option Nat} (hw : ∀ q, w = some q → 100 ≤ q) (ha1 : 100 ≤ a) (ha2 : a < M.2.2.2.2.1) (ht : (M.1 a).1 = t) (h45 : t = 24 ∨ t = 25) {H1 : Heap} {sl : Nat} (e1 : H1[am_ro base a]? = some ((vp_cell (cT t) ((M.1 a).2, .inr (.inr (.inr (.inr (fun k => (M.2.2.2.1 a k).map (am_ro base))))))).setSlot i (va_rf (w.map (am_ro base))))) (z1 : H1.size = H.size) (oq : ∀ q : Nat, q ≠ am_ro base a → H1[q]? = H[q]?) :
    am_Inv base cT D L xs s (M.1, M.2.1, M.2.2.1, am_u M.2.2.2.1 a i w, M.2.2.2.2) H1 (locs ++ [⟨am_ro base a, sl⟩]) := by
  refine hI.upd (M' := (M.1, M.2.1, M.2.2.1, am_u M.2.2.2.1 a i w, M.2.2.2.2)) ha1 ha2 rfl rfl (fun _ _ => rfl) (fun _ _ => rfl) (fun b hb => am_row_ne _ _ _ hb) (fun k q h => ?_) z1 oq ?_ am_lo
  · by_cases hk : k = i
    · subst hk
      simp [am_u] at h
      exact hw q h
    · simp [am_u, hk] at h
      exact hI.2.2.2.1 a k q h
  · rw [am_cv_ref (M := (M.1, M.2.1, M.2.2.1, am_u M.2.2.2.1 a i w, M.2.2.2.2)) ht h45]
    have e2 : (fun k => ((am_u M.2.2.2.1 a i w) a k).map (am_ro base)) = (fun k => if k = i then w.map (am_ro base) else (M.2.2.2.1 a k).map (am_ro base)) := by
      funext k
      by_cases hk : k = i <;> simp [am_u, hk]
    show va_at D vwCl (_, .inl (_, _, .inr (.inr (.inr (.inr (fun k => ((am_u M.2.2.2.1 a i w) a k).map (am_ro base))))))) H1
    rw [e2]
    exact am_at_q e1
def am_cast1 (t : Nat) : Bool := decide (Cond.castable (am_cl t).1 RX9 ∈ lw_tbl)
theorem am_cast_ok : [1, 2, 3, 4, 5, 6].all am_cast1 = true := by decide +kernel
theorem am_q_aast (hF : am_Fx p s m args meth c y) (hC : am_Ctx base fr cT D L xs s) {j : Int32} {z a : Nat} {r : List Value} (hdg : decode (am_bc y) pc = .ok (.aastore, 1)) (ha : (am_arr M.1 [24] a j && (M.1 z).1 == 11 || am_arr M.1 [25] a j && [1, 2, 3, 4, 5, 6, 10].contains (M.1 z).1) = true) (k : am_J p l e R s m args below meth c base fr cT D L xs Q n0 s0 y (pc + 1) ls r (M.1, M.2.1, M.2.2.1, am_u M.2.2.2.1 a j.toNatClampNeg (some z), M.2.2.2.2)) :
    am_J p l e R s m args below meth c base fr cT D L xs Q n0 s0 y pc ls (.ref z :: .int j :: .ref a :: r) M := by
  obtain ⟨hx, hb, hml, hown, hts, hin2, hr, hlocks⟩ := id hF
  intro H locs lsr hI hlv
  have fin : ∀ {t t0 tz : Nat} {E : String}, (t = 24 ∨ t = 25) → (M.1 a).1 = t → vp_in j (M.1 a).2 → (am_tys cT)[t0]? = some (cT t, .object E) → (M.1 z).1 = tz → 1 ≤ tz → tz ≤ 13 → ((am_cl tz).1 = E ∨ Cond.castable (am_cl tz).1 E ∈ lw_tbl) →
      W p l e R s m args below meth c H locs (M.2.2.2.2.1 - n0) (M.2.2.2.2.2 - s0) Q (F0 m pc lsr (List.map (am_vm base fr) (.ref z :: .int j :: .ref a :: r))) := by
    intro t t0 tz E h45 ht hin htt hz1 hz2 hz3 hE
    obtain ⟨ha1, ha2⟩ := hI.own (a := a) (by omega) (by omega)
    obtain ⟨hb1, hb2⟩ := hI.own (a := z) (by omega) (by omega)
    have hat := (hI.2.1 a ha1 ha2).2
    rw [am_cv_ref ht h45] at hat
    have hatz := (hI.2.1 z hb1 hb2).2
    rw [am_cv_obj (by omega), hz1] at hatz
    rw [List.map_cons, List.map_cons, List.map_cons, am_vm_own ha1, am_vm_own hb1]
    have hlt : j.toNatClampNeg < (M.1 a).2 := Nat.not_le.mp fun q => hin (Or.inr q)
    have h0 : ¬ j < 0 := fun q => hin (Or.inl q)
    obtain ⟨r', hr', cellV, g1, g2, g3, -⟩ := hatz
    obtain ⟨hc, -, -, -⟩ := am_cl_ok tz ⟨hz2, hz3⟩
    have hcls := (hC.1.1 _ _ hc).2
    obtain ⟨kA, comp, k1, k2, k3, -⟩ := (hC.1.2 t0 _ htt).2
    obtain ⟨kE, hkE, -⟩ := Vm.findClass_spec k3
    obtain ⟨kC, hkC, -⟩ := hcls.2
    have has : s.vm.assignable cellV.cls comp = true := by
      rw [g2]
      rcases hE with q | q
      · have : comp = D.1 (tz - 1) := Option.some.inj (k3.symm.trans (by rw [← q]; exact hcls.1))
        rw [this]
        exact va_assign hcls
      · obtain ⟨c0, t1, f1, f2, f3⟩ := Cond.castable_spec (va_Nw.use (A := args) rfl (hC.2.2.2.2.2.2.2.2.1 _ _ q))
        cases hcls.1.symm.trans f1
        cases k3.symm.trans f2
        exact f3
    refine W.aast hx hb hat (fun q h => by cases h) (fun h => by cases h) k1 k2 rfl hkE ⟨h0, by show _ < (arrV _ _ _).slots.size; rw [arrV_size]; exact hlt⟩ g1 (fun q h => by rw [g3] at h; cases h) (by rw [g2]; exact hkC) has rfl rfl hdg fun H1 e1 z1 oq => ?_
    exact k H1 _ lsr (am_q_aastEnd hI (w := some z) (fun q h => by cases h; exact hb1) ha1 ha2 ht h45 (i := j.toNatClampNeg) (by exact e1) z1 oq) hlv
  rw [Bool.or_eq_true, Bool.and_eq_true, Bool.and_eq_true] at ha
  rcases ha with ⟨g1, g2⟩ | ⟨g1, g2⟩
  · obtain ⟨ht, hin⟩ := am_arr_use g1
    have ht : (M.1 a).1 = 24 := by simpa using ht
    have hz1 : (M.1 z).1 = 11 := by simpa using g2
    exact fin (t0 := 4) (Or.inl rfl) ht hin rfl hz1 (by decide) (by decide) (Or.inl rfl)
  · obtain ⟨ht, hin⟩ := am_arr_use g1
    have ht : (M.1 a).1 = 25 := by simpa using ht
    have hz1 := List.contains_iff_mem.mp g2
    by_cases e10 : (M.1 z).1 = 10
    · exact fin (t0 := 5) (Or.inr rfl) ht hin rfl e10 (by decide) (by decide) (Or.inl rfl)
    · have hz6 : (M.1 z).1 ∈ [1, 2, 3, 4, 5, 6] := by
        simp at hz1 ⊢
        omega
      have hcc := List.all_eq_true.mp am_cast_ok _ hz6
      unfold am_cast1 at hcc
      simp at hz6
      exact fin (t0 := 5) (Or.inr rfl) ht hin rfl rfl (by omega) (by omega) (Or.inr (of_decide_eq_true hcc))
theorem am_q_aastN (hF : am_Fx p s m args meth c y) (hC : am_Ctx base fr cT D L xs s) {j : Int32} {a : Nat} {r : List Value} (hdg : decode (am_bc y) pc = .ok (.aastore, 1)) (ha : am_arr M.1 [24, 25] a j = true) (k : am_J p l e R s m args below meth c base fr cT D L xs Q n0 s0 y (pc + 1) ls r (M.1, M.2.1, M.2.2.1, am_u M.2.2.2.1 a j.toNatClampNeg none, M.2.2.2.2)) :
    am_J p l e R s m args below meth c base fr cT D L xs Q n0 s0 y pc ls (.null :: .int j :: .ref a :: r) M := by
  obtain ⟨hx, hb, hml, hown, hts, hin2, hr, hlocks⟩ := id hF
  obtain ⟨ht, hin⟩ := am_arr_use ha
  intro H locs lsr hI hlv
  have fin : ∀ {t t0 : Nat} {E : String}, (t = 24 ∨ t = 25) → (M.1 a).1 = t → (am_tys cT)[t0]? = some (cT t, .object E) →
      W p l e R s m args below meth c H locs (M.2.2.2.2.1 - n0) (M.2.2.2.2.2 - s0) Q (F0 m pc lsr (List.map (am_vm base fr) (.null :: .int j :: .ref a :: r))) := by
    intro t t0 E h45 ht htt
    obtain ⟨ha1, ha2⟩ := hI.own (a := a) (by omega) (by omega)
    have hat := (hI.2.1 a ha1 ha2).2
    rw [am_cv_ref ht h45] at hat
    rw [List.map_cons, List.map_cons, List.map_cons, am_vm_own ha1]
    refine va_WaastN (C := E) hx hb hat ((hC.1.2 t0 _ htt).1 (M.1 a).2 (fun j => va_rf ((M.2.2.2.1 a j).map (am_ro base)))) (fun h => by cases h) (by show ¬ (j < 0 ∨ (arrV _ _ _).slots.size ≤ _); rw [arrV_size]; exact hin) rfl rfl hdg fun H1 e1 z1 oq => ?_
    exact k H1 _ lsr (am_q_aastEnd hI (w := none) (fun q h => by cases h) ha1 ha2 ht h45 (i := j.toNatClampNeg) (by exact e1) z1 oq) hlv
  have ht' : (M.1 a).1 = 24 ∨ (M.1 a).1 = 25 := by simpa using ht
  rcases ht' with ht | ht
  · exact fin (t0 := 4) (Or.inl rfl) ht rfl
  · exact fin (t0 := 5) (Or.inr rfl) ht rfl
end SIM4
