/-! THE SIMULATION, part five: new cells, constants, statics, instanceof -/
def am_newchk (q : (Nat × Nat) × Nat × Nat × Nat × Nat × Nat) : Bool :=
  decide (1 ≤ q.2.1) && decide (q.2.1 ≤ 13) && decide ((am_cl q.2.1).2.2 = q.2.2.1) && decide (lw_tbl[q.2.2.2.1]? = some (.classLink (am_on q.1.1) q.1.2 (am_cl q.2.1).1)) && decide (lw_tbl[q.2.2.2.2.1]? = some (.instantiable (am_cl q.2.1).1 q.2.2.1)) && decide (lw_tbl[q.2.2.2.2.2]? = some (.initialized (am_cl q.2.1).1))
theorem am_new_ok : am_newL.all am_newchk = true := by decide +kernel
def am_anewchk (q : (Nat × Nat) × Nat × Nat × Nat) : Bool :=
  (decide (q.2.1 = 24) && decide (lw_tbl[q.2.2.1]? = some (.classLink (am_on q.1.1) q.1.2 RX10)) && decide (lw_tbl[q.2.2.2]? = some (.arrayOver (.object RX10)))) ||
  (decide (q.2.1 = 25) && decide (lw_tbl[q.2.2.1]? = some (.classLink (am_on q.1.1) q.1.2 RX9)) && decide (lw_tbl[q.2.2.2]? = some (.arrayOver (.object RX9))))
theorem am_anew_ok : am_anewL.all am_anewchk = true := by decide +kernel
theorem am_arr_ok : lw_tbl[am_arrJ.getD 0 0]? = some (.arrayClass .int) ∧ lw_tbl[am_arrJ.getD 1 0]? = some (.arrayClass .long) ∧ lw_tbl[am_arrJ.getD 2 0]? = some (.arrayClass .byte) ∧ lw_tbl[am_arrJ.getD 3 0]? = some (.arrayClass .boolean) := by decide +kernel
def am_instchk1 (on : String) (T : String) (t : Nat) : Bool := decide (1 ≤ t) && decide (t ≤ 13) && (decide ((am_cl t).1 = T) || decide (Cond.castable (am_cl t).1 T ∈ lw_tbl))
def am_instchk (q : (Nat × Nat) × List Nat × List Nat × Nat) : Bool := match lw_tbl[q.2.2.2]? with
  | some (.classLink on x T) => decide (on = am_on q.1.1) && decide (x = q.1.2) && q.2.1.all (am_instchk1 on T) && q.2.2.1.all (fun t => decide (1 ≤ t) && decide (t ≤ 13))
  | _ => false
theorem am_inst_ok : am_instL.all am_instchk = true := by decide +kernel
def am_ldcchk (q : (Nat × Nat) × Value × Nat) : Bool := match q.2.1 with
  | .int v => decide (lw_tbl[q.2.2]? = some (.constant (am_on q.1.1) q.1.2 v))
  | .ref a => decide (10 ≤ a ∧ a < 25) && decide ((am_str (a - 10)).1 = am_on q.1.1) && decide ((am_str (a - 10)).2.1 = q.1.2)
  | _ => false
theorem am_ldc_ok : am_ldcL.all am_ldcchk = true := by decide +kernel
theorem am_ldw_ok : am_ldwL.all (fun q => decide (lw_tbl[q.2.2]? = some (.constant (am_on q.1.1) q.1.2 q.2.1))) = true := by decide +kernel
theorem am_ld2_ok : am_ld2L.all (fun q => decide (lw_tbl[q.2.2]? = some (.constantLong (am_on q.1.1) q.1.2 q.2.1))) = true := by decide +kernel
def am_gstchk (q : (Nat × Nat) × Nat × Nat) : Bool := match q.2.1 with
  | 0 => decide (lw_tbl[q.2.2]? = some (.fieldLink (am_on q.1.1) q.1.2 "java/lang/String" "COMPACT_STRINGS" "Z"))
  | _ => decide (lw_tbl[q.2.2]? = some (.fieldLink (am_on q.1.1) q.1.2 "jdk/internal/util/Preconditions" "SIOOBE_FORMATTER" "Ljava/util/function/BiFunction;"))
theorem am_gst_ok : am_gstL.all am_gstchk = true := by decide +kernel
def am_sfchk (q : (Nat × Nat) × Nat × Nat) : Bool := decide (lw_tbl[q.2.2]? = some (.fieldLink (am_on q.1.1) q.1.2 "java/lang/String" (if q.2.1 = 0 then "value" else "coder") (if q.2.1 = 0 then "[B" else "B")))
theorem am_sf_ok : am_sfL.all am_sfchk = true := by decide +kernel
theorem am_sf_use (o x : Nat) : ∀ v j, am_lk am_sfL o x = some (v, j) → ∃ ref, ref = "java/lang/String" ∧ Cond.fieldLink (am_on o) x ref (if v = 0 then "value" else "coder") (if v = 0 then "[B" else "B") ∈ lw_tbl := fun v j h =>
  ⟨_, rfl, List.mem_of_getElem? (of_decide_eq_true (List.all_eq_true.mp am_sf_ok _ (am_lk_mem h)))⟩
theorem am_codes : (List.range 14).all (fun t => (List.range (am_cl t).2.2).all (fun k => decide (am_code (am_fty t k) ≠ 9))) = true := by decide +kernel
theorem am_default {ty : FieldType} {base : Nat} (h : am_code ty ≠ 9) : defaultValue ty = am_fe base (am_code ty) 0 0 none := by
  cases ty <;> first | rfl | (simp [am_code] at h)
section SIM5
variable {p : Program} {l : Launch} {e : Env} {R : Room} {s : State} {m : MethodId} {args : Array Value} {below : List Frame} {meth : Method} {c : Code} {base : Nat} {fr : Nat → Value} {cT : Nat → ClassId} {D : va_G} {L : Nat} {xs : Nat → Int32} {Q : State → Prop} {n0 s0 y : Nat}
variable {pc pc' : Nat} {ls ls' : am_Loc} {st st' : List Value} {M M' : am_Mem} {H H1 : Heap} {locs : List Loc} {cells slots : Nat} {lsr : Array Slot} {rest : List Value}
theorem am_Inv.push (hI : am_Inv base cT D L xs s M H locs) {tag len w : Nat} (hsh : am_sh tag) (z : H1.size = H.size + 1) (oq : ∀ q : Nat, q < H.size → H1[q]? = H[q]?) (hat : va_at D vwCl (H.size, am_cv base cT (am_new tag len w M) M.2.2.2.2.1) H1) : am_Inv base cT D L xs s (am_new tag len w M) H1 locs := by
  obtain ⟨h1, h2, h3, h4, h5, h6⟩ := hI
  have tu : ∀ b, b ≠ M.2.2.2.2.1 → (am_new tag len w M).1 b = M.1 b := fun b hb => by simp [am_new, am_tu, hb]
  have ts : (am_new tag len w M).1 M.2.2.2.2.1 = (tag, len) := by simp [am_new, am_tu]
  have hz : am_ro base M.2.2.2.2.1 = H.size := by show base + _ = _; omega
  refine ⟨⟨by show 100 ≤ M.2.2.2.2.1 + 1; omega, by show H1.size = base + (M.2.2.2.2.1 + 1 - 100); omega⟩, fun b hb1 hb2 => ?_, fun b hb => ?_, h4, fun b hb => ?_, ?_⟩
  · by_cases e : b = M.2.2.2.2.1
    · subst e
      rw [ts, hz]
      exact ⟨hsh, hat⟩
    · have hb2 : b < M.2.2.2.2.1 + 1 := hb2
      rw [tu b e, am_cv_congr (M := M) (tu b e) rfl rfl rfl]
      refine ⟨(h2 b hb1 (by omega)).1, (h2 b hb1 (by omega)).2.kept (oq _ ?_)⟩
      show base + (b - 100) < H.size
      omega
  · have hb : M.2.2.2.2.1 + 1 ≤ b := hb
    rw [tu b (by omega)]
    exact h3 b (by omega)
  · rw [tu b (by omega)]
    exact h5 b hb
  · exact ⟨Nat.le_trans h6.1 (by omega), fun q q1 q2 => (oq q (Nat.lt_of_lt_of_le q1 h6.1)).trans (h6.2.1 q q1 q2), h6.2.2⟩
theorem am_q_newa (hF : am_Fx p s m args meth c y) (hC : am_Ctx base fr cT D L xs s) {n : Int32} {t : ArrayType} {r : List Value} {tag ti : Nat} (hdg : decode (am_bc y) pc = .ok (.newarray t, 2)) (hw : Cond.arrayClass (newarray.typeOf t) ∈ lw_tbl) (hti : (am_tys cT)[ti]? = some (cT tag, newarray.typeOf t)) (hty : ∀ cA : ClassId, va_RA s cA (newarray.typeOf t) → s.vm.findClass ("[" ++ (newarray.typeOf t).toString) = some cA) (hcb : componentBytes (newarray.typeOf t) ≤ 8)
    (hsh : am_sh tag) (hn : ¬ (n < 0 ∨ 67108864 < n.toNatClampNeg)) (hn0 : n0 ≤ M.2.2.2.2.1 ∧ s0 ≤ M.2.2.2.2.2) (hroom : M.2.2.2.2.1 + 1 - n0 ≤ R.cells ∧ M.2.2.2.2.2 + n.toNatClampNeg - s0 ≤ R.slots)
    (hcv : ∀ N, (∀ k, M.2.1 M.2.2.2.2.1 k = 0 ∧ M.2.2.1 M.2.2.2.2.1 k = 0 ∧ M.2.2.2.1 M.2.2.2.2.1 k = none) → ∀ H' : Heap, H'[H.size]? = some (arrV (cT tag) N (fun _ => defaultValue (newarray.typeOf t))) → va_at D vwCl (H.size, am_cv base cT (am_new tag N N M) M.2.2.2.2.1) H')
    (k : am_J p l e R s m args below meth c base fr cT D L xs Q n0 s0 y (pc + 2) ls (.ref M.2.2.2.2.1 :: r) (am_new tag n.toNatClampNeg n.toNatClampNeg M)) (hI : am_Inv base cT D L xs s M H locs) (hlv : am_lv base fr lsr (am_mx y) ls) :
    W p l e R s m args below meth c H locs (M.2.2.2.2.1 - n0) (M.2.2.2.2.2 - s0) Q (F0 m pc lsr (List.map (am_vm base fr) (.int n :: r))) := by
  obtain ⟨hx, hb, hml, hown, hts, hin2, hr, hlocks⟩ := id hF
  rw [List.map_cons]
  refine va_newaK hx hb (hts _ (am_in hw)) rfl hdg rfl (fun q => hn (Or.inl q)) rfl (Nat.le_trans (Nat.mul_le_mul_left _ hcb) (by omega)) (by omega) (by omega) rfl fun H1 cA e1 z1 o1 hAr hNm => ?_
  have hcA : cT tag = cA := Option.some.inj ((hty _ (hC.1.2 ti _ hti).2).symm.trans hNm)
  have h2 := k H1 locs lsr (hI.push hsh z1 o1 (hcv _ ((hI.2.2.1 _ (Nat.le_refl _)).2) _ (by rw [hcA]; exact e1))) hlv
  rw [List.map_cons, am_vm_own hI.1.1] at h2
  have e3 : am_ro base M.2.2.2.2.1 = H.size := by have := hI.1; show base + _ = _; omega
  rw [e3] at h2
  have e4 : (am_new tag n.toNatClampNeg n.toNatClampNeg M).2.2.2.2.1 - n0 = M.2.2.2.2.1 - n0 + 1 := by show M.2.2.2.2.1 + 1 - n0 = _; omega
  have e5 : (am_new tag n.toNatClampNeg n.toNatClampNeg M).2.2.2.2.2 - s0 = M.2.2.2.2.2 - s0 + n.toNatClampNeg := by show M.2.2.2.2.2 + n.toNatClampNeg - s0 = _; omega
  rw [e4, e5] at h2
  exact h2
theorem am_cv_new {tag N : Nat} : (am_new tag N N M).1 M.2.2.2.2.1 = (tag, N) := by simp [am_new, am_tu]
theorem am_newi {tag N : Nat} (ht : tag = 20 ∨ tag = 22 ∨ tag = 23) {ty : FieldType} (hd : defaultValue ty = .int 0) (hz : ∀ k, M.2.1 M.2.2.2.2.1 k = 0 ∧ M.2.2.1 M.2.2.2.2.1 k = 0 ∧ M.2.2.2.1 M.2.2.2.2.1 k = none) (h : H1[H.size]? = some (arrV (cT tag) N (fun _ => defaultValue ty))) : va_at D vwCl (H.size, am_cv base cT (am_new tag N N M) M.2.2.2.2.1) H1 := by
  rw [am_cv_int (M := am_new tag N N M) (by rw [am_cv_new]) ht, am_cv_new]
  show H1[H.size]? = some (arrV (cT tag) N (fun j => .int (M.2.1 M.2.2.2.2.1 j)))
  rw [h, hd]
  congr 2
  funext j
  rw [(hz j).1]
theorem am_newl {N : Nat} (hz : ∀ k, M.2.1 M.2.2.2.2.1 k = 0 ∧ M.2.2.1 M.2.2.2.2.1 k = 0 ∧ M.2.2.2.1 M.2.2.2.2.1 k = none) (h : H1[H.size]? = some (arrV (cT 21) N (fun _ => defaultValue .long))) : va_at D vwCl (H.size, am_cv base cT (am_new 21 N N M) M.2.2.2.2.1) H1 := by
  rw [am_cv_long (M := am_new 21 N N M) (by rw [am_cv_new]), am_cv_new]
  show H1[H.size]? = some (arrV (cT 21) N (fun j => .long (M.2.2.1 M.2.2.2.2.1 j)))
  rw [h]
  congr 2
  funext j
  rw [(hz j).2.1]
  rfl
theorem am_newq {tag N : Nat} (ht : tag = 24 ∨ tag = 25) (hz : ∀ k, M.2.1 M.2.2.2.2.1 k = 0 ∧ M.2.2.1 M.2.2.2.2.1 k = 0 ∧ M.2.2.2.1 M.2.2.2.2.1 k = none) (h : H1[H.size]? = some (arrV (cT tag) N (fun _ => .null))) : va_at D vwCl (H.size, am_cv base cT (am_new tag N N M) M.2.2.2.2.1) H1 := by
  rw [am_cv_ref (M := am_new tag N N M) (by rw [am_cv_new]) ht, am_cv_new]
  show H1[H.size]? = some (arrV (cT tag) N (fun j => va_rf ((M.2.2.2.1 M.2.2.2.2.1 j).map (am_ro base))))
  rw [h]
  congr 2
  funext j
  rw [(hz j).2.2]
  rfl
theorem am_q_newarray (hF : am_Fx p s m args meth c y) (hC : am_Ctx base fr cT D L xs s) {t : ArrayType} (hdg : decode (am_bc y) pc = .ok (.newarray t, 2)) (d : Nat) (hn0 : n0 ≤ M.2.2.2.2.1 ∧ s0 ≤ M.2.2.2.2.2) (hroom : M'.2.2.2.2.1 - n0 ≤ R.cells ∧ M'.2.2.2.2.2 - s0 ≤ R.slots)
    (he : am_ex d y (.newarray t) pc ls st M = some (.inl (pc', ls', st', M'))) (k : am_J p l e R s m args below meth c base fr cT D L xs Q n0 s0 y pc' ls' st' M') : am_J p l e R s m args below meth c base fr cT D L xs Q n0 s0 y pc ls st M := by
  obtain ⟨w0, w1, w2, w3⟩ := am_arr_ok
  simp only [am_ex] at he
  split at he
  · split at he
    · cases he
    · rename_i hn
      split at he
      · obtain ⟨rfl, rfl, rfl, rfl⟩ := am_nx_inv he
        intro H locs lsr hI hlv
        exact am_q_newa (ti := 0) (tag := 20) hF hC hdg (List.mem_of_getElem? w0) rfl (fun _ h => h) (by decide) (Or.inr (by decide)) hn hn0 hroom (fun N hz H' h => am_newi (Or.inl rfl) rfl hz h) k hI hlv
      · obtain ⟨rfl, rfl, rfl, rfl⟩ := am_nx_inv he
        intro H locs lsr hI hlv
        exact am_q_newa (ti := 1) (tag := 21) hF hC hdg (List.mem_of_getElem? w1) rfl (fun _ h => h) (by decide) (Or.inr (by decide)) hn hn0 hroom (fun N hz H' h => am_newl hz h) k hI hlv
      · obtain ⟨rfl, rfl, rfl, rfl⟩ := am_nx_inv he
        intro H locs lsr hI hlv
        exact am_q_newa (ti := 2) (tag := 22) hF hC hdg (List.mem_of_getElem? w2) rfl (fun _ h => h) (by decide) (Or.inr (by decide)) hn hn0 hroom (fun N hz H' h => am_newi (Or.inr (Or.inl rfl)) rfl hz h) k hI hlv
      · obtain ⟨rfl, rfl, rfl, rfl⟩ := am_nx_inv he
        intro H locs lsr hI hlv
        exact am_q_newa (ti := 3) (tag := 23) hF hC hdg (List.mem_of_getElem? w3) rfl (fun _ h => h) (by decide) (Or.inr (by decide)) hn hn0 hroom (fun N hz H' h => am_newi (Or.inr (Or.inr rfl)) rfl hz h) k hI hlv
      · cases he
  · cases he
theorem am_q_anew (hF : am_Fx p s m args meth c y) (hC : am_Ctx base fr cT D L xs s) {x : Nat} (hdg : decode (am_bc y) pc = .ok (.anewarray x, 3)) (d : Nat) (hn0 : n0 ≤ M.2.2.2.2.1 ∧ s0 ≤ M.2.2.2.2.2) (hroom : M'.2.2.2.2.1 - n0 ≤ R.cells ∧ M'.2.2.2.2.2 - s0 ≤ R.slots)
    (he : am_ex d y (.anewarray x) pc ls st M = some (.inl (pc', ls', st', M'))) (k : am_J p l e R s m args below meth c base fr cT D L xs Q n0 s0 y pc' ls' st' M') : am_J p l e R s m args below meth c base fr cT D L xs Q n0 s0 y pc ls st M := by
  obtain ⟨hx, hb, hml, hown, hts, hin2, hr, hlocks⟩ := id hF
  simp only [am_ex] at he
  split at he
  · rename_i tag js n r hlk
    split at he
    · cases he
    · rename_i hn
      obtain ⟨rfl, rfl, rfl, rfl⟩ := am_nx_inv he
      intro H locs lsr hI hlv
      have fin : ∀ (ti : Nat) (E : String), (tag = 24 ∨ tag = 25) → (am_tys cT)[ti]? = some (cT tag, .object E) → Cond.classLink (am_on (am_ow y)) x E ∈ lw_tbl → Cond.arrayOver (.object E) ∈ lw_tbl →
          W p l e R s m args below meth c H locs (M.2.2.2.2.1 - n0) (M.2.2.2.2.2 - s0) Q (F0 m pc lsr (List.map (am_vm base fr) (.int n :: r))) := by
        intro ti E ht hti hcl hov
        rw [List.map_cons]
        have hroom1 : M.2.2.2.2.1 + 1 - n0 ≤ R.cells := hroom.1
        have hroom2 : M.2.2.2.2.2 + n.toNatClampNeg - s0 ≤ R.slots := hroom.2
        refine W.anew hx hb hown (hts _ (am_in hcl)) (va_AO.use (hC.2.2.2.2.2.2.2.2.2.1 _ hov)) rfl hdg rfl (fun q => hn (Or.inl q)) (by omega) (by omega) (by omega) fun cA kA comp f1 f2 f3 f4 => ?_
        obtain ⟨kA0, comp0, g1, g2, g3, g4⟩ := (hC.1.2 ti _ hti).2
        have hcA : cT tag = cA := Option.some.inj (g4.symm.trans f1)
        have h2 := k (H.push { cls := cA, slots := Array.replicate n.toNatClampNeg .null, vm := .none }) locs lsr (hI.push (by rcases ht with rfl | rfl <;> exact Or.inr (by decide)) (by rw [Array.size_push]) (fun q hq => by rw [Array.getElem?_push, if_neg (Nat.ne_of_lt hq)])
          (am_newq ht ((hI.2.2.1 _ (Nat.le_refl _)).2) (by rw [hcA, Array.getElem?_push_size, ← arrV_new]))) hlv
        rw [List.map_cons, am_vm_own hI.1.1] at h2
        have e3 : am_ro base M.2.2.2.2.1 = H.size := by have := hI.1; show base + _ = _; omega
        rw [e3] at h2
        have e4 : (am_new tag n.toNatClampNeg n.toNatClampNeg M).2.2.2.2.1 - n0 = M.2.2.2.2.1 - n0 + 1 := by show M.2.2.2.2.1 + 1 - n0 = _; omega
        have e5 : (am_new tag n.toNatClampNeg n.toNatClampNeg M).2.2.2.2.2 - s0 = M.2.2.2.2.2 - s0 + n.toNatClampNeg := by show M.2.2.2.2.2 + n.toNatClampNeg - s0 = _; omega
        rw [e4, e5] at h2
        exact h2
      have hck := List.all_eq_true.mp am_anew_ok _ (am_lk_mem hlk)
      unfold am_anewchk at hck
      simp only [Bool.or_eq_true, Bool.and_eq_true, decide_eq_true_eq] at hck
      rcases hck with ⟨⟨q1, q2⟩, q3⟩ | ⟨⟨q1, q2⟩, q3⟩
      · exact fin 4 RX10 (Or.inl q1) (by rw [q1]; rfl) (List.mem_of_getElem? q2) (List.mem_of_getElem? q3)
      · exact fin 5 RX9 (Or.inr q1) (by rw [q1]; rfl) (List.mem_of_getElem? q2) (List.mem_of_getElem? q3)
  · cases he
theorem am_q_new (hF : am_Fx p s m args meth c y) (hC : am_Ctx base fr cT D L xs s) {x : Nat} (hdg : decode (am_bc y) pc = .ok (.new x, 3)) (d : Nat) (hn0 : n0 ≤ M.2.2.2.2.1 ∧ s0 ≤ M.2.2.2.2.2) (hroom : M'.2.2.2.2.1 - n0 ≤ R.cells ∧ M'.2.2.2.2.2 - s0 ≤ R.slots)
    (he : am_ex d y (.new x) pc ls st M = some (.inl (pc', ls', st', M'))) (k : am_J p l e R s m args below meth c base fr cT D L xs Q n0 s0 y pc' ls' st' M') : am_J p l e R s m args below meth c base fr cT D L xs Q n0 s0 y pc ls st M := by
  obtain ⟨hx, hb, hml, hown, hts, hin2, hr, hlocks⟩ := id hF
  simp only [am_ex] at he
  split at he
  · rename_i tag n js hlk
    obtain ⟨rfl, rfl, rfl, rfl⟩ := am_nx_inv he
    intro H locs lsr hI hlv
    obtain ⟨j1, j2, j3⟩ := js
    have hck := List.all_eq_true.mp am_new_ok _ (am_lk_mem hlk)
    unfold am_newchk at hck
    simp only [Bool.and_eq_true, decide_eq_true_eq] at hck
    obtain ⟨⟨⟨⟨⟨q1, q2⟩, q3⟩, q4⟩, q5⟩, q6⟩ := hck
    subst q3
    obtain ⟨hc, hin, hty, hnm⟩ := am_cl_ok tag ⟨q1, q2⟩
    have hKn := hC.1.1 (tag - 1) _ hc
    have hroom1 : M.2.2.2.2.1 + 1 - n0 ≤ R.cells := hroom.1
    have hroom2 : M.2.2.2.2.2 + (am_cl tag).2.2 - s0 ≤ R.slots := hroom.2
    refine W.newcK hx hb hown (hts _ (am_in (List.mem_of_getElem? q4))) (hts _ (am_in (List.mem_of_getElem? q5))) (hts _ (am_in (List.mem_of_getElem? q6))) rfl hdg (by omega) (by omega) hKn.2.1 rfl fun H1 kC hkC e1 z1 o1 => ?_
    have hz := (hI.2.2.1 _ (Nat.le_refl _)).2
    have e2 : (am_new tag 0 (am_cl tag).2.2 M).1 M.2.2.2.2.1 = (tag, 0) := by simp [am_new, am_tu]
    have hat : va_at D vwCl (H.size, am_cv base cT (am_new tag 0 (am_cl tag).2.2 M) M.2.2.2.2.1) H1 := by
      rw [am_cv_obj (by rw [e2]; show tag < 20; omega), e2]
      refine ⟨_, hc, (u_born (am_fty tag) hts hin hKn hkC e1 hty).to (fun j hj => ?_)⟩
      show defaultValue (am_fty tag j) = (am_fs base (am_new tag 0 (am_cl tag).2.2 M) tag M.2.2.2.2.1).getD j .null
      rw [List.getD_eq_getElem?_getD, am_fs_at hj]
      have hc9 : am_code (am_fty tag j) ≠ 9 := of_decide_eq_true (List.all_eq_true.mp (List.all_eq_true.mp am_codes tag (List.mem_range.mpr (by omega))) j (List.mem_range.mpr hj))
      rw [am_default (base := base) hc9]
      show _ = am_fe base (am_code (am_fty tag j)) (M.2.1 M.2.2.2.2.1 j) (M.2.2.1 M.2.2.2.2.1 j) (M.2.2.2.1 M.2.2.2.2.1 j)
      rw [(hz j).1, (hz j).2.1, (hz j).2.2]
    have h2 := k H1 locs lsr (hI.push (Or.inl ⟨q1, q2⟩) z1 o1 hat) hlv
    rw [List.map_cons, am_vm_own hI.1.1] at h2
    have e3 : am_ro base M.2.2.2.2.1 = H.size := by have := hI.1; show base + _ = _; omega
    rw [e3] at h2
    have e4 : (am_new tag 0 (am_cl tag).2.2 M).2.2.2.2.1 - n0 = M.2.2.2.2.1 - n0 + 1 := by show M.2.2.2.2.1 + 1 - n0 = _; omega
    have e5 : (am_new tag 0 (am_cl tag).2.2 M).2.2.2.2.2 - s0 = M.2.2.2.2.2 - s0 + (am_cl tag).2.2 := by show M.2.2.2.2.2 + (am_cl tag).2.2 - s0 = _; omega
    rw [e4, e5] at h2
    exact h2
  · cases he
theorem am_q_len (hF : am_Fx p s m args meth c y) (hC : am_Ctx base fr cT D L xs s) {a : Nat} {r : List Value} (hdg : decode (am_bc y) pc = .ok (.arraylength, 1)) (ha : [20, 21, 22, 23, 24, 25, 30, 32].contains (M.1 a).1 = true) (k : am_J p l e R s m args below meth c base fr cT D L xs Q n0 s0 y (pc + 1) ls (.int (Int32.ofNat (M.1 a).2) :: r) M) :
    am_J p l e R s m args below meth c base fr cT D L xs Q n0 s0 y pc ls (.ref a :: r) M := by
  obtain ⟨hx, hb, hml, hown, hts, hin2, hr, hlocks⟩ := id hF
  intro H locs lsr hI hlv
  have h2 := k H locs lsr hI hlv
  rw [List.map_cons]
  have ht := List.contains_iff_mem.mp ha
  have ht' : (M.1 a).1 = 20 ∨ (M.1 a).1 = 21 ∨ (M.1 a).1 = 22 ∨ (M.1 a).1 = 23 ∨ (M.1 a).1 = 24 ∨ (M.1 a).1 = 25 ∨ (M.1 a).1 = 30 ∨ (M.1 a).1 = 32 := by simpa using ht
  have own : (M.1 a).1 < 30 → (M.1 a).1 ≠ 0 → ∀ {cA : ClassId} {v : vp_A} {t0 : Nat} {ty : FieldType}, am_cv base cT M a = .inl (cA, v) → v.1 = (M.1 a).2 → (am_tys cT)[t0]? = some (cA, ty) →
      W p l e R s m args below meth c H locs (M.2.2.2.2.1 - n0) (M.2.2.2.2.2 - s0) Q (F0 m pc lsr (am_vm base fr (.ref a) :: List.map (am_vm base fr) r)) := by
    intro h30 h0 cA v t0 ty hcv hv1 htt
    obtain ⟨ha1, ha2⟩ := hI.own (a := a) h0 h30
    have hat := (hI.2.1 a ha1 ha2).2
    rw [hcv] at hat
    rw [am_vm_own ha1]
    exact va_alen hx hb hC.1 (am_one hat) 0 t0 rfl htt (by rw [hv1]) hdg h2
  rcases ht' with ht | ht | ht | ht | ht | ht | ht | ht
  · exact own (by omega) (by omega) (am_cv_int ht (Or.inl rfl)) rfl (t0 := 0) rfl
  · exact own (by omega) (by omega) (am_cv_long ht) rfl (t0 := 1) rfl
  · exact own (by omega) (by omega) (am_cv_int ht (Or.inr (Or.inl rfl))) rfl (t0 := 2) rfl
  · exact own (by omega) (by omega) (am_cv_int ht (Or.inr (Or.inr rfl))) rfl (t0 := 3) rfl
  · exact own (by omega) (by omega) (am_cv_ref ht (Or.inl rfl)) rfl (t0 := 4) rfl
  · exact own (by omega) (by omega) (am_cv_ref ht (Or.inr rfl)) rfl (t0 := 5) rfl
  · obtain ⟨hlt, hT⟩ := hI.old (a := a) (by omega)
    have h0 := am_T0_30 L a (by rw [← hT]; exact ht)
    subst h0
    obtain ⟨b, f1, f2, f3⟩ := hC.2.2.1
    have e1 : am_vm base fr (.ref 0) = .ref b := f1
    rw [e1]
    have e2 : (M.1 0).2 = L := by rw [hT]; rfl
    rw [e2] at h2
    exact va_slen hx hb f3 (Nat.lt_of_lt_of_le f2 hC.2.1) (Nat.not_le.mpr f2) hI.2.2.2.2.2 hdg h2
  · obtain ⟨hlt, hT⟩ := hI.old (a := a) (by omega)
    have hra := am_T0_32 L a (by rw [← hT]; exact ht)
    obtain ⟨aK, aV, f1, f2, -, f3, f4, f5, f6⟩ := hC.2.2.2.1 (a - 30) (by omega)
    have e1 : am_vm base fr (.ref a) = .ref aV := by
      show (if a < 100 then fr a else _) = _
      rw [if_pos hlt, ← f2]
      congr 1; omega
    rw [e1]
    have eT : am_T0 L a = (32, (am_str (a - 30)).2.2.2.2.length) := by
      unfold am_T0
      rw [if_neg (by omega), if_neg (by omega), if_pos hra]
    rw [hT, eT] at h2
    exact va_tlen hx hb f6 hI.2.2.2.2.2 rfl hdg h2
theorem am_q_inst (hF : am_Fx p s m args meth c y) (hC : am_Ctx base fr cT D L xs s) {x : Nat} (hdg : decode (am_bc y) pc = .ok (.instanceof x, 3)) (d : Nat)
    (he : am_ex d y (.instanceof x) pc ls st M = some (.inl (pc', ls', st', M'))) (k : am_J p l e R s m args below meth c base fr cT D L xs Q n0 s0 y pc' ls' st' M') : am_J p l e R s m args below meth c base fr cT D L xs Q n0 s0 y pc ls st M := by
  obtain ⟨hx, hb, hml, hown, hts, hin2, hr, hlocks⟩ := id hF
  simp only [am_ex] at he
  split at he
  · rename_i ys ns j a r hlk
    have hck := List.all_eq_true.mp am_inst_ok _ (am_lk_mem hlk)
    unfold am_instchk at hck
    dsimp only at hck
    cases hw : lw_tbl[j]? with
    | none => rw [hw] at hck; cases hck
    | some w =>
      rw [hw] at hck
      cases w <;> try (cases hck; done)
      rename_i on x' T
      simp only [Bool.and_eq_true, decide_eq_true_eq] at hck
      obtain ⟨⟨⟨rfl, rfl⟩, h3⟩, h4⟩ := hck
      split at he
      · rename_i ht
        obtain ⟨rfl, rfl, rfl, rfl⟩ := am_nx_inv he
        intro H locs lsr hI hlv
        have h2 := k H locs lsr hI hlv
        have h5 := List.all_eq_true.mp h3 _ (List.contains_iff_mem.mp ht)
        unfold am_instchk1 at h5
        simp only [Bool.and_eq_true, Bool.or_eq_true, decide_eq_true_eq] at h5
        obtain ⟨⟨g1, g2⟩, g3⟩ := h5
        obtain ⟨hc, -, -, -⟩ := am_cl_ok _ ⟨g1, g2⟩
        obtain ⟨ha1, ha2⟩ := hI.own (a := a) (by omega) (by omega)
        have hat := (hI.2.1 a ha1 ha2).2
        rw [am_cv_obj (by omega)] at hat
        rw [List.map_cons, am_vm_own ha1]
        have hrv := va_recv hC.1 (am_one hat) hc (q0 := 0) rfl
        rcases g3 with g | g
        · rw [g] at hrv
          exact va_instE hx hb hown (hts _ (am_in (List.mem_of_getElem? hw))) hrv hdg h2
        · exact va_instY hx hb hown (hts _ (am_in (List.mem_of_getElem? hw))) (hC.2.2.2.2.2.2.2.2.1 _ _ g) hrv hdg h2
      · split at he
        · rename_i ht
          obtain ⟨rfl, rfl, rfl, rfl⟩ := am_nx_inv he
          intro H locs lsr hI hlv
          have h2 := k H locs lsr hI hlv
          have htm := List.contains_iff_mem.mp ht
          have h5 := List.all_eq_true.mp h4 _ htm
          simp only [Bool.and_eq_true, decide_eq_true_eq] at h5
          obtain ⟨g1, g2⟩ := h5
          obtain ⟨hc, -, -, -⟩ := am_cl_ok _ ⟨g1, g2⟩
          obtain ⟨ha1, ha2⟩ := hI.own (a := a) (by omega) (by omega)
          have hat := (hI.2.1 a ha1 ha2).2
          rw [am_cv_obj (by omega)] at hat
          rw [List.map_cons, am_vm_own ha1]
          have hrv := va_recv hC.1 (am_one hat) hc (q0 := 0) rfl
          exact va_instNo hx hb hown (hts _ (am_in (List.mem_of_getElem? hw))) (hC.2.2.2.2.2.2.2.1 _ _ _ _ _ hlk _ htm _ rfl T hw) hrv hdg h2
        · cases he
  · obtain ⟨rfl, rfl, rfl, rfl⟩ := am_nx_inv he
    intro H locs lsr hI hlv
    exact lv_instN hx hb hdg (k H locs lsr hI hlv)
  · cases he
theorem am_q_ldc (hF : am_Fx p s m args meth c y) (hC : am_Ctx base fr cT D L xs s) {x : Nat} (hdg : decode (am_bc y) pc = .ok (.ldc x, 2)) (d : Nat)
    (he : am_ex d y (.ldc x) pc ls st M = some (.inl (pc', ls', st', M'))) (k : am_J p l e R s m args below meth c base fr cT D L xs Q n0 s0 y pc' ls' st' M') : am_J p l e R s m args below meth c base fr cT D L xs Q n0 s0 y pc ls st M := by
  obtain ⟨hx, hb, hml, hown, hts, hin2, hr, hlocks⟩ := id hF
  simp only [am_ex] at he
  split at he
  · rename_i v j hlk
    obtain ⟨rfl, rfl, rfl, rfl⟩ := am_nx_inv he
    intro H locs lsr hI hlv
    have h2 := k H locs lsr hI hlv
    have hck := List.all_eq_true.mp am_ldc_ok _ (am_lk_mem hlk)
    unfold am_ldcchk at hck
    cases v with
    | int n =>
      exact lv_ldc hx hb hown (hts _ (am_in (List.mem_of_getElem? (of_decide_eq_true hck)))) hdg h2
    | ref a =>
      simp only [Bool.and_eq_true, decide_eq_true_eq] at hck
      obtain ⟨⟨q1, q2⟩, q3⟩ := hck
      have q1 : 10 ≤ a ∧ a < 25 := q1
      obtain ⟨aK, aV, f1, f2, f0, f3, f4, f5, f6⟩ := hC.2.2.2.1 (a - 10) (by have := q1.2; exact Nat.lt_of_lt_of_le (Nat.sub_lt_sub_right q1.1 q1.2) (by decide))
      have e1 : am_vm base fr (.ref a) = .ref aK := by
        show (if a < 100 then fr a else _) = _
        rw [if_pos (Nat.lt_of_lt_of_le q1.2 (by decide)), ← f1]
        exact congrArg fr (Nat.add_sub_cancel' q1.1).symm
      rw [List.map_cons, e1] at h2
      rw [q2, q3] at f0
      exact va_ldcS hx hb hown f0 hdg h2
    | _ => cases hck
  · cases he
theorem am_q_gst (hF : am_Fx p s m args meth c y) (hC : am_Ctx base fr cT D L xs s) {x : Nat} (hdg : decode (am_bc y) pc = .ok (.getstatic x, 3)) (d : Nat)
    (he : am_ex d y (.getstatic x) pc ls st M = some (.inl (pc', ls', st', M'))) (k : am_J p l e R s m args below meth c base fr cT D L xs Q n0 s0 y pc' ls' st' M') : am_J p l e R s m args below meth c base fr cT D L xs Q n0 s0 y pc ls st M := by
  obtain ⟨hx, hb, hml, hown, hts, hin2, hr, hlocks⟩ := id hF
  simp only [am_ex] at he
  split at he
  · rename_i j hlk
    obtain ⟨rfl, rfl, rfl, rfl⟩ := am_nx_inv he
    intro H locs lsr hI hlv
    have h2 := k H locs lsr hI hlv
    have hck := of_decide_eq_true (List.all_eq_true.mp am_gst_ok _ (am_lk_mem hlk))
    exact va_gets hx hb hC.2.2.2.2.1 hI.2.2.2.2.2 hown (hts _ (am_in (List.mem_of_getElem? hck))) (fun _ h => h) hdg h2
  · rename_i n j hlk
    obtain ⟨rfl, rfl, rfl, rfl⟩ := am_nx_inv he
    intro H locs lsr hI hlv
    have h2 := k H locs lsr hI hlv
    have hck := of_decide_eq_true (List.all_eq_true.mp am_gst_ok _ (am_lk_mem hlk))
    exact va_gets hx hb hC.2.2.2.2.2.1 hI.2.2.2.2.2 hown (hts _ (am_in (List.mem_of_getElem? hck))) (fun _ h => h) hdg h2
  · cases he
end SIM5
