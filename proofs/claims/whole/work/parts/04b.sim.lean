/-! THE SIMULATION, part two: fields and arrays -/
theorem am_lk_mem {α : Type} {l : List ((Nat × Nat) × α)} {o x : Nat} {v : α} (h : am_lk l o x = some v) : ((o, x), v) ∈ l := by
  unfold am_lk at h
  cases hf : l.find? (fun q => q.1.1 == o && q.1.2 == x) with
  | none => rw [hf] at h; cases h
  | some q =>
    rw [hf] at h
    cases h
    have h1 := List.find?_some hf
    have h2 := List.mem_of_find?_eq_some hf
    simp only [Bool.and_eq_true, beq_iff_eq] at h1
    obtain ⟨⟨q1, q2⟩, q3⟩ := q
    obtain ⟨rfl, rfl⟩ := h1
    exact h2
theorem am_vm_v {base : Nat} {fr : Nat → Value} {r : Option Nat} (h : ∀ j, r = some j → 100 ≤ j) : am_vm base fr (am_v r) = va_rf (r.map (am_ro base)) := by
  cases r with
  | none => rfl
  | some j =>
    have := h j rfl
    show (if j < 100 then fr j else Value.ref (base + (j - 100))) = _
    rw [if_neg (by omega)]
    rfl
theorem am_lay {C : String} {T : u_T} {N : Nat} (h : ∀ w ∈ u_ws C T N, w ∈ lw_tbl) : ∀ w ∈ u_ws C T N, w ∈ am_tb := by
  intro w hw
  refine am_in (h w hw) ?_
  unfold u_ws at hw
  obtain ⟨k, -, rfl⟩ := List.mem_map.mp hw
  unfold u_lay
  split <;> rfl
theorem am_cl_ok (t : Nat) (h : 1 ≤ t ∧ t ≤ 13) : vwCl[t - 1]? = some (am_cl t) ∧ (∀ w ∈ u_ws (am_cl t).1 (am_cl t).2.1 (am_cl t).2.2, w ∈ am_tb) ∧ (∀ k, k < (am_cl t).2.2 → parseFieldDescriptor ((am_cl t).2.1 k).2.2.1 = some (am_fty t k)) ∧ (∀ a, a < (am_cl t).2.2 → ∀ b, b < (am_cl t).2.2 → a ≠ b → ((am_cl t).2.1 a).2.1 ≠ ((am_cl t).2.1 b).2.1) := by
  have h13 : t = 1 ∨ t = 2 ∨ t = 3 ∨ t = 4 ∨ t = 5 ∨ t = 6 ∨ t = 7 ∨ t = 8 ∨ t = 9 ∨ t = 10 ∨ t = 11 ∨ t = 12 ∨ t = 13 := by omega
  rcases h13 with rfl | rfl | rfl | rfl | rfl | rfl | rfl | rfl | rfl | rfl | rfl | rfl | rfl
  · exact ⟨rfl, am_lay am_in0, tyX0_ok, nmX0⟩
  · exact ⟨rfl, am_lay am_in1, tyX1_ok, nmX1⟩
  · exact ⟨rfl, am_lay am_in2, tyX2_ok, nmX2⟩
  · exact ⟨rfl, am_lay am_in3, tyX3_ok, nmX3⟩
  · exact ⟨rfl, am_lay am_in4, tyX4_ok, nmX4⟩
  · exact ⟨rfl, am_lay am_in5, tyX5_ok, nmX5⟩
  · exact ⟨rfl, am_lay am_in6, tyX6_ok, nmX6⟩
  · exact ⟨rfl, am_lay am_in7, tyX7_ok, nmX7⟩
  · exact ⟨rfl, am_lay am_in8, tyX8_ok, nmX8⟩
  · exact ⟨rfl, am_lay am_in9, tyX9_ok, nmX9⟩
  · exact ⟨rfl, am_lay am_in10, tyX10_ok, nmX10⟩
  · exact ⟨rfl, am_lay am_in11, tyX11_ok, nmX11⟩
  · exact ⟨rfl, am_lay am_in12, tyX12_ok, nmX12⟩
def am_fchk1 (o : Nat) (ref nm ds : String) (k code fin : Nat) (t : Nat) : Bool :=
  decide (1 ≤ t) && decide (t ≤ 13) && decide (k < (am_cl t).2.2) && decide (((am_cl t).2.1 k).2.1 = nm) && decide (((am_cl t).2.1 k).2.2.1 = ds) && decide (((am_cl t).2.1 k).2.2.2 = !decide (fin = 0)) &&
  (decide (((am_cl t).2.1 k).1 = ref) || decide (Cond.sameField ref ((am_cl t).2.1 k).1 nm ds ∈ lw_tbl)) && decide (am_code (am_fty t k) = code) && (!decide (fin = 1) || decide (((am_cl t).2.1 k).1 = am_on o))
def am_fchk (q : (Nat × Nat) × Nat × Nat × Nat × List Nat × Nat) : Bool := match lw_tbl[q.2.2.2.2.2]? with
  | some (.fieldLink on x ref nm ds) => decide (on = am_on q.1.1) && decide (x = q.1.2) && q.2.2.2.2.1.all (am_fchk1 q.1.1 ref nm ds q.2.1 q.2.2.1 q.2.2.2.1)
  | _ => false
theorem am_fld_ok : am_fldL.all am_fchk = true := by decide +kernel
/-- what the table of fields says -/
theorem am_fld_use {o x k code fin : Nat} {tags : List Nat} {j t : Nat} (h : am_lk am_fldL o x = some (k, code, fin, tags, j)) (ht : t ∈ tags) :
    ∃ ref : String, (1 ≤ t ∧ t ≤ 13) ∧ k < (am_cl t).2.2 ∧ Cond.fieldLink (am_on o) x ref ((am_cl t).2.1 k).2.1 ((am_cl t).2.1 k).2.2.1 ∈ lw_tbl ∧ ((am_cl t).2.1 k).2.2.2 = (!decide (fin = 0)) ∧ (((am_cl t).2.1 k).1 = ref ∨ Cond.sameField ref ((am_cl t).2.1 k).1 ((am_cl t).2.1 k).2.1 ((am_cl t).2.1 k).2.2.1 ∈ lw_tbl) ∧ am_code (am_fty t k) = code ∧ (fin = 1 → ((am_cl t).2.1 k).1 = am_on o) := by
  have h1 := List.all_eq_true.mp am_fld_ok _ (am_lk_mem h)
  unfold am_fchk at h1
  dsimp only at h1
  cases hw : lw_tbl[j]? with
  | none => rw [hw] at h1; cases h1
  | some w =>
    rw [hw] at h1
    cases w <;> try (cases h1; done)
    rename_i on x' ref nm ds
    simp only [Bool.and_eq_true, decide_eq_true_eq] at h1
    obtain ⟨⟨rfl, rfl⟩, h3⟩ := h1
    have h4 := List.all_eq_true.mp h3 t ht
    unfold am_fchk1 at h4
    simp only [Bool.and_eq_true, Bool.or_eq_true, decide_eq_true_eq, Bool.not_eq_true', decide_eq_false_iff_not] at h4
    obtain ⟨⟨⟨⟨⟨⟨⟨⟨a1, a2⟩, a3⟩, a4⟩, a5⟩, a6⟩, a7⟩, a8⟩, a9⟩ := h4
    subst a4 a5
    refine ⟨ref, ⟨a1, a2⟩, a3, List.mem_of_getElem? hw, a6, a7, a8, fun z => ?_⟩
    rcases a9 with q | q
    · exact absurd z q
    · exact q
theorem am_row_self {α : Type} (f : Nat → Nat → α) (a k : Nat) (x : α) : am_u f a k x a = fun j => if j = k then x else f a j := by
  funext j
  by_cases h : j = k <;> simp [am_u, h]
theorem am_row_ne {α : Type} (f : Nat → Nat → α) {a b : Nat} (k : Nat) (x : α) (h : b ≠ a) : am_u f a k x b = f b := by
  funext j
  simp [am_u, h]
theorem am_cv_congr {base : Nat} {cT : Nat → ClassId} {M M' : am_Mem} {b : Nat} (h1 : M'.1 b = M.1 b) (h2 : M'.2.1 b = M.2.1 b) (h3 : M'.2.2.1 b = M.2.2.1 b) (h4 : M'.2.2.2.1 b = M.2.2.2.1 b) : am_cv base cT M' b = am_cv base cT M b := by
  have e : ∀ t, am_fs base M' t b = am_fs base M t b := fun t => by
    unfold am_fs
    refine List.map_congr_left (fun k _ => ?_)
    unfold am_ent
    rw [h2, h3, h4]
  unfold am_cv
  rw [h1, h2, h3, h4, e]
section INV
variable {base : Nat} {cT : Nat → ClassId} {D : va_G} {L : Nat} {xs : Nat → Int32} {s : State} {M M' : am_Mem} {H H1 : Heap} {locs : List Loc} {a : Nat}
theorem am_Inv.own (h : am_Inv base cT D L xs s M H locs) (h0 : (M.1 a).1 ≠ 0) (h30 : (M.1 a).1 < 30) : 100 ≤ a ∧ a < M.2.2.2.2.1 := by
  obtain ⟨-, -, h3, -, h5, -⟩ := h
  constructor
  · rcases Nat.lt_or_ge a 100 with q | q
    · have e := (h5 a q).1
      rw [e] at h0 h30
      unfold am_T0 at h0 h30
      split at h0
      · rename_i z; simp [z] at h30
      · rename_i z
        split at h0
        · rename_i z2; simp [z, z2] at h30
        · rename_i z2
          split at h0
          · rename_i z3; simp [z, z2, z3] at h30
          · exact absurd rfl h0
    · exact q
  · rcases Nat.lt_or_ge a M.2.2.2.2.1 with q | q
    · exact q
    · exact absurd (by rw [(h3 a q).1]) h0
theorem am_Inv.upd (h : am_Inv base cT D L xs s M H locs) (ha : 100 ≤ a) (hl : a < M.2.2.2.2.1) (hT : M'.1 = M.1) (hn : M'.2.2.2.2 = M.2.2.2.2) (hI : ∀ b, b ≠ a → M'.2.1 b = M.2.1 b) (hL : ∀ b, b ≠ a → M'.2.2.1 b = M.2.2.1 b) (hR : ∀ b, b ≠ a → M'.2.2.2.1 b = M.2.2.2.1 b) (hr : ∀ k j, M'.2.2.2.1 a k = some j → 100 ≤ j)
    (z : H1.size = H.size) (oq : ∀ q : Nat, q ≠ am_ro base a → H1[q]? = H[q]?) (hat : va_at D vwCl (am_ro base a, am_cv base cT M' a) H1) {locs' : List Loc} (hlo : ∀ q ∈ locs', q ∈ locs ∨ base ≤ q.base) : am_Inv base cT D L xs s M' H1 locs' := by
  obtain ⟨h1, h2, h3, h4, h5, h6⟩ := h
  have hne : ∀ b, M.2.2.2.2.1 ≤ b ∨ b < 100 → b ≠ a := fun b hb e => by omega
  refine ⟨by rw [hn, z]; exact h1, fun b hb1 hb2 => ?_, fun b hb => ?_, fun b k j hj => ?_, fun b hb => ?_, ?_⟩
  · rw [hn] at hb2
    rw [hT]
    refine ⟨(h2 b hb1 hb2).1, ?_⟩
    by_cases e : b = a
    · subst e; exact hat
    · rw [am_cv_congr (M := M) (by rw [hT]) (hI b e) (hL b e) (hR b e)]
      refine (h2 b hb1 hb2).2.kept (oq _ ?_)
      show base + (b - 100) ≠ base + (a - 100)
      omega
  · rw [hn] at hb
    have e := hne b (Or.inl hb)
    rw [hT]
    exact ⟨(h3 b hb).1, fun k => by rw [hI b e, hL b e, hR b e]; exact (h3 b hb).2 k⟩
  · by_cases e : b = a
    · subst e; exact hr k j hj
    · rw [hR b e] at hj; exact h4 b k j hj
  · have e := hne b (Or.inr hb)
    rw [hT]
    exact ⟨(h5 b hb).1, fun k => by rw [hI b e]; exact (h5 b hb).2 k⟩
  · refine ⟨by rw [z]; exact h6.1, fun q q1 q2 => ?_, fun q hq => ?_⟩
    · rw [oq q (fun e => q2 (by rw [e]; show base ≤ base + (a - 100); omega))]
      exact h6.2.1 q q1 q2
    · rcases hlo q hq with g | g
      · exact h6.2.2 q g
      · exact g
theorem am_cv_obj (h : (M.1 a).1 < 20) : am_cv base cT M a = .inr ((M.1 a).1 - 1, am_fs base M (M.1 a).1 a) := by
  unfold am_cv; rw [if_pos h]
theorem am_cv_int {t : Nat} (e : (M.1 a).1 = t) (h : t = 20 ∨ t = 22 ∨ t = 23) : am_cv base cT M a = .inl (cT t, (M.1 a).2, .inl (M.2.1 a)) := by
  unfold am_cv; rw [e]; rw [if_neg (by omega), if_neg (by omega), if_neg (by omega)]
theorem am_cv_long (e : (M.1 a).1 = 21) : am_cv base cT M a = .inl (cT 21, (M.1 a).2, .inr (.inl (M.2.2.1 a))) := by
  unfold am_cv; rw [e]; rfl
theorem am_cv_ref {t : Nat} (e : (M.1 a).1 = t) (h : t = 24 ∨ t = 25) : am_cv base cT M a = .inl (cT t, (M.1 a).2, .inr (.inr (.inr (.inr (fun k => (M.2.2.2.1 a k).map (am_ro base)))))) := by
  unfold am_cv; rw [e]; rw [if_neg (by omega), if_neg (by omega), if_pos h]
theorem am_fs_at {t k : Nat} (hk : k < (am_cl t).2.2) : (am_fs base M t a)[k]? = some (am_ent base M t a k) := by
  unfold am_fs
  rw [List.getElem?_map, List.getElem?_range hk]
  rfl
theorem am_fs_len {t : Nat} : (am_fs base M t a).length = (am_cl t).2.2 := by
  unfold am_fs
  rw [List.length_map, List.length_range]
theorem am_one {D : va_G} {cl : List vw_C} {q : Nat × va_E} {H : Heap} (h : va_at D cl q H) : va_P D cl [q] H := by
  intro k z hk
  have hz : k < 1 := (List.getElem?_eq_some_iff.mp hk).1
  rw [show k = 0 by omega] at hk
  cases hk
  exact h
theorem am_ix_in {j : Int32} {n : Nat} (h : am_ix j n = true) : vp_in j n := by
  unfold am_ix at h
  simp only [Bool.and_eq_true, Bool.not_eq_true', decide_eq_false_iff_not, decide_eq_true_eq] at h
  intro q
  rcases q with q | q
  · exact h.1 q
  · omega
end INV
theorem am_T0_31 (L a : Nat) (h : (am_T0 L a).1 = 31) : 10 ≤ a ∧ a < 25 := by
  unfold am_T0 at h
  split at h
  · cases h
  · split at h
    · assumption
    · split at h <;> cases h
theorem am_T0_30 (L a : Nat) (h : (am_T0 L a).1 = 30) : a = 0 := by
  unfold am_T0 at h
  split at h
  · assumption
  · split at h
    · cases h
    · split at h <;> cases h
theorem am_T0_32 (L a : Nat) (h : (am_T0 L a).1 = 32) : 30 ≤ a ∧ a < 45 := by
  unfold am_T0 at h
  split at h
  · cases h
  · split at h
    · cases h
    · split at h
      · assumption
      · cases h
theorem am_Inv.old {base : Nat} {cT : Nat → ClassId} {D : va_G} {L : Nat} {xs : Nat → Int32} {s : State} {M : am_Mem} {H : Heap} {locs : List Loc} {a : Nat} (h : am_Inv base cT D L xs s M H locs) (h30 : 30 ≤ (M.1 a).1) : a < 100 ∧ M.1 a = am_T0 L a := by
  have hlt : a < 100 := by
    rcases Nat.lt_or_ge a 100 with q | q
    · exact q
    · rcases Nat.lt_or_ge a M.2.2.2.2.1 with q2 | q2
      · have := (h.2.1 a q q2).1
        unfold am_sh at this
        omega
      · rw [(h.2.2.1 a q2).1] at h30
        exact absurd h30 (by decide)
  exact ⟨hlt, (h.2.2.2.2.1 a hlt).1⟩
theorem am_vm_fld {base : Nat} {fr : Nat → Value} (code : Nat) (i : Int32) (l : Int64) {r : Option Nat} (h : ∀ j, r = some j → 100 ≤ j) : am_vm base fr (match code with | 2 => .long l | 3 => am_v r | _ => .int i) = am_fe base code i l r := by
  match code with
  | 0 => rfl
  | 1 => rfl
  | 2 => rfl
  | 3 => exact am_vm_v h
  | n + 4 => rfl
section SIM2
variable {p : Program} {l : Launch} {e : Env} {R : Room} {s : State} {m : MethodId} {args : Array Value} {below : List Frame} {meth : Method} {c : Code} {base : Nat} {fr : Nat → Value} {cT : Nat → ClassId} {D : va_G} {L : Nat} {xs : Nat → Int32} {Q : State → Prop} {n0 s0 y : Nat}
variable {pc pc' : Nat} {ls ls' : am_Loc} {st st' : List Value} {M M' : am_Mem} {H : Heap} {locs : List Loc} {cells slots : Nat} {a : Nat} {lsr : Array Slot} {rest : List Value}
/-- putfield, with the heap's size kept -/
theorem am_Wput (hF : am_Fx p s m args meth c y) (hK : va_K D vwCl (am_tys cT) s) {o x k code fin : Nat} {tags : List Nat} {j t : Nat} (ho : am_ow y = o) (hlk : am_lk am_fldL o x = some (k, code, fin, tags, j)) (ht : t ∈ tags) (hfin : fin = 0 ∨ fin = 1 ∧ (am_nm y).name = "<init>") {fs : List Value} (hat : va_at D vwCl (a, .inr (t - 1, fs)) H) (hlen : fs.length = (am_cl t).2.2) {v : Value}
    (hn : narrow (am_fty t k) v = v) (hfit : fits (am_fty t k) v = true) (hdg : decode (am_bc y) pc = .ok (.putfield x, 3))
    (kk : ∀ (H1 : Heap) (sl : Nat), H1.size = H.size → (∀ q : Nat, q ≠ a → H1[q]? = H[q]?) → va_at D vwCl (a, .inr (t - 1, fs.set k v)) H1 → W p l e R s m args below meth c H1 (locs ++ [⟨a, sl⟩]) cells slots Q (F0 m (pc + 3) lsr rest)) : W p l e R s m args below meth c H locs cells slots Q (F0 m pc lsr (v :: .ref a :: rest)) := by
  obtain ⟨hx, hb, hml, hown, hts, hin2, hr, hlocks⟩ := hF
  subst ho
  obtain ⟨ref, h13, hk, hlink, hfi, hsame, hcode, hdecl⟩ := am_fld_use hlk ht
  obtain ⟨hc, hin, hty, hnm⟩ := am_cl_ok t h13
  have hsm : ∀ z, s.fieldFound? ((am_cl t).2.1 k).1 ((am_cl t).2.1 k).2.1 ((am_cl t).2.1 k).2.2.1 = some z → s.fieldFound? ref ((am_cl t).2.1 k).2.1 ((am_cl t).2.1 k).2.2.1 = some z := by
    rcases hsame with g | g
    · rw [g]; exact fun _ h => h
    · exact u_same (hts _ (am_in g))
  have hap := va_apart (own := am_on (am_ow y)) hts hin (am_fty t) hty hnm hK hc
  obtain ⟨r, h1, cell, q1, q2, q3, q4⟩ := hat
  have hr0 : r = am_cl t := Option.some.inj (h1.symm.trans hc)
  subst hr0
  obtain ⟨hS, hfc, kC, hkC, hkind⟩ := hK.1 (t - 1) _ hc
  obtain ⟨cf, kf, fi, f, hi, hsl⟩ := hS k hk
  have hlay := hts _ (hin _ (u_in_lay hk))
  have hst := (u_facts hfc hkC (u_lays hts hin hk) hi).1
  have fin2 : ∀ (H' : Heap), H'[a]? = some (cell.setSlot f.slot v) → H'.size = H.size → (∀ q : Nat, q ≠ a → H'[q]? = H[q]?) → va_at D vwCl (a, .inr (t - 1, fs.set k v)) H' := by
    intro H' e1 e2 e3
    rw [hsl] at e1
    exact ⟨_, hc, t_OB.to (V := updV (vp_V fs) k v) ⟨_, e1, q2, q3, t_set q4 hap hk v⟩ (fun j _ => vp_updV_set (by rw [hlen]; exact hk) v j)⟩
  cases hfv : ((am_cl t).2.1 k).2.2.2 with
  | false =>
    unfold u_lay at hlay
    rw [if_neg (by rw [hfv]; decide)] at hlay
    have h6 := u_store hfc hkC hkind hlay hi (hty k hk) hn hfit
    exact W.putK hx hb (f := f) ⟨hown, hts _ (am_in hlink), ⟨_, _, _, hsm _ hi⟩, hst⟩ (by rw [q2]; exact h6) q1 q3 (by rw [hsl]; exact k2_hasslot (q4 k hk)) rfl rfl hdg fun H' e1 e2 e3 => kk H' _ e2 e3 (fin2 H' e1 e2 e3)
  | true =>
    unfold u_lay at hlay
    rw [if_pos hfv] at hlay
    have hfe : fin = 1 ∧ (am_nm y).name = "<init>" := by
      rcases hfin with g | g
      · rw [hfv, g] at hfi; cases hfi
      · exact g
    have hcf : m.cls = cf := by
      obtain ⟨_, _, c', _, _, _, -, -, hf', -, -, -, hown2, -⟩ := Cond.laysFinal_spec hlay
      have e1 : c' = cf := by have := hi.symm.trans hf'; simp at this; exact this.1.symm
      rw [hdecl hfe.1] at hown2
      rw [← e1]; exact Option.some.inj (hown.symm.trans hown2)
    have h6 := u_fits hfc hkC hkind (Or.inr hlay) hi (hty k hk) hn hfit
    exact W.putFinK hx hb hown (hts _ (am_in hlink)) (hsm _ hi) hst hcf (hin2 hfe.2) (by rw [q2]; exact h6) q1 q3 (by rw [hsl]; exact k2_hasslot (q4 k hk)) rfl rfl hdg fun H' e1 e2 e3 => kk H' _ e2 e3 (fin2 H' e1 e2 e3)
theorem am_q_get (hF : am_Fx p s m args meth c y) (hC : am_Ctx base fr cT D L xs s) {x : Nat} (hdg : decode (am_bc y) pc = .ok (.getfield x, 3)) (he : am_get (am_ow y) x pc ls st M = some (.inl (pc', ls', st', M'))) (k : am_J p l e R s m args below meth c base fr cT D L xs Q n0 s0 y pc' ls' st' M') (hsf : ∀ v j, am_lk am_sfL (am_ow y) x = some (v, j) → ∃ ref, ref = "java/lang/String" ∧ Cond.fieldLink (am_on (am_ow y)) x ref (if v = 0 then "value" else "coder") (if v = 0 then "[B" else "B") ∈ lw_tbl) :
    am_J p l e R s m args below meth c base fr cT D L xs Q n0 s0 y pc ls st M := by
  obtain ⟨hx, hb, hml, hown, hts, hin2, hr, hlocks⟩ := id hF
  unfold am_get at he
  split at he
  · rename_i a r
    split at he
    · rename_i k0 code fin tags j hlk
      split at he
      · rename_i hc0
        obtain ⟨rfl, rfl, rfl, rfl⟩ := am_nx_inv he
        intro H locs lsr hI hlv
        have htg : (M.1 a).1 ∈ tags := List.contains_iff_mem.mp hc0
        obtain ⟨ref, h13, hk, hlink, hfi, hsame, hcode, hdecl⟩ := am_fld_use hlk htg
        obtain ⟨hc, hin, hty, hnm⟩ := am_cl_ok _ h13
        obtain ⟨ha1, ha2⟩ := hI.own (a := a) (by omega) (by omega)
        have hat := (hI.2.1 a ha1 ha2).2
        rw [am_cv_obj (by omega)] at hat
        have ev : am_vm base fr (.ref a) = .ref (am_ro base a) := by simp [am_vm, Nat.not_lt.mpr ha1, am_ro]
        have hsm : ∀ z, s.fieldFound? ((am_cl (M.1 a).1).2.1 k0).1 ((am_cl (M.1 a).1).2.1 k0).2.1 ((am_cl (M.1 a).1).2.1 k0).2.2.1 = some z → s.fieldFound? ref ((am_cl (M.1 a).1).2.1 k0).2.1 ((am_cl (M.1 a).1).2.1 k0).2.2.1 = some z := by
          rcases hsame with g | g
          · rw [g]; exact fun _ h => h
          · exact u_same (hts _ (am_in g))
        have h2 := k H locs lsr hI hlv
        rw [List.map_cons, ev]
        refine va_get hx hb hts hin hown hC.1 (am_one hat) 0 rfl hc k0 hk (hts _ (am_in hlink)) hsm (am_fs_at hk) hdg ?_
        unfold am_ent
        rw [hcode]
        refine cast (congrArg (fun z => W p l e R s m args below meth c H locs (M.2.2.2.2.1 - n0) (M.2.2.2.2.2 - s0) Q (F0 m (pc + 3) lsr (z :: List.map (am_vm base fr) r))) ?_) h2
        exact am_vm_fld code _ _ (fun j hj => hI.2.2.2.1 a k0 j hj)
      · cases he
    · split at he
      · rename_i j hlk
        split at he
        · rename_i ht
          obtain ⟨rfl, rfl, rfl, rfl⟩ := am_nx_inv he
          intro H locs lsr hI hlv
          have h2 := k H locs lsr hI hlv
          obtain ⟨ref, rfl, hlink⟩ := hsf _ _ hlk
          obtain ⟨hlt, hT⟩ := hI.old (a := a) (by omega)
          have hra := am_T0_31 L a (by rw [← hT]; exact ht)
          obtain ⟨aK, aV, f1, f2, -, f3, f4, f5, f6⟩ := hC.2.2.2.1 (a - 10) (by omega)
          have e1 : am_vm base fr (.ref a) = .ref aK := by
            show (if a < 100 then fr a else _) = _
            rw [if_pos hlt, ← f1]
            congr 1; omega
          have e2 : am_vm base fr (.ref (a + 20)) = .ref aV := by
            show (if a + 20 < 100 then fr (a + 20) else _) = _
            rw [if_pos (Nat.lt_of_lt_of_le (Nat.add_lt_add_right hra.2 20) (by decide)), ← f2]
            congr 1; omega
          rw [List.map_cons, e2] at h2
          rw [List.map_cons, e1]
          exact vk_getf hx hb f5 hI.2.2.2.2.2 hown (hts _ (am_in hlink)) (fun _ h => h) hdg h2
        · cases he
      · rename_i n j hlk
        split at he
        · rename_i ht
          obtain ⟨rfl, rfl, rfl, rfl⟩ := am_nx_inv he
          intro H locs lsr hI hlv
          have h2 := k H locs lsr hI hlv
          obtain ⟨ref, rfl, hlink⟩ := hsf _ _ hlk
          obtain ⟨hlt, hT⟩ := hI.old (a := a) (by omega)
          have hra := am_T0_31 L a (by rw [← hT]; exact ht)
          obtain ⟨aK, aV, f1, f2, -, f3, f4, f5, f6⟩ := hC.2.2.2.1 (a - 10) (by omega)
          have e1 : am_vm base fr (.ref a) = .ref aK := by
            show (if a < 100 then fr a else _) = _
            rw [if_pos hlt, ← f1]
            congr 1; omega
          rw [List.map_cons, e1]
          exact vk_getf hx hb f4 hI.2.2.2.2.2 hown (hts _ (am_in hlink)) (fun _ h => h) hdg h2
        · cases he
      · cases he
  · cases he
end SIM2
