/-! THE SIMULATION, part three: putfield, arrays, new cells -/
theorem am_fs_set {base : Nat} {M M' : am_Mem} {t a k : Nat} {v : Value} (h1 : ∀ i, i ≠ k → am_ent base M' t a i = am_ent base M t a i) (h2 : am_ent base M' t a k = v) : am_fs base M' t a = (am_fs base M t a).set k v := by
  apply List.ext_getElem?
  intro i
  by_cases hi : i < (am_cl t).2.2
  · rw [am_fs_at hi]
    by_cases e : i = k
    · subst e
      rw [List.getElem?_set_self (by rw [am_fs_len]; exact hi)]
      exact congrArg some h2
    · rw [List.getElem?_set_ne (Ne.symm e), am_fs_at hi]
      exact congrArg some (h1 i e)
  · rw [List.getElem?_eq_none (by rw [am_fs_len]; omega), List.getElem?_eq_none (by rw [List.length_set, am_fs_len]; omega)]
section SIM3
variable {p : Program} {l : Launch} {e : Env} {R : Room} {s : State} {m : MethodId} {args : Array Value} {below : List Frame} {meth : Method} {c : Code} {base : Nat} {fr : Nat → Value} {cT : Nat → ClassId} {D : va_G} {L : Nat} {xs : Nat → Int32} {Q : State → Prop} {n0 s0 y : Nat}
variable {pc pc' : Nat} {ls ls' : am_Loc} {st st' : List Value} {M M' : am_Mem} {H : Heap} {locs : List Loc} {cells slots : Nat} {lsr : Array Slot} {rest : List Value}
theorem am_vm_own {a : Nat} (h : 100 ≤ a) : am_vm base fr (.ref a) = .ref (am_ro base a) := by
  show (if a < 100 then fr a else Value.ref (base + (a - 100))) = _
  rw [if_neg (by omega)]
/-- one field written -/
theorem am_q_put1 (hF : am_Fx p s m args meth c y) (hC : am_Ctx base fr cT D L xs s) {x k code fin : Nat} {tags : List Nat} {j a : Nat} {v w : Value} {r : List Value} (hlk : am_lk am_fldL (am_ow y) x = some (k, code, fin, tags, j)) (hfin : fin = 0 ∨ fin = 1 ∧ (am_nm y).name = "<init>") (htg : (M.1 a).1 ∈ tags)
    (hv : ∀ H locs, am_Inv base cT D L xs s M H locs → am_vm base fr v = w) (hn : ∀ ty, am_code ty = code → narrow ty w = w ∧ fits ty w = true) (hT : M'.1 = M.1) (hnn : M'.2.2.2.2 = M.2.2.2.2) (hI : ∀ b, b ≠ a → M'.2.1 b = M.2.1 b) (hL : ∀ b, b ≠ a → M'.2.2.1 b = M.2.2.1 b) (hR : ∀ b, b ≠ a → M'.2.2.2.1 b = M.2.2.2.1 b) (hr : ∀ H locs, am_Inv base cT D L xs s M H locs → ∀ i q, M'.2.2.2.1 a i = some q → M.2.2.2.1 a i = some q ∨ 100 ≤ q)
    (he1 : ∀ i, i ≠ k → M'.2.1 a i = M.2.1 a i ∧ M'.2.2.1 a i = M.2.2.1 a i ∧ M'.2.2.2.1 a i = M.2.2.2.1 a i) (he2 : w = am_fe base code (M'.2.1 a k) (M'.2.2.1 a k) (M'.2.2.2.1 a k))
    (hdg : decode (am_bc y) pc = .ok (.putfield x, 3)) (kk : am_J p l e R s m args below meth c base fr cT D L xs Q n0 s0 y (pc + 3) ls r M') : am_J p l e R s m args below meth c base fr cT D L xs Q n0 s0 y pc ls (v :: .ref a :: r) M := by
  intro H locs lsr hInv hlv
  obtain ⟨ref, h13, hk, hlink, hfi, hsame, hcode, hdecl⟩ := am_fld_use hlk htg
  obtain ⟨ha1, ha2⟩ := hInv.own (a := a) (by omega) (by omega)
  have hat := (hInv.2.1 a ha1 ha2).2
  rw [am_cv_obj (by omega)] at hat
  rw [List.map_cons, List.map_cons, hv H locs hInv, am_vm_own ha1]
  refine am_Wput hF hC.1 rfl hlk htg hfin hat am_fs_len (hn _ hcode).1 (hn _ hcode).2 hdg fun H1 sl z oq hat1 => ?_
  have hwe : am_ent base M' (M.1 a).1 a k = w := by unfold am_ent; rw [hcode]; exact he2.symm
  have hcv : am_cv base cT M' a = .inr ((M.1 a).1 - 1, (am_fs base M (M.1 a).1 a).set k w) := by
    rw [am_cv_obj (by rw [hT]; omega), hT]
    rw [am_fs_set (M := M) (k := k) (v := w) (fun i hi => ?_) hwe]
    obtain ⟨g1, g2, g3⟩ := he1 i hi
    unfold am_ent
    rw [g1, g2, g3]
  have hI2 := hInv.upd (M' := M') ha1 ha2 hT hnn hI hL hR (fun i q hq => by
    rcases hr H locs hInv i q hq with g | g
    · exact hInv.2.2.2.1 a i q g
    · exact g) z oq (by rw [hcv]; exact hat1) (locs' := locs ++ [⟨am_ro base a, sl⟩]) (fun q hq => by
      rcases List.mem_append.mp hq with g | g
      · exact Or.inl g
      · rw [List.mem_singleton.mp g]
        exact Or.inr (Nat.le_add_right _ _))
  have h3 := kk H1 _ lsr hI2 hlv
  rw [hnn] at h3
  exact h3
theorem am_q_put (hF : am_Fx p s m args meth c y) (hC : am_Ctx base fr cT D L xs s) {x : Nat} (hdg : decode (am_bc y) pc = .ok (.putfield x, 3)) (he : am_put y (am_ow y) x pc ls st M = some (.inl (pc', ls', st', M'))) (k : am_J p l e R s m args below meth c base fr cT D L xs Q n0 s0 y pc' ls' st' M') :
    am_J p l e R s m args below meth c base fr cT D L xs Q n0 s0 y pc ls st M := by
  unfold am_put at he
  split at he
  · rename_i k0 code fin tags j hlk
    split at he
    · cases he
    · rename_i hfin
      have hfin' : fin = 0 ∨ fin = 1 ∧ (am_nm y).name = "<init>" := by
        rcases Nat.eq_zero_or_pos fin with g | g
        · exact Or.inl g
        · refine Or.inr (Classical.byContradiction fun z => hfin ⟨by omega, z⟩)
      split at he
      · rename_i z a r
        split at he
        · rename_i ht
          obtain ⟨rfl, rfl, rfl, rfl⟩ := am_nx_inv he
          refine am_q_put1 (M' := (M.1, M.2.1, am_u M.2.2.1 a k0 z, M.2.2.2)) hF hC hlk hfin' (List.contains_iff_mem.mp ht) (w := .long z) (fun _ _ _ => rfl) (fun ty h => ?_) rfl rfl (fun _ _ => rfl) (fun b hb => am_row_ne _ _ _ hb) (fun _ _ => rfl) (fun _ _ _ _ _ h => Or.inl h) (fun i hi => ⟨rfl, by simp [am_u, hi], rfl⟩) (by simp [am_u, am_fe]) hdg k
          cases ty <;> first | exact ⟨rfl, rfl⟩ | (simp [am_code] at h)
        · cases he
      · rename_i z a r
        split at he
        · rename_i ht
          obtain ⟨rfl, rfl, rfl, rfl⟩ := am_nx_inv he
          refine am_q_put1 (M' := (M.1, M.2.1, M.2.2.1, am_u M.2.2.2.1 a k0 (some z), M.2.2.2.2)) hF hC hlk hfin' (List.contains_iff_mem.mp ht.1) (fun _ _ hI => am_vm_own (hI.own (by omega) (by omega)).1) (fun ty h => ?_) rfl rfl (fun _ _ => rfl) (fun _ _ => rfl) (fun b hb => am_row_ne _ _ _ hb) (fun _ _ hI i q h => ?_) (fun i hi => ⟨rfl, rfl, by simp [am_u, hi]⟩) (by simp [am_u, va_rf, am_fe]) hdg k
          · cases ty <;> first | exact ⟨rfl, rfl⟩ | (simp [am_code] at h)
          · by_cases hi : i = k0
            · simp [am_u, hi] at h
              exact Or.inr (by rw [← h]; exact (hI.own (by omega) (by omega)).1)
            · simp [am_u, hi] at h
              exact Or.inl h
        · cases he
      · rename_i a r
        split at he
        · rename_i ht
          obtain ⟨rfl, rfl, rfl, rfl⟩ := am_nx_inv he
          refine am_q_put1 (M' := (M.1, M.2.1, M.2.2.1, am_u M.2.2.2.1 a k0 none, M.2.2.2.2)) hF hC hlk hfin' (List.contains_iff_mem.mp ht) (w := .null) (fun _ _ _ => rfl) (fun ty h => ?_) rfl rfl (fun _ _ => rfl) (fun _ _ => rfl) (fun b hb => am_row_ne _ _ _ hb) (fun _ _ hI i q h => ?_) (fun i hi => ⟨rfl, rfl, by simp [am_u, hi]⟩) (by simp [am_u, va_rf, am_fe]) hdg k
          · cases ty <;> first | exact ⟨rfl, rfl⟩ | (simp [am_code] at h)
          · by_cases hi : i = k0
            · simp [am_u, hi] at h
            · simp [am_u, hi] at h
              exact Or.inl h
        · cases he
      · rename_i z a r
        split at he
        · rename_i ht
          obtain ⟨rfl, rfl, rfl, rfl⟩ := am_nx_inv he
          refine am_q_put1 (M' := (M.1, am_u M.2.1 a k0 z, M.2.2)) hF hC hlk hfin' (List.contains_iff_mem.mp ht.1) (w := .int z) (fun _ _ _ => rfl) (fun ty h => ?_) rfl rfl (fun b hb => am_row_ne _ _ _ hb) (fun _ _ => rfl) (fun _ _ => rfl) (fun _ _ _ _ _ h => Or.inl h) (fun i hi => ⟨by simp [am_u, hi], rfl, rfl⟩) (by simp [am_u, am_fe]) hdg k
          cases ty <;> first | (simp [am_code] at h; done) | (rcases ht.2 with g | g <;> rw [g] <;> exact ⟨by decide, by decide⟩)
        · cases he
      · rename_i z a r
        split at he
        · rename_i ht
          obtain ⟨rfl, rfl, rfl, rfl⟩ := am_nx_inv he
          refine am_q_put1 (M' := (M.1, am_u M.2.1 a k0 z, M.2.2)) hF hC hlk hfin' (List.contains_iff_mem.mp ht) (w := .int z) (fun _ _ _ => rfl) (fun ty h => ?_) rfl rfl (fun b hb => am_row_ne _ _ _ hb) (fun _ _ => rfl) (fun _ _ => rfl) (fun _ _ _ _ _ h => Or.inl h) (fun i hi => ⟨by simp [am_u, hi], rfl, rfl⟩) (by simp [am_u, am_fe]) hdg k
          cases ty <;> first | exact ⟨rfl, rfl⟩ | (simp [am_code] at h)
        · cases he
      · cases he
  · cases he
theorem am_arr_use {T : Nat → Nat × Nat} {tags : List Nat} {a : Nat} {j : Int32} (h : am_arr T tags a j = true) : (T a).1 ∈ tags ∧ vp_in j (T a).2 := by
  unfold am_arr at h
  rw [Bool.and_eq_true] at h
  exact ⟨List.contains_iff_mem.mp h.1, am_ix_in h.2⟩
theorem am_q_iald (hF : am_Fx p s m args meth c y) (hC : am_Ctx base fr cT D L xs s) {j : Int32} {a : Nat} {r : List Value} (hdg : decode (am_bc y) pc = .ok (.iaload, 1)) (ha : am_arr M.1 [20, 30] a j = true) (k : am_J p l e R s m args below meth c base fr cT D L xs Q n0 s0 y (pc + 1) ls (.int (M.2.1 a j.toNatClampNeg) :: r) M) :
    am_J p l e R s m args below meth c base fr cT D L xs Q n0 s0 y pc ls (.int j :: .ref a :: r) M := by
  obtain ⟨hx, hb, hml, hown, hts, hin2, hr, hlocks⟩ := id hF
  obtain ⟨ht, hin⟩ := am_arr_use ha
  intro H locs lsr hI hlv
  have h2 := k H locs lsr hI hlv
  rw [List.map_cons, List.map_cons]
  have ht' : (M.1 a).1 = 20 ∨ (M.1 a).1 = 30 := by simpa using ht
  rcases ht' with ht | ht
  · obtain ⟨ha1, ha2⟩ := hI.own (a := a) (by omega) (by omega)
    have hat := (hI.2.1 a ha1 ha2).2
    rw [am_cv_int ht (Or.inl rfl)] at hat
    rw [am_vm_own ha1]
    exact va_iald hx hb hC.1 (am_one hat) 0 0 rfl rfl hin hdg h2
  · obtain ⟨hlt, hT⟩ := hI.old (a := a) (by omega)
    have h0 := am_T0_30 L a (by rw [← hT]; exact ht)
    subst h0
    obtain ⟨b, f1, f2, f3⟩ := hC.2.2.1
    have e1 : am_vm base fr (.ref 0) = .ref b := f1
    rw [e1]
    rw [hT] at hin
    have e2 : M.2.1 0 j.toNatClampNeg = xs j.toNatClampNeg := (hI.2.2.2.2.1 0 hlt).2 _
    rw [e2] at h2
    exact va_sld hx hb f3 (Nat.lt_of_lt_of_le f2 hC.2.1) (Nat.not_le.mpr f2) hI.2.2.2.2.2 hin hdg h2
theorem am_q_bald (hF : am_Fx p s m args meth c y) (hC : am_Ctx base fr cT D L xs s) {j : Int32} {a : Nat} {r : List Value} (hdg : decode (am_bc y) pc = .ok (.baload, 1)) (ha : am_arr M.1 [22, 23, 32] a j = true) (k : am_J p l e R s m args below meth c base fr cT D L xs Q n0 s0 y (pc + 1) ls (.int (M.2.1 a j.toNatClampNeg) :: r) M) :
    am_J p l e R s m args below meth c base fr cT D L xs Q n0 s0 y pc ls (.int j :: .ref a :: r) M := by
  obtain ⟨hx, hb, hml, hown, hts, hin2, hr, hlocks⟩ := id hF
  obtain ⟨ht, hin⟩ := am_arr_use ha
  intro H locs lsr hI hlv
  have h2 := k H locs lsr hI hlv
  rw [List.map_cons, List.map_cons]
  have ht' : (M.1 a).1 = 22 ∨ (M.1 a).1 = 23 ∨ (M.1 a).1 = 32 := by simpa using ht
  rcases ht' with ht | ht | ht
  · obtain ⟨ha1, ha2⟩ := hI.own (a := a) (by omega) (by omega)
    have hat := (hI.2.1 a ha1 ha2).2
    rw [am_cv_int ht (Or.inr (Or.inl rfl))] at hat
    rw [am_vm_own ha1]
    exact va_bald hx hb hC.1 (am_one hat) 0 2 rfl rfl hin hdg h2
  · obtain ⟨ha1, ha2⟩ := hI.own (a := a) (by omega) (by omega)
    have hat := (hI.2.1 a ha1 ha2).2
    rw [am_cv_int ht (Or.inr (Or.inr rfl))] at hat
    rw [am_vm_own ha1]
    exact va_zald hx hb hC.1 (am_one hat) 0 3 rfl rfl hin hdg h2
  · obtain ⟨hlt, hT⟩ := hI.old (a := a) (by omega)
    have hra := am_T0_32 L a (by rw [← hT]; exact ht)
    obtain ⟨aK, aV, f1, f2, -, f3, f4, f5, f6⟩ := hC.2.2.2.1 (a - 30) (by omega)
    have e1 : am_vm base fr (.ref a) = .ref aV := by
      show (if a < 100 then fr a else _) = _
      rw [if_pos hlt, ← f2]
      congr 1; omega
    rw [e1]
    have eT : am_T0 L a = (32, (am_str (a - 30)).2.2.2.2.length) := by
      unfold am_T0
      rw [if_neg (by omega), if_neg (by omega), if_pos hra]
    rw [hT, eT] at hin
    have e2 : M.2.1 a j.toNatClampNeg = (am_str (a - 30)).2.2.2.2.getD j.toNatClampNeg 0 := by
      rw [(hI.2.2.2.2.1 a hlt).2]
      unfold am_I0
      rw [if_neg (by omega), if_pos hra]
    rw [e2] at h2
    exact va_tb hx hb f6 hI.2.2.2.2.2 hin rfl hdg h2
theorem am_q_lald (hF : am_Fx p s m args meth c y) (hC : am_Ctx base fr cT D L xs s) {j : Int32} {a : Nat} {r : List Value} (hdg : decode (am_bc y) pc = .ok (.laload, 1)) (ha : am_arr M.1 [21] a j = true) (k : am_J p l e R s m args below meth c base fr cT D L xs Q n0 s0 y (pc + 1) ls (.long (M.2.2.1 a j.toNatClampNeg) :: r) M) :
    am_J p l e R s m args below meth c base fr cT D L xs Q n0 s0 y pc ls (.int j :: .ref a :: r) M := by
  obtain ⟨hx, hb, hml, hown, hts, hin2, hr, hlocks⟩ := id hF
  obtain ⟨ht, hin⟩ := am_arr_use ha
  intro H locs lsr hI hlv
  have h2 := k H locs lsr hI hlv
  rw [List.map_cons, List.map_cons]
  have ht : (M.1 a).1 = 21 := by simpa using ht
  obtain ⟨ha1, ha2⟩ := hI.own (a := a) (by omega) (by omega)
  have hat := (hI.2.1 a ha1 ha2).2
  rw [am_cv_long ht] at hat
  rw [am_vm_own ha1]
  exact va_lald hx hb hC.1 (am_one hat) 0 1 rfl rfl hin hdg h2
theorem am_q_aald (hF : am_Fx p s m args meth c y) (hC : am_Ctx base fr cT D L xs s) {j : Int32} {a : Nat} {r : List Value} (hdg : decode (am_bc y) pc = .ok (.aaload, 1)) (ha : am_arr M.1 [24, 25] a j = true) (k : am_J p l e R s m args below meth c base fr cT D L xs Q n0 s0 y (pc + 1) ls (am_v (M.2.2.2.1 a j.toNatClampNeg) :: r) M) :
    am_J p l e R s m args below meth c base fr cT D L xs Q n0 s0 y pc ls (.int j :: .ref a :: r) M := by
  obtain ⟨hx, hb, hml, hown, hts, hin2, hr, hlocks⟩ := id hF
  obtain ⟨ht, hin⟩ := am_arr_use ha
  intro H locs lsr hI hlv
  have h2 := k H locs lsr hI hlv
  rw [List.map_cons, am_vm_v (fun q hq => hI.2.2.2.1 _ _ q hq)] at h2
  rw [List.map_cons, List.map_cons]
  have ht' : (M.1 a).1 = 24 ∨ (M.1 a).1 = 25 := by simpa using ht
  obtain ⟨ha1, ha2⟩ := hI.own (a := a) (by omega) (by omega)
  have hat := (hI.2.1 a ha1 ha2).2
  rw [am_vm_own ha1]
  rcases ht' with ht | ht
  · rw [am_cv_ref ht (Or.inl rfl)] at hat
    exact va_aldq hx hb hC.1 (am_one hat) 0 4 rfl rfl hin hdg h2
  · rw [am_cv_ref ht (Or.inr rfl)] at hat
    exact va_aldq hx hb hC.1 (am_one hat) 0 5 rfl rfl hin hdg h2
end SIM3
