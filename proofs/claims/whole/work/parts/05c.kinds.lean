/-! kinds left over: loads and stores of locals, arrays, switches -/
/-- whole numbers as ints, as longs -/
def iI (z : Int) : Int32 := Int32.ofInt z
def jI (z : Int) : Int64 := Int64.ofInt z
theorem iI_zero : iI 0 = 0 := by decide +kernel
theorem rn_cc0_eq {x : Int32} : x = iI 0 ↔ am_cc .eq x 0 = true := by rw [iI_zero]; exact rn_cc_eq
theorem rn_cc0_ne {x : Int32} : ¬ x = iI 0 ↔ am_cc .ne x 0 = true := by rw [iI_zero]; exact rn_cc_ne
theorem rn_cc0_lt {x : Int32} : x < iI 0 ↔ am_cc .lt x 0 = true := by rw [iI_zero]; exact rn_cc_lt
theorem rn_cc0_ge {x : Int32} : iI 0 ≤ x ↔ am_cc .ge x 0 = true := by rw [iI_zero]; exact rn_cc_ge
theorem rn_cc0_gt {x : Int32} : iI 0 < x ↔ am_cc .gt x 0 = true := by rw [iI_zero]; exact rn_cc_gt
theorem rn_cc0_le {x : Int32} : x ≤ iI 0 ↔ am_cc .le x 0 = true := by rw [iI_zero]; exact rn_cc_le
section RNL
variable {d y pc len : Nat} {ls : am_Loc} {st : List Value} {M : am_Mem} {q : MethodName × ByteArray × Nat × Option FieldType × Nat × Nat} {i : Instr}
theorem rn_si {k : Nat} {x : Int32} (hm : am_m y = q) (hd : decode q.2.1 pc = .ok (i, len)) (hl : am_len i = len ∨ am_len i = 0) (he : ∀ d y ls st M, am_ex d y i pc ls st M = am_si (am_mx y) ls k (pc + len) st M) (hk : k < q.2.2.1) : rn_r d y pc ls (.int x :: st) M = rn_r d y (pc + len) (am_s1 ls k (.int x)) st M := by
  have hk' : k < am_mx y := by unfold am_mx; rw [hm]; exact hk
  refine rn_next hm hd hl ?_
  rw [he]
  exact if_pos hk'
theorem rn_sl {k : Nat} {x : Int64} (hm : am_m y = q) (hd : decode q.2.1 pc = .ok (i, len)) (hl : am_len i = len ∨ am_len i = 0) (he : ∀ d y ls st M, am_ex d y i pc ls st M = am_sl (am_mx y) ls k (pc + len) st M) (hk : k + 1 < q.2.2.1) : rn_r d y pc ls (.long x :: st) M = rn_r d y (pc + len) (am_s2 ls k (.long x)) st M := by
  have hk' : k + 1 < am_mx y := by unfold am_mx; rw [hm]; exact hk
  refine rn_next hm hd hl ?_
  rw [he]
  exact if_pos hk'
theorem rn_sa {k : Nat} {v : Value} (hv : am_isr v = true) (hm : am_m y = q) (hd : decode q.2.1 pc = .ok (i, len)) (hl : am_len i = len ∨ am_len i = 0) (he : ∀ d y ls st M, am_ex d y i pc ls st M = am_sa (am_mx y) ls k (pc + len) st M) (hk : k < q.2.2.1) : rn_r d y pc ls (v :: st) M = rn_r d y (pc + len) (am_s1 ls k v) st M := by
  have hk' : k < am_mx y := by unfold am_mx; rw [hm]; exact hk
  refine rn_next hm hd hl ?_
  rw [he]
  exact if_pos ⟨hk', hv⟩
theorem rn_la {k : Nat} {v : Value} (hv : am_isr v = true) (hm : am_m y = q) (hd : decode q.2.1 pc = .ok (i, len)) (hl : am_len i = len ∨ am_len i = 0) (he : ∀ d y ls st M, am_ex d y i pc ls st M = am_la ls k (pc + len) st M) (hk : am_ld ls k = some v) : rn_r d y pc ls st M = rn_r d y (pc + len) ls (v :: st) M := by
  refine rn_next hm hd hl ?_
  rw [he]
  unfold am_la
  rw [hk]
  exact if_pos hv
theorem rn_isr_v (o : Option Nat) : am_isr (am_v o) = true := by cases o <;> rfl
theorem rn_inc {k : Nat} {n : Int} {x v : Int32} (hm : am_m y = q) (hd : decode q.2.1 pc = .ok (.iinc k n, 3)) (hk : k < q.2.2.1) (hl : am_ld ls k = some (.int x)) (hv : Int32.ofInt n = v) : rn_r d y pc ls st M = rn_r d y (pc + 3) (am_s1 ls k (.int (x + v))) st M := by
  have hk' : k < am_mx y := by unfold am_mx; rw [hm]; exact hk
  subst hv
  refine rn_next hm hd (Or.inl rfl) ?_
  simp only [am_ex, hl, if_pos hk']
theorem rn_iald {a : Nat} {j : Int32} (hm : am_m y = q) (hd : decode q.2.1 pc = .ok (.iaload, 1)) : rn_r d y pc ls (.int j :: .ref a :: st) M = if am_arr M.1 [20, 30] a j = true then rn_r d y (pc + 1) ls (.int (M.2.1 a j.toNatClampNeg) :: st) M else none := rn_nextIf (p := am_arr M.1 [20, 30] a j = true) (dp := inferInstance) hm hd (Or.inl rfl) rfl
theorem rn_bald {a : Nat} {j : Int32} (hm : am_m y = q) (hd : decode q.2.1 pc = .ok (.baload, 1)) : rn_r d y pc ls (.int j :: .ref a :: st) M = if am_arr M.1 [22, 23, 32] a j = true then rn_r d y (pc + 1) ls (.int (M.2.1 a j.toNatClampNeg) :: st) M else none := rn_nextIf (p := am_arr M.1 [22, 23, 32] a j = true) (dp := inferInstance) hm hd (Or.inl rfl) rfl
theorem rn_lald {a : Nat} {j : Int32} (hm : am_m y = q) (hd : decode q.2.1 pc = .ok (.laload, 1)) : rn_r d y pc ls (.int j :: .ref a :: st) M = if am_arr M.1 [21] a j = true then rn_r d y (pc + 1) ls (.long (M.2.2.1 a j.toNatClampNeg) :: st) M else none := rn_nextIf (p := am_arr M.1 [21] a j = true) (dp := inferInstance) hm hd (Or.inl rfl) rfl
theorem rn_aald {a : Nat} {j : Int32} (hm : am_m y = q) (hd : decode q.2.1 pc = .ok (.aaload, 1)) : rn_r d y pc ls (.int j :: .ref a :: st) M = if am_arr M.1 [24, 25] a j = true then rn_r d y (pc + 1) ls (am_v (M.2.2.2.1 a j.toNatClampNeg) :: st) M else none := rn_nextIf (p := am_arr M.1 [24, 25] a j = true) (dp := inferInstance) hm hd (Or.inl rfl) rfl
theorem rn_iast {a : Nat} {j x : Int32} (hm : am_m y = q) (hd : decode q.2.1 pc = .ok (.iastore, 1)) : rn_r d y pc ls (.int x :: .int j :: .ref a :: st) M = if am_arr M.1 [20] a j = true then rn_r d y (pc + 1) ls st (M.1, am_u M.2.1 a j.toNatClampNeg x, M.2.2) else none := rn_nextIf (p := am_arr M.1 [20] a j = true) (dp := inferInstance) hm hd (Or.inl rfl) rfl
theorem rn_bast {a : Nat} {j x : Int32} (hm : am_m y = q) (hd : decode q.2.1 pc = .ok (.bastore, 1)) : rn_r d y pc ls (.int x :: .int j :: .ref a :: st) M = if am_arr M.1 [22] a j = true then rn_r d y (pc + 1) ls st (M.1, am_u M.2.1 a j.toNatClampNeg x.toInt8.toInt32, M.2.2) else if am_arr M.1 [23] a j = true then rn_r d y (pc + 1) ls st (M.1, am_u M.2.1 a j.toNatClampNeg (x &&& 1), M.2.2) else none := by
  by_cases h : am_arr M.1 [22] a j = true
  · rw [if_pos h]; exact rn_next hm hd (Or.inl rfl) (if_pos h)
  · rw [if_neg h]; exact rn_nextIf (p := am_arr M.1 [23] a j = true) (dp := inferInstance) hm hd (Or.inl rfl) (if_neg h)
theorem rn_last {a : Nat} {j : Int32} {x : Int64} (hm : am_m y = q) (hd : decode q.2.1 pc = .ok (.lastore, 1)) : rn_r d y pc ls (.long x :: .int j :: .ref a :: st) M = if am_arr M.1 [21] a j = true then rn_r d y (pc + 1) ls st (M.1, M.2.1, am_u M.2.2.1 a j.toNatClampNeg x, M.2.2.2) else none := rn_nextIf (p := am_arr M.1 [21] a j = true) (dp := inferInstance) hm hd (Or.inl rfl) rfl
theorem rn_aast {a b : Nat} {j : Int32} (hm : am_m y = q) (hd : decode q.2.1 pc = .ok (.aastore, 1)) : rn_r d y pc ls (.ref b :: .int j :: .ref a :: st) M = if (am_arr M.1 [24] a j && (M.1 b).1 == 11 || am_arr M.1 [25] a j && [1, 2, 3, 4, 5, 6, 10].contains (M.1 b).1) = true then rn_r d y (pc + 1) ls st (M.1, M.2.1, M.2.2.1, am_u M.2.2.2.1 a j.toNatClampNeg (some b), M.2.2.2.2) else none := rn_nextIf (p := (am_arr M.1 [24] a j && (M.1 b).1 == 11 || am_arr M.1 [25] a j && [1, 2, 3, 4, 5, 6, 10].contains (M.1 b).1) = true) (dp := inferInstance) hm hd (Or.inl rfl) rfl
theorem rn_alen {a : Nat} (hm : am_m y = q) (hd : decode q.2.1 pc = .ok (.arraylength, 1)) : rn_r d y pc ls (.ref a :: st) M = if [20, 21, 22, 23, 24, 25, 30, 32].contains (M.1 a).1 = true then rn_r d y (pc + 1) ls (.int (Int32.ofNat (M.1 a).2) :: st) M else none := rn_nextIf (p := [20, 21, 22, 23, 24, 25, 30, 32].contains (M.1 a).1 = true) (dp := inferInstance) hm hd (Or.inl rfl) rfl
theorem rn_ifnullr {a : Nat} {off : Int} (hm : am_m y = q) (hd : decode q.2.1 pc = .ok (.ifnull off, 3)) : rn_r d y pc ls (.ref a :: st) M = if ¬ (M.1 a).1 = 0 then rn_r d y (pc + 3) ls st M else none := rn_nextIf (p := ¬ (M.1 a).1 = 0) (dp := inferInstance) hm hd (Or.inl rfl) rfl
theorem rn_ifnulln {off : Int} {tgt : Nat} (hm : am_m y = q) (hd : decode q.2.1 pc = .ok (.ifnull off, 3)) (ht : (pc : Int) + off = (tgt : Int)) : rn_r d y pc ls (.null :: st) M = rn_r d y tgt ls st M := by
  have h0 : 0 ≤ (pc : Int) + off := by omega
  have h1 : ((pc : Int) + off).toNat = tgt := by omega
  exact rn_next hm hd (Or.inl rfl) (by simp only [am_ex, am_br, if_pos h0, h1])
theorem rn_ifnonr {a : Nat} {off : Int} {tgt : Nat} (hm : am_m y = q) (hd : decode q.2.1 pc = .ok (.ifnonnull off, 3)) (ht : (pc : Int) + off = (tgt : Int)) : rn_r d y pc ls (.ref a :: st) M = if ¬ (M.1 a).1 = 0 then rn_r d y tgt ls st M else none := by
  have h0 : 0 ≤ (pc : Int) + off := by omega
  have h1 : ((pc : Int) + off).toNat = tgt := by omega
  refine rn_nextIf (p := ¬ (M.1 a).1 = 0) (dp := inferInstance) hm hd (Or.inl rfl) ?_
  simp only [am_ex, am_br, if_pos h0, h1]
theorem rn_ifnonn {off : Int} (hm : am_m y = q) (hd : decode q.2.1 pc = .ok (.ifnonnull off, 3)) : rn_r d y pc ls (.null :: st) M = rn_r d y (pc + 3) ls st M := rn_next hm hd (Or.inl rfl) rfl
theorem rn_idiv {x z : Int32} (hm : am_m y = q) (hd : decode q.2.1 pc = .ok (.idiv, 1)) : rn_r d y pc ls (.int z :: .int x :: st) M = if z = 0 then none else rn_r d y (pc + 1) ls (.int (x / z) :: st) M := by
  by_cases h : z = 0
  · rw [if_pos h]; exact rn_dead hm hd (Or.inl rfl) (if_pos h)
  · rw [if_neg h]; exact rn_next hm hd (Or.inl rfl) (if_neg h)
theorem rn_irem {x z : Int32} (hm : am_m y = q) (hd : decode q.2.1 pc = .ok (.irem, 1)) : rn_r d y pc ls (.int z :: .int x :: st) M = if z = 0 then none else rn_r d y (pc + 1) ls (.int (x - x / z * z) :: st) M := by
  by_cases h : z = 0
  · rw [if_pos h]; exact rn_dead hm hd (Or.inl rfl) (if_pos h)
  · rw [if_neg h]; exact rn_next hm hd (Or.inl rfl) (if_neg h)
theorem rn_ldiv {x z : Int64} (hm : am_m y = q) (hd : decode q.2.1 pc = .ok (.ldiv, 1)) : rn_r d y pc ls (.long z :: .long x :: st) M = if z = 0 then none else rn_r d y (pc + 1) ls (.long (x / z) :: st) M := by
  by_cases h : z = 0
  · rw [if_pos h]; exact rn_dead hm hd (Or.inl rfl) (if_pos h)
  · rw [if_neg h]; exact rn_next hm hd (Or.inl rfl) (if_neg h)
theorem rn_lrem {x z : Int64} (hm : am_m y = q) (hd : decode q.2.1 pc = .ok (.lrem, 1)) : rn_r d y pc ls (.long z :: .long x :: st) M = if z = 0 then none else rn_r d y (pc + 1) ls (.long (x - x / z * z) :: st) M := by
  by_cases h : z = 0
  · rw [if_pos h]; exact rn_dead hm hd (Or.inl rfl) (if_pos h)
  · rw [if_neg h]; exact rn_next hm hd (Or.inl rfl) (if_neg h)
theorem rn_tsk {x : Int32} {df lo hi off : Int} {offs : Array Int} {tgt : Nat} (hm : am_m y = q) (hd : decode q.2.1 pc = .ok (.tableswitch df lo hi offs, len)) (h : ¬ (x.toInt < lo ∨ hi < x.toInt)) (ho : offs[(x.toInt - lo).toNat]? = some off) (ht : (pc : Int) + off = (tgt : Int)) : rn_r d y pc ls (.int x :: st) M = rn_r d y tgt ls st M := by
  have h0 : 0 ≤ (pc : Int) + off := by omega
  have h1 : ((pc : Int) + off).toNat = tgt := by omega
  exact rn_next hm hd (Or.inr rfl) (by simp only [am_ex, if_neg h, ho, am_br, if_pos h0, h1])
theorem rn_ls {x : Int32} {df off : Int} {ps : Array (Int × Int)} {tgt : Nat} (hm : am_m y = q) (hd : decode q.2.1 pc = .ok (.lookupswitch df ps, len)) (hs : (ps.toList.zip (ps.toList.drop 1)).all (fun (a, next) => a.1 < next.1) = true) (ho : Op.lookupswitch.offset ps.toList df x.toInt = off) (ht : (pc : Int) + off = (tgt : Int)) : rn_r d y pc ls (.int x :: st) M = rn_r d y tgt ls st M := by
  have h0 : 0 ≤ (pc : Int) + off := by omega
  have h1 : ((pc : Int) + off).toNat = tgt := by omega
  exact rn_next hm hd (Or.inr rfl) (by simp only [am_ex, if_pos hs, ho, am_br, if_pos h0, h1])
theorem rn_ti {x : Int32} {v : Int} (h : x.toInt = v) : x = Int32.ofInt v := by
  rw [← h]; simp
end RNL
