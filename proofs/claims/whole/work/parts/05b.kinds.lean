/-! one lemma an instruction kind, over rn_r -/
section RNK
variable {d y pc len : Nat} {ls : am_Loc} {st : List Value} {M : am_Mem} {q : MethodName × ByteArray × Nat × Option FieldType × Nat × Nat}
theorem rn_iconst {n : Int} {v : Int32} (hm : am_m y = q) (hd : decode q.2.1 pc = .ok (.iconst n, 1)) (hv : Int32.ofInt n = v) : rn_r d y pc ls st M = rn_r d y (pc + 1) ls (.int v :: st) M := by subst hv; exact rn_next hm hd (Or.inl rfl) rfl
theorem rn_bipush {n : Int} {v : Int32} (hm : am_m y = q) (hd : decode q.2.1 pc = .ok (.bipush n, 2)) (hv : (Int8.ofInt n).toInt32 = v) : rn_r d y pc ls st M = rn_r d y (pc + 2) ls (.int v :: st) M := by subst hv; exact rn_next hm hd (Or.inl rfl) rfl
theorem rn_sipush {n : Int} {v : Int32} (hm : am_m y = q) (hd : decode q.2.1 pc = .ok (.sipush n, 3)) (hv : (Int16.ofInt n).toInt32 = v) : rn_r d y pc ls st M = rn_r d y (pc + 3) ls (.int v :: st) M := by subst hv; exact rn_next hm hd (Or.inl rfl) rfl
theorem rn_lconst {n : Fin 2} {v : Int64} (hm : am_m y = q) (hd : decode q.2.1 pc = .ok (.lconst n, 1)) (hv : Int64.ofNat (n : Nat) = v) : rn_r d y pc ls st M = rn_r d y (pc + 1) ls (.long v :: st) M := by subst hv; exact rn_next hm hd (Or.inl rfl) rfl
theorem rn_ldc {x j : Nat} {v : Value} (hm : am_m y = q) (hd : decode q.2.1 pc = .ok (.ldc x, 2)) (hk : am_lk am_ldcL q.2.2.2.2.1 x = some (v, j)) : rn_r d y pc ls st M = rn_r d y (pc + 2) ls (v :: st) M := by
  have hk' : am_lk am_ldcL (am_ow y) x = some (v, j) := by unfold am_ow; rw [hm]; exact hk
  exact rn_next hm hd (Or.inl rfl) (by simp only [am_ex, hk'])
theorem rn_ldcw {x j : Nat} {v : Int32} (hm : am_m y = q) (hd : decode q.2.1 pc = .ok (.ldc_w x, 3)) (hk : am_lk am_ldwL q.2.2.2.2.1 x = some (v, j)) : rn_r d y pc ls st M = rn_r d y (pc + 3) ls (.int v :: st) M := by
  have hk' : am_lk am_ldwL (am_ow y) x = some (v, j) := by unfold am_ow; rw [hm]; exact hk
  exact rn_next hm hd (Or.inl rfl) (by simp only [am_ex, hk'])
theorem rn_ldc2 {x j : Nat} {v : Int64} (hm : am_m y = q) (hd : decode q.2.1 pc = .ok (.ldc2_w x, 3)) (hk : am_lk am_ld2L q.2.2.2.2.1 x = some (v, j)) : rn_r d y pc ls st M = rn_r d y (pc + 3) ls (.long v :: st) M := by
  have hk' : am_lk am_ld2L (am_ow y) x = some (v, j) := by unfold am_ow; rw [hm]; exact hk
  exact rn_next hm hd (Or.inl rfl) (by simp only [am_ex, hk'])
theorem rn_ifs {cd : Jvm.ClassFile.Cond} {x : Int32} {off : Int} {tgt : Nat} {p : Prop} {dp : Decidable p} (hm : am_m y = q) (hd : decode q.2.1 pc = .ok (.ifCond cd off, 3)) (ht : (pc : Int) + off = (tgt : Int)) (hp : p ↔ am_cc cd x 0 = true) : rn_r d y pc ls (.int x :: st) M = if p then rn_r d y tgt ls st M else rn_r d y (pc + 3) ls st M := by
  have h0 : 0 ≤ (pc : Int) + off := by omega
  have h1 : ((pc : Int) + off).toNat = tgt := by omega
  refine rn_nextB hm hd (Or.inl rfl) (fun h => ?_) (fun h => ?_)
  · simp only [am_ex, if_pos h0, if_pos (hp.mp h), h1]
  · simp only [am_ex, if_pos h0, if_neg (fun z => h (hp.mpr z))]
theorem rn_cmp {cd : Jvm.ClassFile.Cond} {x z : Int32} {off : Int} {tgt : Nat} {p : Prop} {dp : Decidable p} (hm : am_m y = q) (hd : decode q.2.1 pc = .ok (.if_icmp cd off, 3)) (ht : (pc : Int) + off = (tgt : Int)) (hp : p ↔ am_cc cd x z = true) : rn_r d y pc ls (.int z :: .int x :: st) M = if p then rn_r d y tgt ls st M else rn_r d y (pc + 3) ls st M := by
  have h0 : 0 ≤ (pc : Int) + off := by omega
  have h1 : ((pc : Int) + off).toNat = tgt := by omega
  refine rn_nextB hm hd (Or.inl rfl) (fun h => ?_) (fun h => ?_)
  · simp only [am_ex, if_pos h0, if_pos (hp.mp h), h1]
  · simp only [am_ex, if_pos h0, if_neg (fun w => h (hp.mpr w))]
theorem rn_cc_eq {x z : Int32} : x = z ↔ am_cc .eq x z = true := by simp [am_cc]
theorem rn_cc_ne {x z : Int32} : ¬ x = z ↔ am_cc .ne x z = true := by simp [am_cc]
theorem rn_cc_lt {x z : Int32} : x < z ↔ am_cc .lt x z = true := by simp [am_cc]
theorem rn_cc_ge {x z : Int32} : z ≤ x ↔ am_cc .ge x z = true := by simp [am_cc]
theorem rn_cc_gt {x z : Int32} : z < x ↔ am_cc .gt x z = true := by simp [am_cc]
theorem rn_cc_le {x z : Int32} : x ≤ z ↔ am_cc .le x z = true := by simp [am_cc]
theorem rn_goto {off : Int} {tgt : Nat} (hm : am_m y = q) (hd : decode q.2.1 pc = .ok (.goto off, 3)) (ht : (pc : Int) + off = (tgt : Int)) : rn_r d y pc ls st M = rn_r d y tgt ls st M := by
  have h0 : 0 ≤ (pc : Int) + off := by omega
  have h1 : ((pc : Int) + off).toNat = tgt := by omega
  exact rn_next hm hd (Or.inl rfl) (by simp only [am_ex, am_br, if_pos h0, h1])
theorem rn_c1 {α : Type} {t x : Nat} {A B : α} : (if [t].contains x = true then A else B) = if x = t then A else B := by
  by_cases h : x = t <;> simp [h]
theorem rn_fin {fin : Nat} (hm : am_m y = q) (hf : fin = 0 ∨ fin = 1 ∧ q.1.name = "<init>") : ¬ (¬ fin = 0 ∧ ¬ (fin = 1 ∧ (am_nm y).name = "<init>")) := by
  unfold am_nm
  rw [hm]
  intro z
  rcases hf with g | g
  · exact z.1 g
  · exact z.2 g
theorem rn_put0 {x k fin j a : Nat} {tags : List Nat} {z : Int32} (hm : am_m y = q) (hd : decode q.2.1 pc = .ok (.putfield x, 3)) (hk : am_lk am_fldL q.2.2.2.2.1 x = some (k, 0, fin, tags, j)) (hf : fin = 0 ∨ fin = 1 ∧ q.1.name = "<init>") : rn_r d y pc ls (.int z :: .ref a :: st) M = if tags.contains (M.1 a).1 = true then rn_r d y (pc + 3) ls st (M.1, am_u M.2.1 a k z, M.2.2) else none := by
  have hk' : am_lk am_fldL (am_ow y) x = some (k, 0, fin, tags, j) := by unfold am_ow; rw [hm]; exact hk
  have hf' : ¬ (¬ fin = 0 ∧ ¬ (fin = 1 ∧ (am_nm y).name = "<init>")) := rn_fin hm hf
  refine rn_nextIf (p := tags.contains (M.1 a).1 = true) (dp := inferInstance) hm hd (Or.inl rfl) ?_
  simp only [am_ex, am_put, hk', if_neg hf']
theorem rn_put1 {x k fin j a : Nat} {tags : List Nat} {z : Int32} (hm : am_m y = q) (hd : decode q.2.1 pc = .ok (.putfield x, 3)) (hk : am_lk am_fldL q.2.2.2.2.1 x = some (k, 1, fin, tags, j)) (hf : fin = 0 ∨ fin = 1 ∧ q.1.name = "<init>") : rn_r d y pc ls (.int z :: .ref a :: st) M = if tags.contains (M.1 a).1 = true ∧ (z = 0 ∨ z = 1) then rn_r d y (pc + 3) ls st (M.1, am_u M.2.1 a k z, M.2.2) else none := by
  have hk' : am_lk am_fldL (am_ow y) x = some (k, 1, fin, tags, j) := by unfold am_ow; rw [hm]; exact hk
  have hf' : ¬ (¬ fin = 0 ∧ ¬ (fin = 1 ∧ (am_nm y).name = "<init>")) := rn_fin hm hf
  refine rn_nextIf (p := tags.contains (M.1 a).1 = true ∧ (z = 0 ∨ z = 1)) (dp := inferInstance) hm hd (Or.inl rfl) ?_
  simp only [am_ex, am_put, hk', if_neg hf']
theorem rn_put2 {x k fin j a : Nat} {tags : List Nat} {z : Int64} (hm : am_m y = q) (hd : decode q.2.1 pc = .ok (.putfield x, 3)) (hk : am_lk am_fldL q.2.2.2.2.1 x = some (k, 2, fin, tags, j)) (hf : fin = 0 ∨ fin = 1 ∧ q.1.name = "<init>") : rn_r d y pc ls (.long z :: .ref a :: st) M = if tags.contains (M.1 a).1 = true then rn_r d y (pc + 3) ls st (M.1, M.2.1, am_u M.2.2.1 a k z, M.2.2.2) else none := by
  have hk' : am_lk am_fldL (am_ow y) x = some (k, 2, fin, tags, j) := by unfold am_ow; rw [hm]; exact hk
  have hf' : ¬ (¬ fin = 0 ∧ ¬ (fin = 1 ∧ (am_nm y).name = "<init>")) := rn_fin hm hf
  refine rn_nextIf (p := tags.contains (M.1 a).1 = true) (dp := inferInstance) hm hd (Or.inl rfl) ?_
  simp only [am_ex, am_put, hk', if_neg hf']
theorem rn_put3 {x k fin j a z : Nat} {tags : List Nat} (hm : am_m y = q) (hd : decode q.2.1 pc = .ok (.putfield x, 3)) (hk : am_lk am_fldL q.2.2.2.2.1 x = some (k, 3, fin, tags, j)) (hf : fin = 0 ∨ fin = 1 ∧ q.1.name = "<init>") : rn_r d y pc ls (.ref z :: .ref a :: st) M = if tags.contains (M.1 a).1 = true ∧ (1 ≤ (M.1 z).1 ∧ (M.1 z).1 < 30) then rn_r d y (pc + 3) ls st (M.1, M.2.1, M.2.2.1, am_u M.2.2.2.1 a k (some z), M.2.2.2.2) else none := by
  have hk' : am_lk am_fldL (am_ow y) x = some (k, 3, fin, tags, j) := by unfold am_ow; rw [hm]; exact hk
  have hf' : ¬ (¬ fin = 0 ∧ ¬ (fin = 1 ∧ (am_nm y).name = "<init>")) := rn_fin hm hf
  refine rn_nextIf (p := tags.contains (M.1 a).1 = true ∧ (1 ≤ (M.1 z).1 ∧ (M.1 z).1 < 30)) (dp := inferInstance) hm hd (Or.inl rfl) ?_
  simp only [am_ex, am_put, hk', if_neg hf']
theorem rn_put3n {x k fin j a : Nat} {tags : List Nat} (hm : am_m y = q) (hd : decode q.2.1 pc = .ok (.putfield x, 3)) (hk : am_lk am_fldL q.2.2.2.2.1 x = some (k, 3, fin, tags, j)) (hf : fin = 0 ∨ fin = 1 ∧ q.1.name = "<init>") : rn_r d y pc ls (.null :: .ref a :: st) M = if tags.contains (M.1 a).1 = true then rn_r d y (pc + 3) ls st (M.1, M.2.1, M.2.2.1, am_u M.2.2.2.1 a k none, M.2.2.2.2) else none := by
  have hk' : am_lk am_fldL (am_ow y) x = some (k, 3, fin, tags, j) := by unfold am_ow; rw [hm]; exact hk
  have hf' : ¬ (¬ fin = 0 ∧ ¬ (fin = 1 ∧ (am_nm y).name = "<init>")) := rn_fin hm hf
  refine rn_nextIf (p := tags.contains (M.1 a).1 = true) (dp := inferInstance) hm hd (Or.inl rfl) ?_
  simp only [am_ex, am_put, hk', if_neg hf']
theorem rn_gst {x j k : Nat} {v : Value} (hm : am_m y = q) (hd : decode q.2.1 pc = .ok (.getstatic x, 3)) (hk : am_lk am_gstL q.2.2.2.2.1 x = some (k, j)) (hv : v = if k = 0 then .int 1 else .ref 50) : rn_r d y pc ls st M = rn_r d y (pc + 3) ls (v :: st) M := by
  have hk' : am_lk am_gstL (am_ow y) x = some (k, j) := by unfold am_ow; rw [hm]; exact hk
  subst hv
  refine rn_next hm hd (Or.inl rfl) ?_
  cases k <;> simp [am_ex, hk']
theorem rn_sf0 {x j a : Nat} (hm : am_m y = q) (hd : decode q.2.1 pc = .ok (.getfield x, 3)) (hk0 : am_lk am_fldL q.2.2.2.2.1 x = none) (hk : am_lk am_sfL q.2.2.2.2.1 x = some (0, j)) : rn_r d y pc ls (.ref a :: st) M = if (M.1 a).1 = 31 then rn_r d y (pc + 3) ls (.ref (a + 20) :: st) M else none := by
  have hk' : am_lk am_sfL (am_ow y) x = some (0, j) := by unfold am_ow; rw [hm]; exact hk
  have hk0' : am_lk am_fldL (am_ow y) x = none := by unfold am_ow; rw [hm]; exact hk0
  refine rn_nextIf (p := (M.1 a).1 = 31) (dp := inferInstance) hm hd (Or.inl rfl) ?_
  simp only [am_ex, am_get, hk', hk0']
theorem rn_sf1 {x j a : Nat} (hm : am_m y = q) (hd : decode q.2.1 pc = .ok (.getfield x, 3)) (hk0 : am_lk am_fldL q.2.2.2.2.1 x = none) (hk : am_lk am_sfL q.2.2.2.2.1 x = some (1, j)) : rn_r d y pc ls (.ref a :: st) M = if (M.1 a).1 = 31 then rn_r d y (pc + 3) ls (.int 0 :: st) M else none := by
  have hk' : am_lk am_sfL (am_ow y) x = some (1, j) := by unfold am_ow; rw [hm]; exact hk
  have hk0' : am_lk am_fldL (am_ow y) x = none := by unfold am_ow; rw [hm]; exact hk0
  refine rn_nextIf (p := (M.1 a).1 = 31) (dp := inferInstance) hm hd (Or.inl rfl) ?_
  simp only [am_ex, am_get, hk', hk0']
theorem rn_newo {x t n : Nat} {js : Nat × Nat × Nat} (hm : am_m y = q) (hd : decode q.2.1 pc = .ok (.new x, 3)) (hk : am_lk am_newL q.2.2.2.2.1 x = some (t, n, js)) : rn_r d y pc ls st M = rn_r d y (pc + 3) ls (.ref M.2.2.2.2.1 :: st) (am_new t 0 n M) := by
  have hk' : am_lk am_newL (am_ow y) x = some (t, n, js) := by unfold am_ow; rw [hm]; exact hk
  exact rn_next hm hd (Or.inl rfl) (by simp only [am_ex, hk'])
theorem rn_anew {x t : Nat} {n : Int32} {js : Nat × Nat} (hm : am_m y = q) (hd : decode q.2.1 pc = .ok (.anewarray x, 3)) (hk : am_lk am_anewL q.2.2.2.2.1 x = some (t, js)) : rn_r d y pc ls (.int n :: st) M = if n < 0 ∨ 67108864 < n.toNatClampNeg then none else rn_r d y (pc + 3) ls (.ref M.2.2.2.2.1 :: st) (am_new t n.toNatClampNeg n.toNatClampNeg M) := by
  have hk' : am_lk am_anewL (am_ow y) x = some (t, js) := by unfold am_ow; rw [hm]; exact hk
  by_cases h : n < 0 ∨ 67108864 < n.toNatClampNeg
  · rw [if_pos h]; exact rn_dead hm hd (Or.inl rfl) (by simp only [am_ex, hk', if_pos h])
  · rw [if_neg h]; exact rn_next hm hd (Or.inl rfl) (by simp only [am_ex, hk', if_neg h])
theorem rn_newa {at_ : ArrayType} {t : Nat} {n : Int32} (hm : am_m y = q) (hd : decode q.2.1 pc = .ok (.newarray at_, 2)) (ht : (at_ = .int ∧ t = 20) ∨ (at_ = .long ∧ t = 21) ∨ (at_ = .byte ∧ t = 22) ∨ (at_ = .boolean ∧ t = 23)) : rn_r d y pc ls (.int n :: st) M = if n < 0 ∨ 67108864 < n.toNatClampNeg then none else rn_r d y (pc + 2) ls (.ref M.2.2.2.2.1 :: st) (am_new t n.toNatClampNeg n.toNatClampNeg M) := by
  by_cases h : n < 0 ∨ 67108864 < n.toNatClampNeg
  · rw [if_pos h]; exact rn_dead hm hd (Or.inl rfl) (by simp only [am_ex, if_pos h])
  · rw [if_neg h]
    rcases ht with ⟨rfl, rfl⟩ | ⟨rfl, rfl⟩ | ⟨rfl, rfl⟩ | ⟨rfl, rfl⟩ <;> exact rn_next hm hd (Or.inl rfl) (by simp only [am_ex, if_neg h])
theorem rn_inst {x a j : Nat} {ys ns : List Nat} (hm : am_m y = q) (hd : decode q.2.1 pc = .ok (.instanceof x, 3)) (hk : am_lk am_instL q.2.2.2.2.1 x = some (ys, ns, j)) : rn_r d y pc ls (.ref a :: st) M = if ys.contains (M.1 a).1 = true then rn_r d y (pc + 3) ls (.int 1 :: st) M else if ns.contains (M.1 a).1 = true then rn_r d y (pc + 3) ls (.int 0 :: st) M else none := by
  have hk' : am_lk am_instL (am_ow y) x = some (ys, ns, j) := by unfold am_ow; rw [hm]; exact hk
  by_cases h : ys.contains (M.1 a).1 = true
  · rw [if_pos h]; exact rn_next hm hd (Or.inl rfl) (by simp only [am_ex, hk', if_pos h])
  · rw [if_neg h]
    by_cases h2 : ns.contains (M.1 a).1 = true
    · rw [if_pos h2]; exact rn_next hm hd (Or.inl rfl) (by simp only [am_ex, hk', if_neg h, if_pos h2])
    · rw [if_neg h2]; exact rn_dead hm hd (Or.inl rfl) (by simp only [am_ex, hk', if_neg h, if_neg h2])
theorem rn_acp {x a c jj : Nat} {n dp sp : Int32} (hm : am_m y = q) (hd : decode q.2.1 pc = .ok (.invokestatic x, 3)) (hk : am_lk am_acL q.2.2.2.2.1 x = some jj) (h8 : am_sum st ≤ 8) : rn_r (d + 1) y pc ls (.int n :: .int dp :: .ref a :: .int sp :: .ref c :: st) M =
    if ((M.1 a).1 = (M.1 c).1 ∧ ((M.1 a).1 = 20 ∨ (M.1 a).1 = 22 ∧ ((List.range n.toNatClampNeg).all fun i => fits .byte (.int (M.2.1 c (sp.toNatClampNeg + i)))) = true)) ∧ (¬ sp < 0 ∧ ¬ dp < 0 ∧ ¬ n < 0) ∧ sp.toNatClampNeg + n.toNatClampNeg ≤ (M.1 c).2 ∧ dp.toNatClampNeg + n.toNatClampNeg ≤ (M.1 a).2
    then rn_r (d + 1) y (pc + 3) ls st (M.1, am_cpy M.2.1 c sp.toNatClampNeg a dp.toNatClampNeg n.toNatClampNeg, M.2.2) else none := by
  have hk' : am_lk am_acL (am_ow y) x = some jj := by unfold am_ow; rw [hm]; exact hk
  refine rn_nextIf (dp := inferInstance) hm hd (Or.inl rfl) ?_
  simp only [am_ex, hk', am_acp, if_pos (Nat.succ_pos d), h8, and_true]
theorem rn_ret {ty : FieldType} {x : Int32} (hm : am_m y = q) (hd : decode q.2.1 pc = .ok (.ireturn, 1)) (hr : q.2.2.2.1 = some ty) : rn_r d y pc ls [.int x] M = if narrow ty (.int x) = .int x then some (some (.int x), M) else none := by
  have hr' : am_rt y = some ty := by unfold am_rt; rw [hm]; exact hr
  refine rn_stopIf (p := narrow ty (.int x) = .int x) (dp := inferInstance) hm hd (Or.inl rfl) ?_
  simp only [am_ex, hr']
theorem rn_reti {x : Int32} (hm : am_m y = q) (hd : decode q.2.1 pc = .ok (.ireturn, 1)) (hr : q.2.2.2.1 = some .int) : rn_r d y pc ls [.int x] M = some (some (.int x), M) := (rn_ret hm hd hr).trans (if_pos rfl)
theorem rn_retz {x : Int32} (hm : am_m y = q) (hd : decode q.2.1 pc = .ok (.ireturn, 1)) (hr : q.2.2.2.1 = some .boolean) : rn_r d y pc ls [.int x] M = if x &&& 1 = x then some (some (.int x), M) else none := by
  rw [rn_ret hm hd hr]
  by_cases h : x &&& 1 = x
  · rw [if_pos h, if_pos (by show Value.int (x &&& 1) = _; rw [h])]
  · rw [if_neg h, if_neg (show ¬ (narrow .boolean (.int x) = .int x) from fun z => h (Value.int.inj z))]
theorem rn_retl {x : Int64} (hm : am_m y = q) (hd : decode q.2.1 pc = .ok (.lreturn, 1)) (hr : q.2.2.2.1 = some .long) : rn_r d y pc ls [.long x] M = some (some (.long x), M) := by
  have hr' : am_rt y = some .long := by unfold am_rt; rw [hm]; exact hr
  exact rn_stop hm hd (Or.inl rfl) (by simp only [am_ex, hr'])
theorem rn_reta {a : Nat} {cn : String} (hm : am_m y = q) (hd : decode q.2.1 pc = .ok (.areturn, 1)) (hr : q.2.2.2.1 = some (.object cn)) : rn_r d y pc ls [.ref a] M = if ¬ (M.1 a).1 = 0 then some (some (.ref a), M) else none := by
  have hr' : am_rt y = some (.object cn) := by unfold am_rt; rw [hm]; exact hr
  refine rn_stopIf (p := ¬ (M.1 a).1 = 0) (dp := inferInstance) hm hd (Or.inl rfl) ?_
  simp only [am_ex, hr']
theorem rn_retn {cn : String} (hm : am_m y = q) (hd : decode q.2.1 pc = .ok (.areturn, 1)) (hr : q.2.2.2.1 = some (.object cn)) : rn_r d y pc ls [.null] M = some (some .null, M) := by
  have hr' : am_rt y = some (.object cn) := by unfold am_rt; rw [hm]; exact hr
  exact rn_stop hm hd (Or.inl rfl) (by simp only [am_ex, hr'])
theorem rn_retv (hm : am_m y = q) (hd : decode q.2.1 pc = .ok (.return_, 1)) (hr : q.2.2.2.1 = none) : rn_r d y pc ls [] M = some (none, M) := by
  have hr' : am_rt y = none := by unfold am_rt; rw [hm]; exact hr
  exact rn_stop hm hd (Or.inl rfl) (by simp only [am_ex, hr'])
theorem rn_ts {x : Int32} {df lo hi : Int} {offs : Array Int} {len tgt : Nat} (hm : am_m y = q) (hd : decode q.2.1 pc = .ok (.tableswitch df lo hi offs, len)) (h : x.toInt < lo ∨ hi < x.toInt) (ht : (pc : Int) + df = (tgt : Int)) : rn_r d y pc ls (.int x :: st) M = rn_r d y tgt ls st M := by
  have h0 : 0 ≤ (pc : Int) + df := by omega
  have h1 : ((pc : Int) + df).toNat = tgt := by omega
  exact rn_next hm hd (Or.inr rfl) (by simp only [am_ex, if_pos h, am_br, if_pos h0, h1])
theorem rn_tsOut {x : Int32} {lo hi : Int} (hlo : -2147483648 ≤ lo) (hhi : hi < 2147483648) (h : ∀ k : Int, lo ≤ k → k ≤ hi → x ≠ Int32.ofInt k) : x.toInt < lo ∨ hi < x.toInt := by
  refine Classical.byContradiction fun z => ?_
  have h1 : lo ≤ x.toInt := by omega
  have h2 : x.toInt ≤ hi := by omega
  exact h _ h1 h2 (by simp)
end RNK
