/-! THE SIMULATION, part six: calls -/
def am_ychk (y : Nat) : Bool := decide (am_mx y ≤ 22) && plainFor (am_nm y) && decide ((am_nm y).cls ≠ "java/lang/invoke/MethodHandle") && decide ((am_nm y).cls ≠ "java/lang/invoke/VarHandle") && decide (am_on (am_ow y) = (am_nm y).cls)
def am_cword (q : MethodName × ByteArray × Nat × Option FieldType × Nat × Nat) : Cond := .code q.1 q.2.1 q.2.2.1 q.2.2.2.1
set_option maxRecDepth 100000 in
theorem am_cd : (am_Ml.take am_law).map am_cword = (am_Ml.take am_law).filterMap (fun q => lw_tbl[q.2.2.2.2.2]?) := by rfl
theorem am_cd_in {y : Nat} (h : y < am_law) : am_cword (am_m y) ∈ lw_tbl := by
  have hl : y < am_Ml.length := Nat.lt_trans h (by decide +kernel)
  have h1 : am_cword (am_m y) ∈ (am_Ml.take am_law).map am_cword := by
    refine List.mem_map.mpr ⟨am_m y, ?_, rfl⟩
    refine List.mem_of_getElem? (i := y) ?_
    rw [List.getElem?_take_of_lt h]
    unfold am_m
    rw [List.getD_eq_getElem?_getD, List.getElem?_eq_getElem hl]
    rfl
  rw [am_cd] at h1
  obtain ⟨q, -, hq⟩ := List.mem_filterMap.mp h1
  exact List.mem_of_getElem? hq
theorem am_y_ok : (List.range am_N).all (fun y => decide (y = am_law) || am_ychk y) = true := by decide +kernel
def am_np (y n : Nat) : Bool := decide (y < am_N) && decide (y ≠ am_law) && decide ((parseMethodDescriptor (am_nm y).desc).map (fun d => d.parameters.length) = some n)
def am_w (js : List Nat) (i : Nat) (w : Cond) : Bool := decide (lw_tbl[js.getD i 0]? = some w)
def am_ischk (q : (Nat × Nat) × Nat × Nat × List Nat) : Bool :=
  am_np q.2.2.1 q.2.1 && am_w q.2.2.2 0 (.methodLink (am_on q.1.1) q.1.2 (am_nm q.2.2.1)) && am_w q.2.2.2 1 (.static (am_nm q.2.2.1)) && am_w q.2.2.2 2 (.initialized (am_nm q.2.2.1).cls)
theorem am_is_ok : am_isL.all am_ischk = true := by decide +kernel
def am_ipchk (q : (Nat × Nat) × Nat × Nat × Nat × List Nat × List Nat) : Bool :=
  (am_np q.2.2.1 q.2.1 && q.2.2.2.2.1.all (fun t => decide (1 ≤ t) && decide (t ≤ 13))) && match q.2.2.2.1 with
  | 1 => am_w q.2.2.2.2.2 0 (.methodLink (am_on q.1.1) q.1.2 (am_nm q.2.2.1)) && am_w q.2.2.2.2.2 1 (.instanceMethod (am_nm q.2.2.1)) && am_w q.2.2.2.2.2 2 (.initialized (am_nm q.2.2.1).cls) && decide ((am_nm q.2.2.1).name = "<init>") && decide (am_rt q.2.2.1 = none)
  | 2 => (match lw_tbl[q.2.2.2.2.2.getD 0 0]? with
    | some (.methodLinkNest on x y _) => decide (on = am_on q.1.1) && decide (x = q.1.2) && decide (y = am_nm q.2.2.1)
    | _ => false) && am_w q.2.2.2.2.2 1 (.instanceMethod (am_nm q.2.2.1)) && am_w q.2.2.2.2.2 2 (.initialized (am_nm q.2.2.1).cls) && decide ((am_nm q.2.2.1).name = "<init>") && decide (am_rt q.2.2.1 = none)
  | 3 => am_w q.2.2.2.2.2 0 (.methodLink (am_on q.1.1) q.1.2 (am_nm q.2.2.1)) && am_w q.2.2.2.2.2 1 (.sameMethod (am_nm q.2.2.1).cls (am_nm q.2.2.1).cls (am_nm q.2.2.1).name (am_nm q.2.2.1).desc) && am_w q.2.2.2.2.2 2 (.superclass (am_on q.1.1) (am_nm q.2.2.1).cls) && am_w q.2.2.2.2.2 3 (.instanceMethod (am_nm q.2.2.1)) && am_w q.2.2.2.2.2 4 (.initialized (am_nm q.2.2.1).cls) && decide ((am_nm q.2.2.1).name ≠ "<init>")
  | 4 => (match lw_tbl[q.2.2.2.2.2.getD 0 0]? with
    | some (.methodLink on x z) => decide (on = am_on q.1.1) && decide (x = q.1.2) && decide (am_nm q.2.2.1 = ⟨(am_nm q.2.2.1).cls, z.name, z.desc⟩) && am_w q.2.2.2.2.2 1 (.sameMethod z.cls (am_nm q.2.2.1).cls z.name z.desc) && am_w q.2.2.2.2.2 2 (.superclass (am_on q.1.1) z.cls) && am_w q.2.2.2.2.2 3 (.superclass z.cls (am_nm q.2.2.1).cls)
    | _ => false) && am_w q.2.2.2.2.2 4 (.instanceMethod (am_nm q.2.2.1)) && am_w q.2.2.2.2.2 5 (.initialized (am_nm q.2.2.1).cls) && decide ((am_nm q.2.2.1).name ≠ "<init>")
  | _ => false
theorem am_ip_ok : am_ipL.all am_ipchk = true := by decide +kernel
theorem am_ac_ok : am_acL.all (fun q => decide (lw_tbl[q.2]? = some (.methodLink (am_on q.1.1) q.1.2 arraycopyName))) = true ∧ lw_tbl[am_sysJ.1]? = some (.native arraycopyName) ∧ lw_tbl[am_sysJ.2.1]? = some (.static arraycopyName) ∧ lw_tbl[am_sysJ.2.2]? = some (.initialized "java/lang/System") := by decide +kernel
theorem am_oi_ok : am_oiL.all (fun q => decide (lw_tbl[q.2]? = some (.methodLink (am_on q.1.1) q.1.2 Lib.objectInit))) = true ∧ lw_tbl[am_objJ.1]? = some (.instanceMethod Lib.objectInit) ∧ lw_tbl[am_objJ.2]? = some (.code Lib.objectInit ⟨#[0xb1]⟩ 1 none) := by decide +kernel
def am_tname (t : Nat) : String := if t = 31 then "java/lang/String" else (am_cl t).1
def am_ivchk1 (o x n : Nat) (q : Nat × Nat × Nat × List Nat) : Bool :=
  am_np q.2.1 n && (decide (q.1 = 31) || (decide (1 ≤ q.1) && decide (q.1 ≤ 13))) && match q.2.2.1 with
  | 0 => am_w q.2.2.2 0 (.methodLink (am_on o) x (am_nm q.2.1)) && am_w q.2.2.2 1 (.instanceMethod (am_nm q.2.1)) && am_w q.2.2.2 2 (.selects (am_tname q.1) (am_nm q.2.1) (am_nm q.2.1)) && am_w q.2.2.2 3 (.initialized (am_tname q.1)) && decide ((am_nm q.2.1).cls = am_tname q.1)
  | 1 => (match lw_tbl[q.2.2.2.getD 0 0]?, lw_tbl[q.2.2.2.getD 1 0]?, lw_tbl[q.2.2.2.getD 6 0]? with
    | some (.methodLink on x' z), some (.sameMethod zc ow zn zd), some (.code c _ _ _) => decide (on = am_on o) && decide (x' = x) && decide (zc = z.cls) && decide (zn = z.name) && decide (zd = z.desc) && decide (c = ⟨ow, z.name, z.desc⟩) && am_w q.2.2.2 2 (.instanceMethod ⟨ow, z.name, z.desc⟩) && am_w q.2.2.2 3 (.selects (am_tname q.1) z (am_nm q.2.1)) && decide (ow ≠ "java/lang/invoke/MethodHandle") && decide (ow ≠ "java/lang/invoke/VarHandle") && decide ((parseMethodDescriptor z.desc).map (fun d => d.parameters.length) = some n)
    | _, _, _ => false) && am_w q.2.2.2 4 (.instanceMethod (am_nm q.2.1)) && am_w q.2.2.2 5 (.initialized (am_nm q.2.1).cls)
  | _ => false
theorem am_iv_ok : am_ivL.all (fun q => q.2.2.all (am_ivchk1 q.1.1 q.1.2 q.2.1)) = true := by decide +kernel
def am_ws (y : Nat) : List Cond := .code (am_nm y) (am_bc y) (am_mx y) (am_rt y) :: am_tb
def am_rm (d : Nat) (M M' : am_Mem) : Room := { frames := d, cells := M'.2.2.2.2.1 - M.2.2.2.2.1, slots := M'.2.2.2.2.2 - M.2.2.2.2.2, locals := 41 * d }
theorem am_tb_good {w : Cond} (h : w ∈ am_tb) : (w.onTables && w.keeps) = true ∨ ∃ ty, w = .arrayClass ty := good_of_word (List.mem_filter.mp h).2
theorem am_goodIn {y : Nat} (hy : y < am_N) (hl : y ≠ am_law) : GoodIn am_tb (am_ws y) ∧ am_mx y ≤ 22 ∧ plainFor (am_nm y) = true ∧ ((am_nm y).cls ≠ "java/lang/invoke/MethodHandle" ∧ (am_nm y).cls ≠ "java/lang/invoke/VarHandle") ∧ am_on (am_ow y) = (am_nm y).cls := by
  have h := List.all_eq_true.mp am_y_ok y (List.mem_range.mpr hy)
  simp only [Bool.or_eq_true, decide_eq_true_eq] at h
  rcases h with h | h
  · exact absurd h hl
  · unfold am_ychk at h
    simp only [Bool.and_eq_true, decide_eq_true_eq] at h
    obtain ⟨⟨⟨⟨h2, h3⟩, h4⟩, h5⟩, h6⟩ := h
    refine ⟨fun w hw => ?_, h2, h3, ⟨h4, h5⟩, h6⟩
    rcases List.mem_cons.mp hw with e | e
    · rw [e]
      have hlt : y < am_law := by
        have h1 : y < am_N := hy
        have h2 : y ≠ am_law := hl
        unfold am_N at h1
        unfold am_law at h2 ⊢
        omega
      have := am_in (w := .code (am_nm y) (am_bc y) (am_mx y) (am_rt y)) (am_cd_in hlt)
      exact ⟨this, am_tb_good this⟩
    · exact ⟨e, am_tb_good e⟩
theorem am_np_use {y n : Nat} (h : am_np y n = true) : y < am_N ∧ y ≠ am_law ∧ (parseMethodDescriptor (am_nm y).desc).map (fun d => d.parameters.length) = some n := by
  unfold am_np at h
  simp only [Bool.and_eq_true, decide_eq_true_eq] at h
  exact ⟨h.1.1, h.1.2, h.2⟩
theorem am_w_use {js : List Nat} {i : Nat} {w : Cond} (h : am_w js i w = true) : w ∈ lw_tbl := List.mem_of_getElem? (of_decide_eq_true h)
