/-! THE SIMULATION, part eight: every instruction; every run -/
section SIM8
variable {p : Program} {l : Launch} {e : Env} {R : Room} {s : State} {m : MethodId} {args : Array Value} {below : List Frame} {meth : Method} {c : Code} {base : Nat} {fr : Nat → Value} {cT : Nat → ClassId} {D : va_G} {L : Nat} {xs : Nat → Int32} {Q : State → Prop} {n0 s0 y d : Nat}
variable {pc pc' : Nat} {ls ls' : am_Loc} {st st' : List Value} {M M' M1 : am_Mem} {H H1 : Heap} {locs : List Loc} {cells slots : Nat} {lsr : Array Slot} {rest : List Value}
theorem am_W_if {cc : ByteArray} (hx : p.tables.exec = Jvm.exec) (hb : c.code = cc) {cd : Jvm.ClassFile.Cond} {x : Int32} {off : Int} {tgt : Nat} (hd : decode cc pc = .ok (.ifCond cd off, 3)) (ht : (pc : Int) + off = (tgt : Int)) (kt : am_cc cd x 0 = true → W p l e R s m args below meth c H locs cells slots Q (F0 m tgt lsr rest)) (kf : ¬ am_cc cd x 0 = true → W p l e R s m args below meth c H locs cells slots Q (F0 m (pc + 3) lsr rest)) : W p l e R s m args below meth c H locs cells slots Q (F0 m pc lsr (.int x :: rest)) := by
  cases cd
  · exact lv_if_eq hx hb hd ht (fun h => kt (by simpa [am_cc] using h)) (fun h => kf (by simpa [am_cc] using h))
  · exact lv_if_ne hx hb hd ht (fun h => kt (by simpa [am_cc] using h)) (fun h => kf (by simpa [am_cc] using h))
  · exact lv_if_lt hx hb hd ht (fun h => kt (by simpa [am_cc] using h)) (fun h => kf (by simpa [am_cc] using h))
  · exact lv_if_ge hx hb hd ht (fun h => kt (by simpa [am_cc] using h)) (fun h => kf (by simpa [am_cc] using h))
  · exact lv_if_gt hx hb hd ht (fun h => kt (by simpa [am_cc] using h)) (fun h => kf (by simpa [am_cc] using h))
  · exact lv_if_le hx hb hd ht (fun h => kt (by simpa [am_cc] using h)) (fun h => kf (by simpa [am_cc] using h))
theorem am_W_icmp {cc : ByteArray} (hx : p.tables.exec = Jvm.exec) (hb : c.code = cc) {cd : Jvm.ClassFile.Cond} {x z : Int32} {off : Int} {tgt : Nat} (hd : decode cc pc = .ok (.if_icmp cd off, 3)) (ht : (pc : Int) + off = (tgt : Int)) (kt : am_cc cd x z = true → W p l e R s m args below meth c H locs cells slots Q (F0 m tgt lsr rest)) (kf : ¬ am_cc cd x z = true → W p l e R s m args below meth c H locs cells slots Q (F0 m (pc + 3) lsr rest)) : W p l e R s m args below meth c H locs cells slots Q (F0 m pc lsr (.int z :: .int x :: rest)) := by
  cases cd
  · exact lv_icmp_eq hx hb hd ht (fun h => kt (by simpa [am_cc] using h)) (fun h => kf (by simpa [am_cc] using h))
  · exact lv_icmp_ne hx hb hd ht (fun h => kt (by simpa [am_cc] using h)) (fun h => kf (by simpa [am_cc] using h))
  · exact lv_icmp_lt hx hb hd ht (fun h => kt (by simpa [am_cc] using h)) (fun h => kf (by simpa [am_cc] using h))
  · exact lv_icmp_ge hx hb hd ht (fun h => kt (by simpa [am_cc] using h)) (fun h => kf (by simpa [am_cc] using h))
  · exact lv_icmp_gt hx hb hd ht (fun h => kt (by simpa [am_cc] using h)) (fun h => kf (by simpa [am_cc] using h))
  · exact lv_icmp_le hx hb hd ht (fun h => kt (by simpa [am_cc] using h)) (fun h => kf (by simpa [am_cc] using h))
theorem am_step (hF : am_Fx p s m args meth c y) (hC : am_Ctx base fr cT D L xs s) (hf : am_Foreign fr) {i : Instr} {len : Nat} (hd : decode (am_bc y) pc = .ok (i, len)) (hlen : am_len i = len ∨ am_len i = 0) (he : am_ex d y i pc ls st M = some (.inl (pc', ls', st', M'))) (hn0 : n0 ≤ M.2.2.2.2.1 ∧ s0 ≤ M.2.2.2.2.2) (hroom : M'.2.2.2.2.1 - n0 ≤ R.cells ∧ M'.2.2.2.2.2 - s0 ≤ R.slots) (hR : d ≤ R.frames ∧ 41 * d ≤ R.locals)
    (k : am_J p l e R s m args below meth c base fr cT D L xs Q n0 s0 y pc' ls' st' M') : am_J p l e R s m args below meth c base fr cT D L xs Q n0 s0 y pc ls st M := by
  obtain ⟨hx, hb, hml, hown, hts, hin2, hr, hlocks⟩ := id hF
  have l1 : am_len i = 1 → len = 1 := fun g => by omega
  have l2 : am_len i = 2 → len = 2 := fun g => by omega
  have l3 : am_len i = 3 → len = 3 := fun g => by omega
  have nocall : ∀ {z as rest}, am_call z as rest = some (.inl (pc', ls', st', M')) → False := fun h => by unfold am_call at h; split at h <;> cases h
  cases i
  case aconst_null =>
    cases l1 rfl
    obtain ⟨rfl, rfl, rfl, rfl⟩ := am_nx_inv he
    exact fun H locs lsr hI hlv => lv_null hx hb hd (k H locs lsr hI hlv)
  case iconst n =>
    cases l1 rfl
    obtain ⟨rfl, rfl, rfl, rfl⟩ := am_nx_inv he
    exact fun H locs lsr hI hlv => lv_iconst hx hb hd rfl (k H locs lsr hI hlv)
  case bipush n =>
    cases l2 rfl
    obtain ⟨rfl, rfl, rfl, rfl⟩ := am_nx_inv he
    exact fun H locs lsr hI hlv => lv_bipush hx hb hd rfl (k H locs lsr hI hlv)
  case sipush n =>
    cases l3 rfl
    obtain ⟨rfl, rfl, rfl, rfl⟩ := am_nx_inv he
    exact fun H locs lsr hI hlv => lv_sipush hx hb hd rfl (k H locs lsr hI hlv)
  case lconst n =>
    cases l1 rfl
    obtain ⟨rfl, rfl, rfl, rfl⟩ := am_nx_inv he
    exact fun H locs lsr hI hlv => lv_lconst hx hb hd rfl (k H locs lsr hI hlv)
  case ldc x =>
    cases l2 rfl
    exact am_q_ldc hF hC hd d he k
  case ldc_w x =>
    cases l3 rfl
    simp only [am_ex] at he
    split at he
    · rename_i v j hlk
      obtain ⟨rfl, rfl, rfl, rfl⟩ := am_nx_inv he
      have hck := of_decide_eq_true (List.all_eq_true.mp am_ldw_ok _ (am_lk_mem hlk))
      exact fun H locs lsr hI hlv => lv_ldcw hx hb hown (hts _ (am_in (List.mem_of_getElem? hck))) hd (k H locs lsr hI hlv)
    · cases he
  case ldc2_w x =>
    cases l3 rfl
    simp only [am_ex] at he
    split at he
    · rename_i v j hlk
      obtain ⟨rfl, rfl, rfl, rfl⟩ := am_nx_inv he
      have hck := of_decide_eq_true (List.all_eq_true.mp am_ld2_ok _ (am_lk_mem hlk))
      exact fun H locs lsr hI hlv => lv_ldc2 hx hb hown (hts _ (am_in (List.mem_of_getElem? hck))) hd (k H locs lsr hI hlv)
    · cases he
  case iload j =>
    cases l2 rfl
    exact am_q_li (w := 2) he k (fun x H locs lsr r h kk => lv_iload hx hb hd h kk)
  case iload_n j =>
    cases l1 rfl
    exact am_q_li (w := 1) he k (fun x H locs lsr r h kk => lv_iload_n hx hb hd rfl h kk)
  case lload j =>
    cases l2 rfl
    exact am_q_ll (w := 2) he k (fun x H locs lsr r h kk => lv_lload hx hb hd h kk)
  case lload_n j =>
    cases l1 rfl
    exact am_q_ll (w := 1) he k (fun x H locs lsr r h kk => lv_lload_n hx hb hd rfl h kk)
  case aload j =>
    cases l2 rfl
    exact am_q_la (w := 2) hf.1 he k (fun x H locs lsr r h kk => lv_aload hx hb hd h kk) (fun H locs lsr r h kk => lv_aloadN hx hb hd h kk)
  case aload_n j =>
    cases l1 rfl
    exact am_q_la (w := 1) hf.1 he k (fun x H locs lsr r h kk => lv_aload_n hx hb hd rfl h kk) (fun H locs lsr r h kk => lv_aload_nN hx hb hd rfl h kk)
  case istore j =>
    cases l2 rfl
    exact am_q_si (w := 2) hf.1 he k (fun x H locs lsr r lv h hk kk => lv_istore hx hb hd h hk rfl kk)
  case istore_n j =>
    cases l1 rfl
    exact am_q_si (w := 1) hf.1 he k (fun x H locs lsr r lv h hk kk => lv_istore_n hx hb hd rfl h hk rfl kk)
  case lstore j =>
    cases l2 rfl
    exact am_q_sl (w := 2) hf.1 he k (fun x H locs lsr r lv h hk kk => lv_lstore hx hb hd h hk rfl kk)
  case lstore_n j =>
    cases l1 rfl
    exact am_q_sl (w := 1) hf.1 he k (fun x H locs lsr r lv h hk kk => lv_lstore_n hx hb hd rfl h hk rfl kk)
  case astore j =>
    cases l2 rfl
    exact am_q_sa (w := 2) hf.1 he k (fun x H locs lsr r lv h hk kk => lv_astore hx hb hd h hk rfl kk) (fun H locs lsr r lv h hk kk => lv_astoreN hx hb hd h hk rfl kk)
  case astore_n j =>
    cases l1 rfl
    exact am_q_sa (w := 1) hf.1 he k (fun x H locs lsr r lv h hk kk => lv_astore_n hx hb hd rfl h hk rfl kk) (fun H locs lsr r lv h hk kk => lv_astore_nN hx hb hd rfl h hk rfl kk)
  case iinc j n =>
    cases l3 rfl
    simp only [am_ex] at he
    split at he
    · rename_i x hl
      split at he
      · rename_i hk
        obtain ⟨rfl, rfl, rfl, rfl⟩ := am_nx_inv he
        exact am_q_iinc hx hb hf.1 hd hl hk k
      · cases he
    · cases he
  case iadd =>
    cases l1 rfl
    exact am_q_i2 he k (fun x z H locs lsr r kk => lv_iadd hx hb hd kk)
  case isub =>
    cases l1 rfl
    exact am_q_i2 he k (fun x z H locs lsr r kk => lv_isub hx hb hd kk)
  case imul =>
    cases l1 rfl
    exact am_q_i2 he k (fun x z H locs lsr r kk => lv_imul hx hb hd kk)
  case iand =>
    cases l1 rfl
    exact am_q_i2 he k (fun x z H locs lsr r kk => lv_iand hx hb hd kk)
  case ior =>
    cases l1 rfl
    exact am_q_i2 he k (fun x z H locs lsr r kk => lv_ior hx hb hd kk)
  case ixor =>
    cases l1 rfl
    exact am_q_i2 he k (fun x z H locs lsr r kk => lv_ixor hx hb hd kk)
  case ishl =>
    cases l1 rfl
    exact am_q_i2 he k (fun x z H locs lsr r kk => lv_ishl hx hb hd kk)
  case ishr =>
    cases l1 rfl
    exact am_q_i2 he k (fun x z H locs lsr r kk => lv_ishr hx hb hd kk)
  case iushr =>
    cases l1 rfl
    exact am_q_i2 he k (fun x z H locs lsr r kk => lv_iushr hx hb hd rfl kk)
  case idiv =>
    cases l1 rfl
    simp only [am_ex] at he
    split at he
    · split at he
      · cases he
      · rename_i hne
        obtain ⟨rfl, rfl, rfl, rfl⟩ := am_nx_inv he
        exact fun H locs lsr hI hlv => lv_idiv hx hb hd hne (k H locs lsr hI hlv)
    · cases he
  case irem =>
    cases l1 rfl
    simp only [am_ex] at he
    split at he
    · split at he
      · cases he
      · rename_i hne
        obtain ⟨rfl, rfl, rfl, rfl⟩ := am_nx_inv he
        exact fun H locs lsr hI hlv => lv_irem hx hb hd hne (k H locs lsr hI hlv)
    · cases he
  case ineg =>
    cases l1 rfl
    exact am_q_i1 he k (fun x H locs lsr r kk => lv_ineg hx hb hd kk)
  case i2b =>
    cases l1 rfl
    exact am_q_i1 he k (fun x H locs lsr r kk => lv_i2b hx hb hd rfl kk)
  case i2c =>
    cases l1 rfl
    exact am_q_i1 he k (fun x H locs lsr r kk => lv_i2c hx hb hd rfl kk)
  case i2l =>
    cases l1 rfl
    simp only [am_ex] at he
    split at he
    · obtain ⟨rfl, rfl, rfl, rfl⟩ := am_nx_inv he
      exact fun H locs lsr hI hlv => lv_i2l hx hb hd rfl (k H locs lsr hI hlv)
    · cases he
  case l2i =>
    cases l1 rfl
    simp only [am_ex] at he
    split at he
    · obtain ⟨rfl, rfl, rfl, rfl⟩ := am_nx_inv he
      exact fun H locs lsr hI hlv => lv_l2i hx hb hd rfl (k H locs lsr hI hlv)
    · cases he
  case ladd =>
    cases l1 rfl
    exact am_q_l2 he k (fun x z H locs lsr r kk => lv_ladd hx hb hd kk)
  case lsub =>
    cases l1 rfl
    exact am_q_l2 he k (fun x z H locs lsr r kk => lv_lsub hx hb hd kk)
  case lmul =>
    cases l1 rfl
    exact am_q_l2 he k (fun x z H locs lsr r kk => lv_lmul hx hb hd kk)
  case land =>
    cases l1 rfl
    exact am_q_l2 he k (fun x z H locs lsr r kk => lv_land hx hb hd kk)
  case lor =>
    cases l1 rfl
    exact am_q_l2 he k (fun x z H locs lsr r kk => lv_lor hx hb hd kk)
  case lneg =>
    cases l1 rfl
    simp only [am_ex] at he
    split at he
    · obtain ⟨rfl, rfl, rfl, rfl⟩ := am_nx_inv he
      exact fun H locs lsr hI hlv => lv_lneg hx hb hd (k H locs lsr hI hlv)
    · cases he
  case ldiv =>
    cases l1 rfl
    simp only [am_ex] at he
    split at he
    · split at he
      · cases he
      · rename_i hne
        obtain ⟨rfl, rfl, rfl, rfl⟩ := am_nx_inv he
        exact fun H locs lsr hI hlv => lv_ldiv hx hb hd hne (k H locs lsr hI hlv)
    · cases he
  case lrem =>
    cases l1 rfl
    simp only [am_ex] at he
    split at he
    · split at he
      · cases he
      · rename_i hne
        obtain ⟨rfl, rfl, rfl, rfl⟩ := am_nx_inv he
        exact fun H locs lsr hI hlv => lv_lrem hx hb hd hne (k H locs lsr hI hlv)
    · cases he
  case lshl =>
    cases l1 rfl
    simp only [am_ex] at he
    split at he
    · obtain ⟨rfl, rfl, rfl, rfl⟩ := am_nx_inv he
      exact fun H locs lsr hI hlv => lv_lshl hx hb hd rfl (k H locs lsr hI hlv)
    · cases he
  case lshr =>
    cases l1 rfl
    simp only [am_ex] at he
    split at he
    · obtain ⟨rfl, rfl, rfl, rfl⟩ := am_nx_inv he
      exact fun H locs lsr hI hlv => lv_lshr hx hb hd rfl (k H locs lsr hI hlv)
    · cases he
  case lushr =>
    cases l1 rfl
    simp only [am_ex] at he
    split at he
    · obtain ⟨rfl, rfl, rfl, rfl⟩ := am_nx_inv he
      exact fun H locs lsr hI hlv => lv_lushr hx hb hd rfl (k H locs lsr hI hlv)
    · cases he
  case lcmp =>
    cases l1 rfl
    simp only [am_ex] at he
    split at he
    · obtain ⟨rfl, rfl, rfl, rfl⟩ := am_nx_inv he
      exact fun H locs lsr hI hlv => W.lcmp hx hb hd (k H locs lsr hI hlv)
    · cases he
  case dup =>
    cases l1 rfl
    simp only [am_ex] at he
    split at he
    · split at he
      · rename_i hc
        obtain ⟨rfl, rfl, rfl, rfl⟩ := am_nx_inv he
        exact fun H locs lsr hI hlv => lv_dup hx hb hd (by rw [am_vm_cat hf.1]; exact hc) (k H locs lsr hI hlv)
      · cases he
    · cases he
  case pop =>
    cases l1 rfl
    simp only [am_ex] at he
    split at he
    · split at he
      · rename_i hc
        obtain ⟨rfl, rfl, rfl, rfl⟩ := am_nx_inv he
        exact fun H locs lsr hI hlv => lv_pop hx hb hd (by rw [am_vm_cat hf.1]; exact hc) (k H locs lsr hI hlv)
      · cases he
    · cases he
  case dup2 =>
    cases l1 rfl
    simp only [am_ex] at he
    split at he
    · split at he
      · rename_i hc
        obtain ⟨rfl, rfl, rfl, rfl⟩ := am_nx_inv he
        exact fun H locs lsr hI hlv => lv_dup2_11 hx hb hd (by rw [am_vm_cat hf.1]; exact hc.1) (by rw [am_vm_cat hf.1]; exact hc.2) (k H locs lsr hI hlv)
      · split at he
        · rename_i hc
          obtain ⟨rfl, rfl, rfl, rfl⟩ := am_nx_inv he
          exact fun H locs lsr hI hlv => lv_dup2_2 hx hb hd (by rw [am_vm_cat hf.1]; exact hc) (k H locs lsr hI hlv)
        · cases he
    · split at he
      · rename_i hc
        obtain ⟨rfl, rfl, rfl, rfl⟩ := am_nx_inv he
        exact fun H locs lsr hI hlv => lv_dup2_2 hx hb hd (by rw [am_vm_cat hf.1]; exact hc) (k H locs lsr hI hlv)
      · cases he
    · cases he
  case ifCond cd off =>
    cases l3 rfl
    simp only [am_ex] at he
    split at he
    · split at he
      · rename_i h0
        have ht := (Int.toNat_of_nonneg h0).symm
        split at he
        · rename_i hc
          obtain ⟨rfl, rfl, rfl, rfl⟩ := am_nx_inv he
          exact fun H locs lsr hI hlv => am_W_if hx hb hd ht (fun _ => k H locs lsr hI hlv) (fun g => absurd hc g)
        · rename_i hc
          obtain ⟨rfl, rfl, rfl, rfl⟩ := am_nx_inv he
          exact fun H locs lsr hI hlv => am_W_if hx hb hd ht (fun g => absurd g hc) (fun _ => k H locs lsr hI hlv)
      · cases he
    · cases he
  case if_icmp cd off =>
    cases l3 rfl
    simp only [am_ex] at he
    split at he
    · split at he
      · rename_i h0
        have ht := (Int.toNat_of_nonneg h0).symm
        split at he
        · rename_i hc
          obtain ⟨rfl, rfl, rfl, rfl⟩ := am_nx_inv he
          exact fun H locs lsr hI hlv => am_W_icmp hx hb hd ht (fun _ => k H locs lsr hI hlv) (fun g => absurd hc g)
        · rename_i hc
          obtain ⟨rfl, rfl, rfl, rfl⟩ := am_nx_inv he
          exact fun H locs lsr hI hlv => am_W_icmp hx hb hd ht (fun g => absurd g hc) (fun _ => k H locs lsr hI hlv)
      · cases he
    · cases he
  case ifnull off =>
    cases l3 rfl
    simp only [am_ex] at he
    split at he
    · split at he
      · rename_i ha
        obtain ⟨rfl, rfl, rfl, rfl⟩ := am_nx_inv he
        intro H locs lsr hI hlv
        obtain ⟨q, ev⟩ := am_vm_ne0 hf hI ha
        rw [List.map_cons, ev]
        exact lv_ifnull hx hb hd (k H locs lsr hI hlv)
      · cases he
    · obtain ⟨ht, rfl, rfl, rfl⟩ := am_br_inv he
      exact fun H locs lsr hI hlv => lv_ifnullN hx hb hd ht (k H locs lsr hI hlv)
    · cases he
  case ifnonnull off =>
    cases l3 rfl
    simp only [am_ex] at he
    split at he
    · split at he
      · rename_i ha
        obtain ⟨ht, rfl, rfl, rfl⟩ := am_br_inv he
        intro H locs lsr hI hlv
        obtain ⟨q, ev⟩ := am_vm_ne0 hf hI ha
        rw [List.map_cons, ev]
        exact lv_ifnonnull hx hb hd ht (k H locs lsr hI hlv)
      · cases he
    · obtain ⟨rfl, rfl, rfl, rfl⟩ := am_nx_inv he
      exact fun H locs lsr hI hlv => lv_ifnonnullN hx hb hd (k H locs lsr hI hlv)
    · cases he
  case goto off =>
    cases l3 rfl
    obtain ⟨ht, rfl, rfl, rfl⟩ := am_br_inv he
    exact fun H locs lsr hI hlv => lv_goto hx hb hd ht (k H locs lsr hI hlv)
  case tableswitch df lo hi offs =>
    simp only [am_ex] at he
    split at he
    · split at he
      · rename_i ho
        obtain ⟨ht, rfl, rfl, rfl⟩ := am_br_inv he
        exact fun H locs lsr hI hlv => lv_tableOut hx hb hd ho ht (k H locs lsr hI hlv)
      · rename_i ho
        split at he
        · rename_i off hoff
          obtain ⟨ht, rfl, rfl, rfl⟩ := am_br_inv he
          exact fun H locs lsr hI hlv => lv_tableIn hx hb hd (fun g => ho (Or.inl g)) (fun g => ho (Or.inr g)) hoff ht (k H locs lsr hI hlv)
        · cases he
    · cases he
  case lookupswitch df ps =>
    simp only [am_ex] at he
    split at he
    · split at he
      · rename_i hp
        obtain ⟨ht, rfl, rfl, rfl⟩ := am_br_inv he
        exact fun H locs lsr hI hlv => lv_lookup hx hb hd hp rfl ht (k H locs lsr hI hlv)
      · cases he
    · cases he
  case getfield x =>
    cases l3 rfl
    exact am_q_get hF hC hd he k (am_sf_use _ _)
  case putfield x =>
    cases l3 rfl
    exact am_q_put hF hC hd he k
  case getstatic x =>
    cases l3 rfl
    exact am_q_gst hF hC hd d he k
  case iaload =>
    cases l1 rfl
    simp only [am_ex] at he
    split at he
    · split at he
      · rename_i ha
        obtain ⟨rfl, rfl, rfl, rfl⟩ := am_nx_inv he
        exact am_q_iald hF hC hd ha k
      · cases he
    · cases he
  case baload =>
    cases l1 rfl
    simp only [am_ex] at he
    split at he
    · split at he
      · rename_i ha
        obtain ⟨rfl, rfl, rfl, rfl⟩ := am_nx_inv he
        exact am_q_bald hF hC hd ha k
      · cases he
    · cases he
  case laload =>
    cases l1 rfl
    simp only [am_ex] at he
    split at he
    · split at he
      · rename_i ha
        obtain ⟨rfl, rfl, rfl, rfl⟩ := am_nx_inv he
        exact am_q_lald hF hC hd ha k
      · cases he
    · cases he
  case aaload =>
    cases l1 rfl
    simp only [am_ex] at he
    split at he
    · split at he
      · rename_i ha
        obtain ⟨rfl, rfl, rfl, rfl⟩ := am_nx_inv he
        exact am_q_aald hF hC hd ha k
      · cases he
    · cases he
  case iastore =>
    cases l1 rfl
    simp only [am_ex, am_sti] at he
    split at he
    · split at he
      · rename_i ha
        obtain ⟨rfl, rfl, rfl, rfl⟩ := am_nx_inv he
        exact am_q_iast hF hC hd ha k
      · cases he
    · cases he
  case bastore =>
    cases l1 rfl
    simp only [am_ex, am_bst] at he
    split at he
    · split at he
      · rename_i ha
        obtain ⟨rfl, rfl, rfl, rfl⟩ := am_nx_inv he
        exact am_q_bast hF hC hd ha k
      · split at he
        · rename_i ha
          obtain ⟨rfl, rfl, rfl, rfl⟩ := am_nx_inv he
          exact am_q_zast hF hC hd ha k
        · cases he
    · cases he
  case lastore =>
    cases l1 rfl
    simp only [am_ex] at he
    split at he
    · split at he
      · rename_i ha
        obtain ⟨rfl, rfl, rfl, rfl⟩ := am_nx_inv he
        exact am_q_last hF hC hd ha k
      · cases he
    · cases he
  case aastore =>
    cases l1 rfl
    simp only [am_ex, am_ast] at he
    split at he
    · split at he
      · rename_i ha
        obtain ⟨rfl, rfl, rfl, rfl⟩ := am_nx_inv he
        exact am_q_aast hF hC hd ha k
      · cases he
    · split at he
      · rename_i ha
        obtain ⟨rfl, rfl, rfl, rfl⟩ := am_nx_inv he
        exact am_q_aastN hF hC hd ha k
      · cases he
    · cases he
  case arraylength =>
    cases l1 rfl
    simp only [am_ex] at he
    split at he
    · split at he
      · rename_i ha
        obtain ⟨rfl, rfl, rfl, rfl⟩ := am_nx_inv he
        exact am_q_len hF hC hd ha k
      · cases he
    · cases he
  case newarray t =>
    cases l2 rfl
    exact am_q_newarray hF hC hd d hn0 hroom he k
  case anewarray x =>
    cases l3 rfl
    exact am_q_anew hF hC hd d hn0 hroom he k
  case new x =>
    cases l3 rfl
    exact am_q_new hF hC hd d hn0 hroom he k
  case instanceof x =>
    cases l3 rfl
    exact am_q_inst hF hC hd d he k
  case invokestatic x =>
    cases l3 rfl
    simp only [am_ex] at he
    split at he
    · rename_i jj hlk
      split at he
      · rename_i hd0
        exact am_q_copy hF hC hf hlk hd (by omega) he k
      · cases he
    · simp only [am_is] at he
      split at he
      · split at he
        · exact (nocall he).elim
        · cases he
      · cases he
  case invokespecial x =>
    cases l3 rfl
    simp only [am_ex, am_ip] at he
    split at he
    · rename_i jj hlk
      split at he
      · split at he
        · rename_i hcond
          obtain ⟨rfl, rfl, rfl, rfl⟩ := am_nx_inv he
          exact am_q_oinit hF hf hlk hd (by omega) hcond.2.1 hcond.2.2 k
        · cases he
      · cases he
    · split at he
      · split at he
        · split at he
          · exact (nocall he).elim
          · cases he
        · cases he
      · cases he
  case invokevirtual x =>
    simp only [am_ex, am_iv] at he
    split at he
    · split at he
      · split at he
        · exact (nocall he).elim
        · cases he
      · cases he
    · cases he
  case ireturn =>
    simp only [am_ex] at he
    split at he
    · split at he <;> cases he
    · cases he
  case lreturn =>
    simp only [am_ex] at he
    split at he <;> cases he
  case areturn =>
    simp only [am_ex] at he
    split at he
    · split at he <;> cases he
    · cases he
    · cases he
  case return_ =>
    simp only [am_ex] at he
    split at he <;> cases he
  all_goals (simp only [am_ex] at he; cases he)
end SIM8
