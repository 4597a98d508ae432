/-! THE SIMULATION, part seven: constructors, super, copies, ends -/
section SIM7
variable {p : Program} {l : Launch} {e : Env} {R : Room} {s : State} {m : MethodId} {args : Array Value} {below : List Frame} {meth : Method} {c : Code} {base : Nat} {fr : Nat → Value} {cT : Nat → ClassId} {D : va_G} {L : Nat} {xs : Nat → Int32} {Q : State → Prop} {n0 s0 y d : Nat}
variable {pc pc' : Nat} {ls ls' : am_Loc} {st st' : List Value} {M M' M1 : am_Mem} {H H1 : Heap} {locs : List Loc} {cells slots : Nat} {lsr : Array Slot} {rest : List Value}
theorem am_sub2 {vm : Vm} {a b : ClassId} {k : Class} (h : vm.classes[a]? = some k) (hs : k.super = some b) : vm.isSubclass a b = true := by
  have hz : 0 < vm.classes.size := Nat.lt_of_le_of_lt (Nat.zero_le _) (Array.getElem?_eq_some_iff.mp h).1
  obtain ⟨n, hn⟩ : ∃ n, vm.classes.size = n + 1 := ⟨vm.classes.size - 1, by omega⟩
  simp [Vm.isSubclass, Vm.isSubclassAux, h, hs, hn]
theorem am_runP (hF : am_Fx p s m args meth c y) (hC : am_Ctx base fr cT D L xs s) (hf : am_Foreign fr) {x n a cy kd : Nat} {tags js : List Nat} {r : List Value} {v : Option Value} (hlk : am_lk am_ipL (am_ow y) x = some (n, cy, kd, tags, js)) (htg : tags.contains (M.1 a).1 = true) (hst : st.drop n = .ref a :: r) (hsum : am_sum r ≤ 8) (hR : d + 1 ≤ R.frames ∧ 41 * (d + 1) ≤ R.locals) (hdg : decode (am_bc y) pc = .ok (.invokespecial x, 3)) (hlv : lsr.size = am_mx y)
    (hM : Met l (am_nm cy) (am_ws cy) (am_rm d M M1) (am_Pc base fr cT D L xs M (.ref a :: (st.take n).reverse)) (am_Qc base fr cT D L xs M1 v) (M1.2.2.2.2.1 - M.2.2.2.2.1) (M1.2.2.2.2.2 - M.2.2.2.2.2) (am_A base)) (hI : am_Inv base cT D L xs s M H locs) (hroom : cells + (M1.2.2.2.2.1 - M.2.2.2.2.1) ≤ R.cells ∧ slots + (M1.2.2.2.2.2 - M.2.2.2.2.2) ≤ R.slots) :
    ∃ z, va_Run p l e R s m args below meth c H locs cells slots (M1.2.2.2.2.1 - M.2.2.2.2.1) (M1.2.2.2.2.2 - M.2.2.2.2.2) (F0 m pc lsr (st.map (am_vm base fr))) (r.map (am_vm base fr)) (am_Qc base fr cT D L xs M1 v z) (am_A base) := by
  obtain ⟨hx, hb, hml, hown, hts, hin2, hr, hlocks⟩ := id hF
  have hck := List.all_eq_true.mp am_ip_ok _ (am_lk_mem hlk)
  unfold am_ipchk at hck
  dsimp only at hck
  rw [Bool.and_eq_true, Bool.and_eq_true] at hck
  obtain ⟨⟨q1, hall⟩, q3⟩ := hck
  have ht := List.contains_iff_mem.mp htg
  have h13 := List.all_eq_true.mp hall _ ht
  simp only [Bool.and_eq_true, decide_eq_true_eq] at h13
  obtain ⟨y1, y2, y3⟩ := am_np_use q1
  obtain ⟨hG, hmx, hpl, hmh, hon⟩ := am_goodIn y1 y2
  have hvb : am_vm base fr (.ref a) = .ref (am_ro base a) := am_vm_own (hI.own (by omega) (by omega)).1
  obtain ⟨hs1, hs2⟩ := am_stk hst hvb
  have hroomL : 8 + (am_mx cy + 11) + 41 * d ≤ R.locals := by omega
  have hp : PreS s H (am_Pc base fr cT D L xs M (.ref a :: (st.take n).reverse)) (.ref (am_ro base a) :: (st.take n).reverse.map (am_vm base fr)) :=
    ⟨am_blind, fun U hU hW => ⟨by rw [List.map_cons, hvb], hC.enter hI hU hW, hI.at hU⟩⟩
  have hrm : 2 * (F0 m pc lsr (st.map (am_vm base fr))).monitorRoom + ((r.map (am_vm base fr)).map fun v => v.category).sum ≤ 8 := lv_room (by rw [am_sum_map hf]; exact hsum)
  have recv : ∀ (ht : (M.1 a).1 ∈ tags) (hall : tags.all (fun t => decide (1 ≤ t) && decide (t ≤ 13)) = true), ∃ t cC, ClassAt s (am_cl t).1 cC ∧ ∃ cellB : Cell, H[am_ro base a]? = some cellB ∧ cellB.vm.isStatics = false ∧ s.vm.findClass (am_cl t).1 = some cellB.cls := by
    intro ht hall
    have h5 := List.all_eq_true.mp hall _ ht
    simp only [Bool.and_eq_true, decide_eq_true_eq] at h5
    obtain ⟨hc, -, -, -⟩ := am_cl_ok _ h5
    obtain ⟨ha1, ha2⟩ := hI.own (a := a) (by omega) (by omega)
    have hat := (hI.2.1 a ha1 ha2).2
    rw [am_cv_obj (by omega)] at hat
    exact ⟨(M.1 a).1, _, (hC.1.1 _ _ hc).2, va_recv hC.1 (am_one hat) hc (q0 := 0) rfl⟩
  split at q3
  · simp only [Bool.and_eq_true, decide_eq_true_eq] at q3
    obtain ⟨⟨⟨⟨g1, g2⟩, g3⟩, g4⟩, g5⟩ := q3
    have hw : am_ws cy = Cond.code (am_nm cy) (am_bc cy) (am_mx cy) none :: am_tb := by unfold am_ws; rw [g5]
    have cw : CallB R s args (am_on (am_ow y)) x (am_nm cy) (am_bc cy) (am_mx cy) none (am_ws cy) (am_rm d M M1) (M1.2.2.2.2.1 - M.2.2.2.2.1) (M1.2.2.2.2.2 - M.2.2.2.2.2) n ∧ (am_nm cy).name = "<init>" ∧ (Cond.instanceMethod (am_nm cy)).before args s = true :=
      ⟨callB_of n hts hG hw rfl rfl (hts _ (am_in (am_w_use g3))) (hts _ (am_in (am_w_use g1))) ⟨hmh.1, hmh.2, y3⟩ ⟨hR.1, hroomL⟩, g4, hts _ (am_in (am_w_use g2))⟩
    exact ⟨_, va_runI ⟨hx, hb, hml, hown, hts⟩ hM cw hp rfl hs2 hlv hs1 hrm hdg hroom⟩
  · simp only [Bool.and_eq_true, decide_eq_true_eq] at q3
    obtain ⟨⟨⟨⟨g1, g2⟩, g3⟩, g4⟩, g5⟩ := q3
    have hw : am_ws cy = Cond.code (am_nm cy) (am_bc cy) (am_mx cy) none :: am_tb := by unfold am_ws; rw [g5]
    split at g1
    · rename_i on x' z host e1
      simp only [Bool.and_eq_true, decide_eq_true_eq] at g1
      obtain ⟨⟨rfl, rfl⟩, rfl⟩ := g1
      have hl := hC.2.2.2.2.2.2.2.2.2.2 _ _ _ _ (List.mem_of_getElem? e1)
      exact ⟨_, va_runIN ⟨hx, hb, hml, hown, hts⟩ hM ⟨va_cnB n hts hG hw rfl rfl hl (hts _ (am_in (am_w_use g3))) ⟨hmh.1, hmh.2, y3⟩ ⟨hR.1, hroomL⟩, g4, hts _ (am_in (am_w_use g2))⟩ hp rfl hs2 hlv hs1 hrm hdg hroom⟩
    · cases g1
  · simp only [Bool.and_eq_true, decide_eq_true_eq] at q3
    obtain ⟨⟨⟨⟨⟨g1, g2⟩, g3⟩, g4⟩, g5⟩, g6⟩ := q3
    obtain ⟨t, cC, hat, hrv⟩ := recv ht hall
    have hc0 : Cond.code (am_nm cy) (am_bc cy) (am_mx cy) (am_rt cy) ∈ am_ws cy := List.mem_cons_self
    have cw : va_CS R s args (am_on (am_ow y)) x (am_nm cy) (am_bc cy) (am_mx cy) (am_rt cy) (am_ws cy) (am_rm d M M1) (M1.2.2.2.2.1 - M.2.2.2.2.1) (M1.2.2.2.2.2 - M.2.2.2.2.2) n :=
      ⟨⟨rfl, rfl, hR.1, hroomL, pay_in hts hG, hc0⟩, hts _ (am_in (am_w_use g1)), hts _ (am_in (am_w_use g2)), hts _ (am_in (am_w_use g3)), hts _ (am_in (am_w_use g4)), hts _ (am_in (am_w_use g5)), hts _ (hG _ hc0).1, g6, fun sig h => by rw [h] at y3; exact (Option.some.inj y3).symm⟩
    exact ⟨_, va_runSU hat ⟨hx, hb, hml, hown, hts⟩ hM cw ⟨hp.1, hrv, hp.2⟩ rfl hs2 hlv hs1 hrm hdg hroom⟩
  · simp only [Bool.and_eq_true, decide_eq_true_eq] at q3
    obtain ⟨⟨⟨g1, g4⟩, g5⟩, g6⟩ := q3
    obtain ⟨t, cC, hat, cellB, hcB, hoB, hclB⟩ := recv ht hall
    have hc0 : Cond.code (am_nm cy) (am_bc cy) (am_mx cy) (am_rt cy) ∈ am_ws cy := List.mem_cons_self
    split at g1
    · rename_i on x' z e1
      simp only [Bool.and_eq_true, decide_eq_true_eq] at g1
      obtain ⟨⟨⟨⟨⟨rfl, rfl⟩, k1⟩, k2⟩, k3⟩, k4⟩ := g1
      have hK : Back l R p e below s args (am_nm cy) 3 8 (PreOf R (M1.2.2.2.2.1 - M.2.2.2.2.1) (M1.2.2.2.2.2 - M.2.2.2.2.2) (am_Pc base fr cT D L xs M (.ref a :: (st.take n).reverse))) (PostOf (am_Qc base fr cT D L xs M1 v) (M1.2.2.2.2.1 - M.2.2.2.2.1) (M1.2.2.2.2.2 - M.2.2.2.2.2) (am_A base)) :=
        back_of (bytes := am_bc cy) (maxL := am_mx cy) (ret := am_rt cy) hM am_blind rfl rfl hR.1 hroomL (pay_in hts hG) hc0 (fun a' U hW => word_at hW (Or.inl (by first | rfl | simp [Cond.onTables, Cond.keeps, Cond.steady])) (hts _ (am_in (am_w_use g5))))
      obtain ⟨hfc, kB, hkB, -⟩ := hat
      cases hfc.symm.trans hclB
      refine ⟨((Value.ref (am_ro base a)) :: (st.take n).reverse.map (am_vm base fr)).toArray, fun T hT X => ?_⟩
      have hinst := hts _ (am_in (am_w_use g4))
      have hcode := hts _ (hG _ hc0).1
      obtain ⟨mk, methM, hnamed, hmethM, hstM, habM⟩ := Cond.instanceMethod_spec hinst
      obtain ⟨methM', cM, hmethM', -, -, -, -, -, -, hsigM⟩ := Cond.code_spec hnamed hcode
      cases hmethM.symm.trans hmethM'
      obtain ⟨ps, dk, kp, hps, hdk, hkp, hsuper, -, -, hnid⟩ := Cond.superclass_spec hown (hts _ (am_in (am_w_use k3)))
      obtain ⟨ps2, dk2, kp2, hps2, hdk2, hkp2, hsuper2, -, -, -⟩ := Cond.superclass_spec hps (hts _ (am_in (am_w_use k4)))
      have hn : s.methodNamed? ⟨(am_nm cy).cls, z.name, z.desc⟩ = some mk := by rw [← k1]; exact hnamed
      have hpm : ps2 = mk.cls := Option.some.inj (hps2.symm.trans (findClass_of_methodNamed hnamed))
      have hsub : s.vm.isSubclass ps mk.cls = true := by rw [← hpm]; exact am_sub2 hdk2 hsuper2
      have hzn : z.name ≠ "<init>" := by
        have : (am_nm cy).name = z.name := by rw [k1]
        rw [← this]; exact g6
      have hzd : parseMethodDescriptor z.desc = some methM.sig := by
        have : (am_nm cy).desc = z.desc := by rw [k1]
        rw [← this]; exact hsigM
      have hlen : ((st.take n).reverse.map (am_vm base fr)).length = methM.sig.parameters.length := by
        rw [hsigM] at y3
        rw [hs2]
        exact (Option.some.inj y3).symm
      obtain ⟨vm₁, X₁, hstep₁⟩ := X.invokespecialUp hx hown (hts _ (am_in (List.mem_of_getElem? e1))) (hts _ (am_in (am_w_use k2))) hn hmethM hstM habM hzn hdk hnid hps hsuper hsub (a := am_ro base a) (cell := cellB) (by rw [hT]; exact hcB)
        (fun z h => by rw [h] at hoB; cases hoB) hkB (g := F0 m pc lsr (st.map (am_vm base fr))) rfl (argsL := (st.take n).reverse.map (am_vm base fr)) (rest := r.map (am_vm base fr)) hlen hs1 (by rw [hb]; exact hdg)
      obtain ⟨vv, B, X', ⟨g', mk', t', Lc, f1, f2, hq, h1, hL, h2, h3⟩, hsteps⟩ := hK m meth c ⟨T.setVm vm₁, locs, cells, slots⟩ { (F0 m pc lsr (st.map (am_vm base fr))) with stack := r.map (am_vm base fr) } (.invokespecial x') mk ((Value.ref (am_ro base a)) :: (st.take n).reverse.map (am_vm base fr)).toArray X₁ rfl (by show lsr.size = c.maxLocals; rw [hlv, hml]) (by rw [hb]; exact hdg) hrm (X₁.named hnamed) ⟨hroom.1, hroom.2, hp.2 (T.setVm vm₁) hT X₁.warmed⟩
      obtain ⟨U', l2, c2, s2⟩ := B
      dsimp only [Pt.U, Pt.locs, Pt.cells, Pt.slots] at X' f1 f2 h1 h2 h3 hsteps
      subst h1; subst h2; subst h3
      exact ⟨vv, (T.setVm vm₁).calling g' mk' ((Value.ref (am_ro base a)) :: (st.take n).reverse.map (am_vm base fr)).toArray, t', U', Lc, hT, X', hL, f1, f2, hq, fun target h => hstep₁ _ (hsteps.trans h)⟩
    · cases g1
  · cases q3
theorem am_cpy_row {f : Nat → Nat → Int32} {src sp dst dp n : Nat} : am_cpy f src sp dst dp n dst = va_cpy (f src) (f dst) sp dp n := by
  funext j
  simp [am_cpy, va_cpy]
theorem am_cpy_ne {f : Nat → Nat → Int32} {src sp dst dp n b : Nat} (h : b ≠ dst) : am_cpy f src sp dst dp n b = f b := by
  funext j
  simp [am_cpy, h]
theorem am_Wcopy (hF : am_Fx p s m args meth c y) (hC : am_Ctx base fr cT D L xs s) (hf : am_Foreign fr) {x a b t ti : Nat} {ty : FieldType} {sp dp n : Int32} {r : List Value} {jj : Nat} (hlk : am_lk am_acL (am_ow y) x = some jj) (hdg : decode (am_bc y) pc = .ok (.invokestatic x, 3)) (hR : 1 ≤ R.frames ∧ 41 ≤ R.locals) (h20 : t = 20 ∨ t = 22 ∨ t = 23) (hta : (M.1 a).1 = t) (htb : (M.1 b).1 = t) (htt : (am_tys cT)[ti]? = some (cT t, ty)) (hprim : refKind ty = false)
    (h1 : ¬ sp < 0) (h2 : ¬ dp < 0) (h3 : ¬ n < 0) (h4 : sp.toNatClampNeg + n.toNatClampNeg ≤ (M.1 b).2) (h5 : dp.toNatClampNeg + n.toNatClampNeg ≤ (M.1 a).2) (hsum : am_sum r ≤ 8) (hfit : ∀ i, i < n.toNatClampNeg → fits ty (.int (M.2.1 b (sp.toNatClampNeg + i))) = true)
    (k : am_J p l e R s m args below meth c base fr cT D L xs Q n0 s0 y (pc + 3) ls r (M.1, am_cpy M.2.1 b sp.toNatClampNeg a dp.toNatClampNeg n.toNatClampNeg, M.2.2)) : am_J p l e R s m args below meth c base fr cT D L xs Q n0 s0 y pc ls (.int n :: .int dp :: .ref a :: .int sp :: .ref b :: r) M := by
  obtain ⟨hx, hb, hml, hown, hts, hin2, hr, hlocks⟩ := id hF
  intro H locs lsr hI hlv
  obtain ⟨w1, w2, w3, w4⟩ := am_ac_ok
  have w0 := of_decide_eq_true (List.all_eq_true.mp w1 _ (am_lk_mem hlk))
  have nn : ∀ z : Int32, ¬ z < 0 → z.toInt = (z.toNatClampNeg : Int) := by
    intro z hz
    have hz0 : (0 : Int) ≤ z.toInt := by
      have := Int32.not_lt.mp hz
      simpa using Int32.le_iff_toInt_le.mp this
    show z.toInt = ((z.toInt.toNat : Nat) : Int)
    omega
  obtain ⟨ha1, ha2⟩ := hI.own (a := a) (by omega) (by omega)
  obtain ⟨hb1, hb2⟩ := hI.own (a := b) (by omega) (by omega)
  have hc1 := (hI.2.1 a ha1 ha2).2
  have hc0 := (hI.2.1 b hb1 hb2).2
  rw [am_cv_int hta h20] at hc1
  rw [am_cv_int htb h20] at hc0
  simp only [List.map_cons]
  rw [am_vm_own ha1, am_vm_own hb1]
  intro T hT X
  obtain ⟨-, k0, hk0, cm0, hkk0⟩ := (hC.1.2 ti _ htt).1 (M.1 b).2 (fun j => .int (M.2.1 b j))
  obtain ⟨-, k1, hk1, cm1, hkk1⟩ := (hC.1.2 ti _ htt).1 (M.1 a).2 (fun j => .int (M.2.1 a j))
  obtain ⟨vm', X', step⟩ := X.arraycopy hx hown (hts _ (am_in (List.mem_of_getElem? w0))) (hts _ (am_in (List.mem_of_getElem? w2))) (hts _ (am_in (List.mem_of_getElem? w3))) (hts _ (am_in (List.mem_of_getElem? w4))) (src := am_ro base b) (dst := am_ro base a) (cs := vp_cell (cT t) ((M.1 b).2, .inl (M.2.1 b))) (cd := vp_cell (cT t) ((M.1 a).2, .inl (M.2.1 a))) (srcPos := sp) (destPos := dp) (n := n) (by rw [hT]; exact hc0) (by rw [hT]; exact hc1)
    (fun _ h => by cases h) (fun _ h => by cases h) (fun h => by cases h) (fun h => by cases h) hk0 hk1 hkk0 hkk1 (by simp [hprim]) h1 h2 h3
    (by rw [nn sp h1, nn n h3]; show ¬ _ > ((arrV (cT t) (M.1 b).2 (fun j => .int (M.2.1 b j))).slots.size : Int); rw [arrV_size]; omega)
    (by rw [nn dp h2, nn n h3]; show ¬ _ > ((arrV (cT t) (M.1 a).2 (fun j => .int (M.2.1 a j))).slots.size : Int); rw [arrV_size]; omega)
    (fun vm₁ _ i hi => by
      have e1 : (vp_cell (cT t) ((M.1 b).2, .inl (M.2.1 b))).slots.getD (sp.toNatClampNeg + i) .null = .int (M.2.1 b (sp.toNatClampNeg + i)) := by
        show (arrV (cT t) (M.1 b).2 (fun j => .int (M.2.1 b j))).slots.getD _ _ = _
        rw [Array.getD_eq_getD_getElem?, arrV_read _ _ (by omega)]
        rfl
      refine ⟨?_, ?_⟩
      · rw [e1]
        exact hfit i hi
      · rw [e1]
        exact trivial)
    (g := F0 m pc lsr (.int n :: .int dp :: .ref (am_ro base a) :: .int sp :: .ref (am_ro base b) :: r.map (am_vm base fr))) rfl (by show lsr.size = c.maxLocals; rw [hlv.1, hml]) (rest := r.map (am_vm base fr)) rfl (by rw [hb]; exact hdg) hR.1 (by
      have hs := am_sum_map (base := base) hf r
      show 2 * 0 + ((r.map (am_vm base fr)).map fun v => v.category).sum + (7 + 11) ≤ _
      omega)
  have e1 : copied (vp_cell (cT t) ((M.1 b).2, .inl (M.2.1 b))) (vp_cell (cT t) ((M.1 a).2, .inl (M.2.1 a))) sp dp n = vp_cell (cT t) ((M.1 a).2, .inl (va_cpy (M.2.1 b) (M.2.1 a) sp.toNatClampNeg dp.toNatClampNeg n.toNatClampNeg)) := va_copied (fun z => .int z) (cT t) (cT t) (M.2.1 b) (M.2.1 a) h4
  rw [e1] at X' step
  have hl : am_ro base a < H.size := (Array.getElem?_eq_some_iff.mp hc1).1
  have hheap : ((T.setVm vm').setCell (am_ro base a) (vp_cell (cT t) ((M.1 a).2, .inl (va_cpy (M.2.1 b) (M.2.1 a) sp.toNatClampNeg dp.toNatClampNeg n.toNatClampNeg)))).heap = H.setIfInBounds (am_ro base a) (vp_cell (cT t) ((M.1 a).2, .inl (va_cpy (M.2.1 b) (M.2.1 a) sp.toNatClampNeg dp.toNatClampNeg n.toNatClampNeg))) := by rw [← hT]; rfl
  have oq : ∀ q : Nat, q ≠ am_ro base a → (H.setIfInBounds (am_ro base a) (vp_cell (cT t) ((M.1 a).2, .inl (va_cpy (M.2.1 b) (M.2.1 a) sp.toNatClampNeg dp.toNatClampNeg n.toNatClampNeg))))[q]? = H[q]? := fun q hq => by simp [Array.getElem?_setIfInBounds, Ne.symm hq]
  have hI1 := hI.upd (M' := (M.1, am_cpy M.2.1 b sp.toNatClampNeg a dp.toNatClampNeg n.toNatClampNeg, M.2.2)) ha1 ha2 rfl rfl (fun q hq => am_cpy_ne hq) (fun _ _ => rfl) (fun _ _ => rfl) (fun i q h => hI.2.2.2.1 a i q h) (H1 := H.setIfInBounds (am_ro base a) (vp_cell (cT t) ((M.1 a).2, .inl (va_cpy (M.2.1 b) (M.2.1 a) sp.toNatClampNeg dp.toNatClampNeg n.toNatClampNeg)))) (by simp) oq
    (by
      rw [am_cv_int (M := (M.1, am_cpy M.2.1 b sp.toNatClampNeg a dp.toNatClampNeg n.toNatClampNeg, M.2.2)) hta h20]
      show (H.setIfInBounds (am_ro base a) _)[am_ro base a]? = some (vp_cell (cT t) ((M.1 a).2, .inl (am_cpy M.2.1 b sp.toNatClampNeg a dp.toNatClampNeg n.toNatClampNeg a)))
      rw [am_cpy_row]
      simp [Array.getElem?_setIfInBounds, hl])
    (locs' := locs ++ ((vp_cell (cT t) ((M.1 b).2, .inl (M.2.1 b))).stretch sp.toNatClampNeg n.toNatClampNeg).zipIdx.map fun q => ⟨am_ro base a, dp.toNatClampNeg + q.2⟩)
    (fun q hq => by
      rcases List.mem_append.mp hq with g | g
      · exact Or.inl g
      · obtain ⟨z, -, hz⟩ := List.mem_map.mp g
        rw [← hz]
        exact Or.inr (Nat.le_add_right _ _))
  obtain ⟨t2, a1, b1⟩ := k _ _ lsr hI1 hlv _ hheap X'
  exact ⟨t2, step t2 a1, b1⟩
theorem am_q_copy (hF : am_Fx p s m args meth c y) (hC : am_Ctx base fr cT D L xs s) (hf : am_Foreign fr) {x jj : Nat} (hlk : am_lk am_acL (am_ow y) x = some jj) (hdg : decode (am_bc y) pc = .ok (.invokestatic x, 3)) (hR : 1 ≤ R.frames ∧ 41 ≤ R.locals) (he : am_acp pc ls st M = some (.inl (pc', ls', st', M'))) (k : am_J p l e R s m args below meth c base fr cT D L xs Q n0 s0 y pc' ls' st' M') :
    am_J p l e R s m args below meth c base fr cT D L xs Q n0 s0 y pc ls st M := by
  unfold am_acp at he
  split at he
  · split at he
    · rename_i n dp a sp b r hcond
      obtain ⟨⟨t1, t2⟩, ⟨h1, h2, h3⟩, h4, h5, h6⟩ := hcond
      obtain ⟨rfl, rfl, rfl, rfl⟩ := am_nx_inv he
      rcases t2 with t2 | ⟨t2, t3⟩
      · exact am_Wcopy (ti := 0) (t := 20) hF hC hf hlk hdg hR (Or.inl rfl) t2 (t1 ▸ t2) rfl rfl h1 h2 h3 h4 h5 h6 (fun _ _ => rfl) k
      · exact am_Wcopy (ti := 2) (t := 22) hF hC hf hlk hdg hR (Or.inr (Or.inl rfl)) t2 (t1 ▸ t2) rfl rfl h1 h2 h3 h4 h5 h6 (fun i hi => List.all_eq_true.mp t3 i (List.mem_range.mpr hi)) k
    · cases he
  · cases he
theorem am_q_oinit (hF : am_Fx p s m args meth c y) (hf : am_Foreign fr) {x jj a : Nat} {r : List Value} (hlk : am_lk am_oiL (am_ow y) x = some jj) (hdg : decode (am_bc y) pc = .ok (.invokespecial x, 3)) (hR : 1 ≤ R.frames ∧ 41 ≤ R.locals) (hs : am_sum r ≤ 8) (ha : 1 ≤ (M.1 a).1 ∧ (M.1 a).1 < 30) (k : am_J p l e R s m args below meth c base fr cT D L xs Q n0 s0 y (pc + 3) ls r M) :
    am_J p l e R s m args below meth c base fr cT D L xs Q n0 s0 y pc ls (.ref a :: r) M := by
  obtain ⟨hx, hb, hml, hown, hts, hin2, hr, hlocks⟩ := id hF
  intro H locs lsr hI hlv
  obtain ⟨w1, w2, w3⟩ := am_oi_ok
  have w0 := of_decide_eq_true (List.all_eq_true.mp w1 _ (am_lk_mem hlk))
  rw [List.map_cons, am_vm_own (hI.own (by omega) (by omega)).1]
  refine W.objInit hx hb hown (hts _ (am_in (List.mem_of_getElem? w0))) (hts _ (am_in (List.mem_of_getElem? w2))) (hts _ (am_in (List.mem_of_getElem? w3))) rfl (by show lsr.size = c.maxLocals; rw [hlv.1, hml]) rfl hdg hR.1 ?_ (k H locs lsr hI hlv)
  have := am_sum_map (base := base) hf r
  show 2 * 0 + ((r.map (am_vm base fr)).map fun v => v.category).sum + 12 ≤ _
  omega
theorem am_vm_ne0 (hf : am_Foreign fr) (hI : am_Inv base cT D L xs s M H locs) {a : Nat} (h : ¬ (M.1 a).1 = 0) : ∃ q, am_vm base fr (.ref a) = .ref q := by
  rcases Nat.lt_or_ge a 100 with g | g
  · have e1 := (hI.2.2.2.2.1 a g).1
    obtain ⟨q, hq⟩ := hf.2 a g (fun e2 => by
      subst e2
      rw [e1] at h
      exact h rfl)
    refine ⟨q, ?_⟩
    show (if a < 100 then fr a else _) = _
    rw [if_pos g, hq]
  · exact ⟨_, am_vm_own g⟩
/-- a method's end, over its contract -/
theorem am_ret_ok (hF : am_Fx p s m args meth c y) (hf : am_Foreign fr) {i : Instr} {len : Nat} {v : Option Value} (hdg : decode (am_bc y) pc = .ok (i, len)) (hlen : am_len i = len ∨ am_len i = 0) (he : am_ex d y i pc ls st M = some (.inr (.inl (v, M')))) :
    am_J p l e R s m args below meth c base fr cT D L xs (MQ below (am_Qc base fr cT D L xs M' v) args s (M'.2.2.2.2.1 - n0) (M'.2.2.2.2.2 - s0) (am_A base)) n0 s0 y pc ls st M := by
  obtain ⟨hx, hb, hml, hown, hts, hin2, hr, hlocks⟩ := id hF
  have qc : ∀ {H : Heap} {locs : List Loc} {M : am_Mem} {v : Option Value}, am_Inv base cT D L xs s M H locs → ∀ t : State, t.heap = H → s.WarmedH t.vm → am_Qc base fr cT D L xs M v args s (.returned (v.map (am_vm base fr))) t := fun hI t ht _ => ⟨rfl, hI.at ht, hI.2.2.2.2.2.F ht⟩
  have notnx : ∀ {pc ls st M} {r : Option Value × am_Mem}, am_nx pc ls st M = some (.inr (.inl r)) → False := fun h => by cases h
  have notbr : ∀ {pc off ls st M} {r : Option Value × am_Mem}, am_br pc off ls st M = some (.inr (.inl r)) → False := fun h => by unfold am_br at h; split at h <;> cases h
  have notcall : ∀ {z as rest} {r : Option Value × am_Mem}, am_call z as rest = some (.inr (.inl r)) → False := fun h => by unfold am_call at h; split at h <;> cases h
  cases i
  case ireturn =>
    simp only [am_ex] at he
    have hl : len = 1 := by rcases hlen with g | g <;> simp [am_len] at g; exact g.symm
    subst hl
    split at he
    · rename_i ty x hrt
      split at he
      · rename_i hn
        cases he
        intro H locs lsr hI hlv
        exact W.zret hx hb (hr.trans hrt) hn (qc (v := some (.int x)) hI) (fun q hq => hI.2.2.2.2.2.2.2 q hq) hdg hlocks
      · cases he
    · cases he
  case lreturn =>
    simp only [am_ex] at he
    have hl : len = 1 := by rcases hlen with g | g <;> simp [am_len] at g; exact g.symm
    subst hl
    split at he
    · rename_i x hrt
      cases he
      intro H locs lsr hI hlv
      exact W.lret hx hb (hr.trans hrt) (qc (v := some (.long x)) hI) (fun q hq => hI.2.2.2.2.2.2.2 q hq) hdg hlocks
    · cases he
  case areturn =>
    simp only [am_ex] at he
    have hl : len = 1 := by rcases hlen with g | g <;> simp [am_len] at g; exact g.symm
    subst hl
    split at he
    · rename_i cn a hrt
      have key : (M' = M ∧ v = some (.ref a)) ∧ (¬ (M.1 a).1 = 0) := by
        split at he
        · rename_i ha; cases he; exact ⟨⟨rfl, rfl⟩, ha⟩
        · cases he
      obtain ⟨⟨rfl, rfl⟩, hor⟩ := key
      intro H locs lsr hI hlv
      have hv := am_vm_ne0 hf hI hor
      exact W.aret (v := am_vm base fr (.ref a)) hx hb (hr.trans hrt) (Or.inl ⟨_, rfl⟩) (Or.inr hv) (qc (v := some (.ref a)) hI) (fun q hq => hI.2.2.2.2.2.2.2 q hq) hdg hlocks
    · rename_i cn hrt
      cases he
      intro H locs lsr hI hlv
      exact W.aret (v := .null) hx hb (hr.trans hrt) (Or.inl ⟨_, rfl⟩) (Or.inl rfl) (qc (v := some .null) hI) (fun q hq => hI.2.2.2.2.2.2.2 q hq) hdg hlocks
    · cases he
  case return_ =>
    simp only [am_ex] at he
    have hl : len = 1 := by rcases hlen with g | g <;> simp [am_len] at g; exact g.symm
    subst hl
    split at he
    · rename_i hrt
      cases he
      intro H locs lsr hI hlv
      exact W.vret hx hb (hr.trans hrt) (qc (v := none) hI) (fun q hq => hI.2.2.2.2.2.2.2 q hq) hdg hlocks
    · cases he
  all_goals
    exfalso
    simp only [am_ex, am_li, am_ll, am_la, am_si, am_sl, am_sa, am_i2, am_l2, am_i1, am_get, am_put, am_sti, am_bst, am_ast, am_iv, am_is, am_acp, am_ip] at he
    repeat' split at he
    all_goals first | exact notnx he | exact notbr he | exact notcall he | (cases he; done)
end SIM7
