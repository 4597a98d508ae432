/-- a method's start and end, in AM's words -/
def am_Pc (base : Nat) (fr : Nat → Value) (cT : Nat → ClassId) (D : va_G) (L : Nat) (xs : Nat → Int32) (M : am_Mem) (as : List Value) : Array Value → State → Prop := fun a U => a = (as.map (am_vm base fr)).toArray ∧ am_Ctx base fr cT D L xs U ∧ am_Inv base cT D L xs U M U.heap []
def am_Qc (base : Nat) (fr : Nat → Value) (cT : Nat → ClassId) (D : va_G) (L : Nat) (xs : Nat → Int32) (M' : am_Mem) (v : Option Value) : Array Value → State → Outcome → State → Prop := fun _ st o t => o = .returned (v.map (am_vm base fr)) ∧ am_Inv base cT D L xs t M' t.heap [] ∧ va_F (am_A base) st t
def am_Foreign (fr : Nat → Value) : Prop := (∀ a, a < 100 → fr a = .null ∨ ∃ q, fr a = .ref q) ∧ (∀ a, a < 100 → a ≠ 50 → ∃ q, fr a = .ref q)
theorem am_Ctx.to {base : Nat} {fr : Nat → Value} {cT : Nat → ClassId} {D : va_G} {L : Nat} {xs : Nat → Int32} {s U : State} (h : am_Ctx base fr cT D L xs s) (hal : s.vm.Alike U.vm) (hstr : ∀ own k tx a, vk_R own k tx a s → vk_R own k tx a U) (hh : ∀ a : Nat, a < s.heap.size → ¬ am_A base a → U.heap[a]? = s.heap[a]?) (hsz : base ≤ U.heap.size) (hca : ∀ C T, va_Nw (.castable C T) s → va_Nw (.castable C T) U) (hne : ∀ o x z h, va_Nw (.methodLinkNest o x z h) s → va_Nw (.methodLinkNest o x z h) U) : am_Ctx base fr cT D L xs U := by
  obtain ⟨h1, h2, ⟨b, b1, b2, b3⟩, h4, h5, h6, h7, h8, h9, hA, hB⟩ := h
  refine ⟨h1.moved hal, hsz, ⟨b, b1, b2, (b3.moved hal).kept (hh b (Nat.lt_of_lt_of_le b2 h2) (Nat.not_le.mpr b2))⟩, fun i hi => ?_, (h5.moved hal).kept hh, (h6.moved hal).kept hh, h7, fun o x ys ns j hl t ht C hC T hw => (h8 o x ys ns j hl t ht C hC T hw).moved hal, fun C T q => hca C T (h9 C T q), fun C q => (hA C q).moved hal, fun o x z h q => hne o x z h (hB o x z h q)⟩
  obtain ⟨aK, aV, f1, f2, f0, f3, f4, f5, f6⟩ := h4 i hi
  exact ⟨aK, aV, f1, f2, hstr _ _ _ _ f0, (f3.moved hal).kept hh, (f4.moved hal).kept hh, (f5.moved hal).kept hh, (f6.moved hal).kept hh⟩
theorem am_Inv.at {base : Nat} {cT : Nat → ClassId} {D : va_G} {L : Nat} {xs : Nat → Int32} {s U : State} {M : am_Mem} {H : Heap} {locs : List Loc} (h : am_Inv base cT D L xs s M H locs) (e : U.heap = H) : am_Inv base cT D L xs U M U.heap [] := by
  rw [e]
  obtain ⟨h1, h2, h3, h4, h5, -⟩ := h
  exact ⟨h1, h2, h3, h4, h5, by rw [e]; exact va_S.rf⟩
theorem am_Ctx.enter {base : Nat} {fr : Nat → Value} {cT : Nat → ClassId} {D : va_G} {L : Nat} {xs : Nat → Int32} {s U : State} {M : am_Mem} {H : Heap} {locs : List Loc} (h : am_Ctx base fr cT D L xs s) (hI : am_Inv base cT D L xs s M H locs) (e : U.heap = H) (hW : s.WarmedH U.vm) : am_Ctx base fr cT D L xs U :=
  h.to hW.alike (fun _ _ _ _ q => q.warm hW) (fun a a1 a2 => by rw [e]; exact hI.2.2.2.2.2.2.1 a a1 a2) (by rw [e]; have := hI.1; omega) (fun _ _ q => va_Nw.warmC hW q) (fun _ _ _ _ q => va_Nw.warmM hW q)
theorem am_blind {base : Nat} {fr : Nat → Value} {cT : Nat → ClassId} {D : va_G} {L : Nat} {xs : Nat → Int32} {M : am_Mem} {as : List Value} : FrameBlind (am_Pc base fr cT D L xs M as) := by
  intro a U g mk h
  obtain ⟨h1, h2, h3⟩ := h
  exact ⟨h1, h2.to (U := U.calling g mk a) (Vm.Alike.refl U.vm) (fun _ _ _ _ q => q.same rfl) (fun _ _ _ => rfl) h2.2.1 (fun _ _ q => va_Nw.same (u := U) rfl rfl q) (fun _ _ _ _ q => va_Nw.same (u := U) rfl rfl q), am_Inv.at (U := U.calling g mk a) h3 rfl⟩
section SIM6
variable {p : Program} {l : Launch} {e : Env} {R : Room} {s : State} {m : MethodId} {args : Array Value} {below : List Frame} {meth : Method} {c : Code} {base : Nat} {fr : Nat → Value} {cT : Nat → ClassId} {D : va_G} {L : Nat} {xs : Nat → Int32} {Q : State → Prop} {n0 s0 y d : Nat}
variable {pc pc' : Nat} {ls ls' : am_Loc} {st st' : List Value} {M M' M1 : am_Mem} {H H1 : Heap} {locs : List Loc} {cells slots : Nat} {lsr : Array Slot} {rest : List Value}
theorem am_callEnd {mc ms : Nat} {v : Option Value} {a : Array Value} {st0 : List Value} (hI : am_Inv base cT D L xs s M H locs) (hr : va_Run p l e R s m args below meth c H locs cells slots mc ms (F0 m pc lsr st0) rest (am_Qc base fr cT D L xs M1 v a) (am_A base))
    (kk : ∀ (H1 : Heap) (locs1 : List Loc), am_Inv base cT D L xs s M1 H1 locs1 → W p l e R s m args below meth c H1 locs1 (cells + mc) (slots + ms) Q (F0 m (pc + 3) lsr ((v.map (am_vm base fr)).toList ++ rest))) : W p l e R s m args below meth c H locs cells slots Q (F0 m pc lsr st0) := by
  intro T hT X
  obtain ⟨v', st₀, t, T', Lc, h0, X', hL, e1, e2, ⟨hv, hI1, hz, hk⟩, st⟩ := hr T hT X
  cases hv
  rw [h0] at hz hk
  obtain ⟨q1, q2, q3, q4, q5, -⟩ := hI1
  obtain ⟨t2, a1, b1⟩ := kk T'.heap (locs ++ Lc) (by
    rw [e1]
    refine ⟨q1, q2, q3, q4, q5, Nat.le_trans hI.2.2.2.2.2.1 hz, fun q g1 g2 => ?_, fun q hq => ?_⟩
    · rw [hk q (Nat.lt_of_lt_of_le g1 hI.2.2.2.2.2.1) g2]
      exact hI.2.2.2.2.2.2.1 q g1 g2
    · rcases List.mem_append.mp hq with g | g
      · exact hI.2.2.2.2.2.2.2 q g
      · exact hL q g) T' rfl X'
  exact ⟨t2, st t2 a1, b1⟩
theorem am_sum_map (hf : am_Foreign fr) (r : List Value) : ((r.map (am_vm base fr)).map fun v => v.category).sum = am_sum r := by
  unfold am_sum
  rw [List.map_map]
  congr 1
  exact List.map_congr_left (fun v _ => am_vm_cat hf.1 v)
theorem am_runS (hF : am_Fx p s m args meth c y) (hC : am_Ctx base fr cT D L xs s) (hf : am_Foreign fr) {x n cy : Nat} {js : List Nat} {v : Option Value} (hlk : am_lk am_isL (am_ow y) x = some (n, cy, js)) (hn : n ≤ st.length) (hsum : am_sum (st.drop n) ≤ 8) (hR : d + 1 ≤ R.frames ∧ 41 * (d + 1) ≤ R.locals) (hdg : decode (am_bc y) pc = .ok (.invokestatic x, 3)) (hlv : lsr.size = am_mx y)
    (hM : Met l (am_nm cy) (am_ws cy) (am_rm d M M1) (am_Pc base fr cT D L xs M (st.take n).reverse) (am_Qc base fr cT D L xs M1 v) (M1.2.2.2.2.1 - M.2.2.2.2.1) (M1.2.2.2.2.2 - M.2.2.2.2.2) (am_A base)) (hI : am_Inv base cT D L xs s M H locs) (hroom : cells + (M1.2.2.2.2.1 - M.2.2.2.2.1) ≤ R.cells ∧ slots + (M1.2.2.2.2.2 - M.2.2.2.2.2) ≤ R.slots) :
    ∃ a, va_Run p l e R s m args below meth c H locs cells slots (M1.2.2.2.2.1 - M.2.2.2.2.1) (M1.2.2.2.2.2 - M.2.2.2.2.2) (F0 m pc lsr (st.map (am_vm base fr))) ((st.drop n).map (am_vm base fr)) (am_Qc base fr cT D L xs M1 v a) (am_A base) := by
  obtain ⟨hx, hb, hml, hown, hts, hin2, hr, hlocks⟩ := id hF
  have hck := List.all_eq_true.mp am_is_ok _ (am_lk_mem hlk)
  unfold am_ischk at hck
  simp only [Bool.and_eq_true] at hck
  obtain ⟨⟨⟨q1, q2⟩, q3⟩, q4⟩ := hck
  obtain ⟨y1, y2, y3⟩ := am_np_use q1
  obtain ⟨hG, hmx, hpl, hmh, hon⟩ := am_goodIn y1 y2
  have cw : CallB R s args (am_on (am_ow y)) x (am_nm cy) (am_bc cy) (am_mx cy) (am_rt cy) (am_ws cy) (am_rm d M M1) (M1.2.2.2.2.1 - M.2.2.2.2.1) (M1.2.2.2.2.2 - M.2.2.2.2.2) n ∧ (Cond.static (am_nm cy)).before args s = true :=
    ⟨callB_of n hts hG rfl rfl rfl (hts _ (am_in (am_w_use q4))) (hts _ (am_in (am_w_use q2))) ⟨hmh.1, hmh.2, y3⟩ ⟨hR.1, by show 8 + (am_mx cy + 11) + 41 * d ≤ R.locals; omega⟩, hts _ (am_in (am_w_use q3))⟩
  refine ⟨_, va_runS (As := (st.take n).reverse.map (am_vm base fr)) ⟨hx, hb, hml, hown, hts⟩ hM cw ⟨am_blind, fun U hU hW => ⟨rfl, hC.enter hI hU hW, hI.at hU⟩⟩ rfl (by simp; omega) hlv ?_ (lv_room (by rw [am_sum_map hf]; exact hsum)) hdg hroom⟩
  show st.map (am_vm base fr) = _
  rw [← List.map_reverse, List.reverse_reverse, ← List.map_append, List.take_append_drop]
theorem am_stk {a n : Nat} {r : List Value} {b : Addr} (h : st.drop n = .ref a :: r) (hb : am_vm base fr (.ref a) = .ref b) : st.map (am_vm base fr) = ((st.take n).reverse.map (am_vm base fr)).reverse ++ .ref b :: r.map (am_vm base fr) ∧ ((st.take n).reverse.map (am_vm base fr)).length = n := by
  constructor
  · rw [← List.map_reverse, List.reverse_reverse, ← hb, ← List.map_cons, ← h, ← List.map_append, List.take_append_drop]
  · have : n < st.length := by
      rcases Nat.lt_or_ge n st.length with q | q
      · exact q
      · rw [List.drop_eq_nil_of_le q] at h; cases h
    simp
    omega
theorem am_recv (hC : am_Ctx base fr cT D L xs s) (hI : am_Inv base cT D L xs s M H locs) {a t : Nat} (ht : (M.1 a).1 = t) (h : t = 31 ∨ (1 ≤ t ∧ t ≤ 13)) : ∃ b, am_vm base fr (.ref a) = .ref b ∧ ∃ cellB : Cell, H[b]? = some cellB ∧ cellB.vm.isStatics = false ∧ s.vm.findClass (am_tname t) = some cellB.cls := by
  rcases h with h | h
  · subst h
    obtain ⟨hlt, hT⟩ := hI.old (a := a) (by omega)
    have hra := am_T0_31 L a (by rw [← hT]; exact ht)
    obtain ⟨aK, aV, f1, f2, -, f3, f4, f5, f6⟩ := hC.2.2.2.1 (a - 10) (by omega)
    refine ⟨aK, ?_, ?_⟩
    · show (if a < 100 then fr a else _) = _
      rw [if_pos hlt, ← f1]
      congr 1; omega
    · obtain ⟨cell, g1, g2, g3, -⟩ := f3.kept hI.2.2.2.2.2.2.1
      exact ⟨cell, g1, g2, g3⟩
  · obtain ⟨ha1, ha2⟩ := hI.own (a := a) (by omega) (by omega)
    have hat := (hI.2.1 a ha1 ha2).2
    rw [am_cv_obj (by omega), ht] at hat
    obtain ⟨hc, -, -, -⟩ := am_cl_ok _ h
    refine ⟨am_ro base a, am_vm_own ha1, ?_⟩
    rw [show am_tname t = (am_cl t).1 by unfold am_tname; rw [if_neg (by omega)]]
    exact va_recv hC.1 (am_one hat) hc (q0 := 0) rfl
theorem am_runV (hF : am_Fx p s m args meth c y) (hC : am_Ctx base fr cT D L xs s) (hf : am_Foreign fr) {x n a : Nat} {rows : List (Nat × Nat × Nat × List Nat)} {q : Nat × Nat × Nat × List Nat} {r : List Value} {v : Option Value} (hlk : am_lk am_ivL (am_ow y) x = some (n, rows)) (hq : rows.find? (fun q => q.1 == (M.1 a).1) = some q) (hst : st.drop n = .ref a :: r) (hsum : am_sum r ≤ 8) (hR : d + 1 ≤ R.frames ∧ 41 * (d + 1) ≤ R.locals) (hdg : decode (am_bc y) pc = .ok (.invokevirtual x, 3)) (hlv : lsr.size = am_mx y)
    (hM : Met l (am_nm q.2.1) (am_ws q.2.1) (am_rm d M M1) (am_Pc base fr cT D L xs M (.ref a :: (st.take n).reverse)) (am_Qc base fr cT D L xs M1 v) (M1.2.2.2.2.1 - M.2.2.2.2.1) (M1.2.2.2.2.2 - M.2.2.2.2.2) (am_A base)) (hI : am_Inv base cT D L xs s M H locs) (hroom : cells + (M1.2.2.2.2.1 - M.2.2.2.2.1) ≤ R.cells ∧ slots + (M1.2.2.2.2.2 - M.2.2.2.2.2) ≤ R.slots) :
    ∃ z, va_Run p l e R s m args below meth c H locs cells slots (M1.2.2.2.2.1 - M.2.2.2.2.1) (M1.2.2.2.2.2 - M.2.2.2.2.2) (F0 m pc lsr (st.map (am_vm base fr))) (r.map (am_vm base fr)) (am_Qc base fr cT D L xs M1 v z) (am_A base) := by
  obtain ⟨hx, hb, hml, hown, hts, hin2, hr, hlocks⟩ := id hF
  have hck := List.all_eq_true.mp (List.all_eq_true.mp am_iv_ok _ (am_lk_mem hlk)) _ (List.mem_of_find?_eq_some hq)
  have htag : (M.1 a).1 = q.1 := by have := List.find?_some hq; simpa using (beq_iff_eq.mp this).symm
  obtain ⟨tg, cy, kd, js⟩ := q
  unfold am_ivchk1 at hck
  dsimp only at hck hM htag
  simp only [Bool.and_eq_true, Bool.or_eq_true, decide_eq_true_eq] at hck
  obtain ⟨⟨q1, q2⟩, q3⟩ := hck
  obtain ⟨y1, y2, y3⟩ := am_np_use q1
  obtain ⟨hG, hmx, hpl, hmh, hon⟩ := am_goodIn y1 y2
  obtain ⟨b, hvb, hrv⟩ := am_recv hC hI htag q2
  obtain ⟨hs1, hs2⟩ := am_stk hst hvb
  have hroomL : 8 + (am_mx cy + 11) + 41 * d ≤ R.locals := by omega
  have hp : PreV s H (am_tname tg) b (am_Pc base fr cT D L xs M (.ref a :: (st.take n).reverse)) ((st.take n).reverse.map (am_vm base fr)) :=
    ⟨am_blind, hrv, fun U hU hW => ⟨by rw [List.map_cons, hvb], hC.enter hI hU hW, hI.at hU⟩⟩
  split at q3
  · simp only [Bool.and_eq_true, decide_eq_true_eq] at q3
    obtain ⟨⟨⟨⟨g1, g2⟩, g3⟩, g4⟩, g5⟩ := q3
    have cw : CallW R s args (am_on (am_ow y)) (am_tname tg) x (am_nm cy) (am_bc cy) (am_mx cy) (am_rt cy) (am_ws cy) (am_rm d M M1) (M1.2.2.2.2.1 - M.2.2.2.2.1) (M1.2.2.2.2.2 - M.2.2.2.2.2) n :=
      ⟨callB_of n hts hG rfl rfl rfl (by rw [g5]; exact hts _ (am_in (am_w_use g4))) (hts _ (am_in (am_w_use g1))) ⟨hmh.1, hmh.2, y3⟩ ⟨hR.1, hroomL⟩, hts _ (am_in (am_w_use g2)), hts _ (am_in (am_w_use g3))⟩
    exact ⟨_, va_runV ⟨hx, hb, hml, hown, hts⟩ hM cw hp rfl hs2 hlv hs1 (lv_room (by rw [am_sum_map hf]; exact hsum)) hdg hroom⟩
  · simp only [Bool.and_eq_true] at q3
    obtain ⟨⟨g0, g5⟩, g6⟩ := q3
    split at g0
    · rename_i on x' z zc ow zn zd cc b0 m0 r0 e1 e2 e3
      simp only [Bool.and_eq_true, decide_eq_true_eq] at g0
      obtain ⟨⟨⟨⟨⟨⟨⟨⟨⟨⟨rfl, rfl⟩, rfl⟩, rfl⟩, rfl⟩, rfl⟩, k1⟩, k2⟩, k3⟩, k4⟩, k5⟩ := g0
      have m1 := List.mem_of_getElem? e1
      have m2 := List.mem_of_getElem? e2
      have m3 := List.mem_of_getElem? e3
      have hT : GoodIn am_tb (va_wsO (am_on (am_ow y)) x' (am_tname tg) ow z (am_nm cy) (am_ws cy)) := by
        intro w hw
        unfold va_wsO at hw
        rcases List.mem_append.mp hw with g | g
        · have hin : w ∈ am_tb := by
            simp only [List.mem_cons, List.not_mem_nil, or_false] at g
            rcases g with rfl | rfl | rfl | rfl | rfl | rfl
            · exact am_in m1
            · exact am_in m2
            · exact am_in (am_w_use k1)
            · exact am_in (am_w_use k2)
            · exact am_in (am_w_use g5)
            · exact am_in (am_w_use g6)
          exact ⟨hin, am_tb_good hin⟩
        · exact hG w g
      exact ⟨_, va_runU ⟨hx, hb, hml, hown, hts⟩ hM (va_cwO n hts hT rfl rfl rfl (am_in m3) ⟨k3, k4, k5⟩ ⟨hR.1, hroomL⟩) hp rfl hs2 hlv hs1 (lv_room (by rw [am_sum_map hf]; exact hsum)) hdg hroom⟩
    · cases g0
  · cases q3
end SIM6
