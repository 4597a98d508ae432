/-! the class: a town is read; what its tokens are, what a clause keeps -/
section TD
variable {d : Nat} {T : Nat → Nat × Nat} {L : Nat → Nat → Int64} {R : Nat → Nat → Option Nat} {z w : Nat} {J : mR} {t : Nat} {n i k : Int} {x V : Int → Int} {cs : List CL}
theorem bnd_v {r : PR} {g : Int → PR} {vs : List Int} (h : (bnd r g).2 = some vs) : ∃ ts us, r.2 = some ts ∧ (g r.1).2 = some us ∧ vs = ts ++ us := by
  obtain ⟨j, ots⟩ := r
  cases ots with
  | none => cases h
  | some ts =>
    cases hg : g j with
    | mk p ous =>
      cases ous with
      | none => rw [bnd_sn hg] at h; cases h
      | some us =>
        rw [bnd_ss hg] at h
        cases h
        refine ⟨ts, us, rfl, ?_, rfl⟩
        first | rfl | (show (g j).2 = some us; rw [hg])
def vP (f : Int → PR) (b : Int) : Prop := ∀ i ts, (f i).2 = some ts → ∀ h : Int, 0 ≤ h → h ≤ b → vE ts h (h + 1)
theorem teP_v : vP (teP x n) 19 := by
  intro i ts q h h0 hb
  have v0 := ix5_r (atP x n i)
  have v1 := ix3_r (atP x n (i + 1))
  obtain ⟨q1, q2, _⟩ := nuP_r (t := x) (n := n) (i := i + 2)
  unfold teP at q
  split at q
  · cases q
  split at q
  · cases q
  split at q
  · cases q
  · cases q
    refine Or.inl ⟨by omega, by omega, by omega, by omega, h0, by omega, ?_⟩
    rfl
theorem lpP_v {c tok : Int} (ht : tok = -2 ∨ tok = -3) {f : Int → PR} {b : Int} (hf : vP f b) (hb : b ≤ 19) : ∀ (m : Nat) (i : Int) (ts : List Int), (lpP x n c tok f m i).2 = some ts → ∀ h : Int, 1 ≤ h → h ≤ b → vE ts h h := by
  intro m
  induction m with
  | zero => intro i ts q h _ _; cases q; rfl
  | succ m ih =>
    intro i ts q h h1 hb2
    simp only [lpP] at q
    split at q
    · obtain ⟨ts1, us, p1, p2, rfl⟩ := bnd_v q
      obtain ⟨t2, u2, p3, p4, rfl⟩ := bnd_v p2
      cases p3
      refine vE_a _ _ h (h + 1) h (hf _ _ p1 h (by omega) (by omega)) ?_
      refine Or.inr (Or.inr ⟨ht, by omega, by omega, ?_⟩)
      rw [show h + 1 - 1 = h by omega]
      exact ih _ _ p4 h h1 hb2
    · cases q; rfl
theorem evP_v {f : Int → PR} {b : Int} (hf : vP f b) (hb : b ≤ 19) : vP (evP x n f) (b - 1) := by
  intro i ts q h h0 hb2
  obtain ⟨t1, u1, p1, p2, rfl⟩ := bnd_v q
  exact vE_a _ _ h (h + 1) (h + 1) (hf _ _ p1 h h0 (by omega)) (lpP_v (Or.inl rfl) hf hb _ _ _ p2 (h + 1) (by omega) (by omega))
theorem soQ_v {f : Int → PR} {b : Int} (hf : vP f b) (hb : b ≤ 19) : vP (soQ x n f) (b - 1) := by
  intro i ts q h h0 hb2
  obtain ⟨t1, u1, p1, p2, rfl⟩ := bnd_v q
  exact vE_a _ _ h (h + 1) (h + 1) (hf _ _ p1 h h0 (by omega)) (lpP_v (Or.inr rfl) hf hb _ _ _ p2 (h + 1) (by omega) (by omega))
theorem faP_v : ∀ l : Nat, l ≤ 5 → vP (faP x n l) (19 - 2 * l) := by
  intro l
  induction l with
  | zero => intro _ i ts q h h0 hb; rw [faP_0] at q; exact teP_v i ts q h h0 (by omega)
  | succ l ih =>
    intro hl i ts q h h0 hb
    have ih := ih (by omega)
    simp only [faP] at q
    split at q
    · obtain ⟨t1, u1, p1, p2, rfl⟩ := bnd_v q
      cases p2
      refine vE_a _ _ h (h + 1) (h + 1) (ih _ _ p1 h h0 (by omega)) (Or.inr (Or.inl ⟨rfl, by omega, by omega, rfl⟩))
    split at q
    · obtain ⟨t1, u1, p1, p2, rfl⟩ := bnd_v q
      have : u1 = [] := by
        split at p2
        · cases p2; rfl
        · cases p2
      subst this
      rw [List.append_nil]
      exact soQ_v (evP_v ih (by omega)) (by omega) _ _ p1 h h0 (by omega)
    · exact teP_v i ts q h h0 (by omega)
theorem soP_v {i : Int} {ts : List Int} (q : (soP x n (faP x n 5) i).2 = some ts) : vE ts 0 1 := soQ_v (evP_v (faP_v (x := x) (n := n) 5 (by omega)) (by omega)) (by omega) i ts q 0 (by omega) (by omega)
theorem clK_w {q p : Int} {c : CL} (hq : 0 ≤ q ∧ q ≤ 4) (h : (clK x n q p).2 = some c) : wfC c ∧ c.1 = q := by
  obtain ⟨q1, q2, _⟩ := nuP_r (t := x) (n := n) (i := p)
  unfold clK at h
  split at h
  · cases h
  split at h
  · split at h
    · rename_i k1 k2 k3
      simp only [] at h
      cases hs : (soP x n (faP x n 5) ((nuP x n p).1 + 1)).2 with
      | none => rw [hs] at h; cases h
      | some ts =>
        rw [hs] at h
        cases h
        exact ⟨⟨hq, ⟨by show 0 ≤ (nuP x n p).2; omega, q1⟩, fun _ => soP_v hs⟩, rfl⟩
    · cases h
  · rename_i k1 k2
    cases h
    exact ⟨⟨hq, ⟨by show 0 ≤ (nuP x n p).2; omega, q1⟩, fun e => absurd e k2⟩, rfl⟩
theorem seg_laV : ∀ (l : List Int) (V : Int → Int) (k : Int), seg (laV V k l) k l := by
  have key : ∀ (l : List Int) (V : Int → Int) (k j : Int), j < k → laV V k l j = V j := by
    intro l
    induction l with
    | nil => intro V k j _; rfl
    | cons v l ih => intro V k j hj; exact (ih _ _ j (by omega)).trans (up_o (by omega))
  intro l
  induction l with
  | nil => intro V k; trivial
  | cons v l ih => intro V k; exact ⟨(key l _ _ k (by omega)).trans up_r, ih _ _⟩
theorem laV_o : ∀ (l : List Int) (V : Int → Int) (k j : Int), j < k → laV V k l j = V j := by
  intro l
  induction l with
  | nil => intro V k j _; rfl
  | cons v l ih => intro V k j hj; exact (ih _ _ j (by omega)).trans (up_o (by omega))
theorem seg_e {S S' : Int → Int} : ∀ (l : List Int) (k : Int), (∀ j, k ≤ j → j < k + (l.length : Int) → S' j = S j) → seg S k l → seg S' k l := by
  intro l
  induction l with
  | nil => intro k _ _; trivial
  | cons v l ih =>
    intro k e h
    have hl : ((v :: l).length : Int) = (l.length : Int) + 1 := by rw [List.length_cons]; rfl
    exact ⟨(e k (by omega) (by omega)).trans h.1, ih _ (fun j j0 j1 => e j (by omega) (by omega)) h.2⟩
def mn10 (a : Int) : Int := if a ≤ 10 then a else 10
theorem rnC_a (B : Int → Int) (c : CL) : ∀ cs : List CL, rnC B (cs ++ [c]) = rnC B cs + (if c.1 = 0 then (if evV B c.2.2 = 0 then 0 else c.2.1) else 0) := by
  intro cs
  induction cs with
  | nil => show _ + 0 = 0 + _; omega
  | cons e cs ih => show _ + rnC B (cs ++ [c]) = _ + rnC B cs + _; rw [ih]; omega
theorem rnC_0 (B : Int → Int) : ∀ cs : List CL, wfL cs → 0 ≤ rnC B cs := by
  intro cs
  induction cs with
  | nil => intro _; exact Int.le_refl _
  | cons c cs ih =>
    intro h
    have := ih (fun q hq => h q (List.mem_cons_of_mem _ hq))
    have hc := (h c (List.mem_cons_self ..)).2.1
    show 0 ≤ (if c.1 = 0 then (if evV B c.2.2 = 0 then 0 else c.2.1) else 0) + rnC B cs
    split <;> (try split) <;> omega
theorem wfL_a {c : CL} (h : wfL cs) (hc : wfC c) : wfL (cs ++ [c]) := by
  intro q hq
  rcases List.mem_append.mp hq with hq | hq
  · exact h q hq
  · rw [List.mem_singleton.mp hq]; exact hc
theorem rain_C (hw : wfL cs) (h s : Int) : rainS (tokL cs) h s = mn10 (rnC (knB s h 99 99 99) cs) := by
  unfold rainS
  rw [lkRes_C hw]
  rfl
theorem rain_a {c : CL} (hw : wfL cs) (hc : wfC c) (h s : Int) : rainS (tokL (cs ++ [c])) h s = if c.1 = 0 then (if evV (knB s h 99 99 99) c.2.2 = 0 then rainS (tokL cs) h s else mn10 (rainS (tokL cs) h s + c.2.1)) else rainS (tokL cs) h s := by
  rw [rain_C (wfL_a hw hc), rain_C hw, rnC_a]
  have r0 := rnC_0 (knB s h 99 99 99) cs hw
  have hn := hc.2.1
  generalize rnC (knB s h 99 99 99) cs = a at *
  by_cases c0 : c.1 = 0
  · rw [if_pos c0, if_pos c0]
    by_cases e : evV (knB s h 99 99 99) c.2.2 = 0
    · rw [if_pos e, if_pos e, Int.add_zero]
    · rw [if_neg e, if_neg e]
      unfold mn10
      split <;> split <;> (try split) <;> omega
  · rw [if_neg c0, if_neg c0, Int.add_zero]
def lsW (k : Int) (cs : List CL) (v : Int) : Int := cs.foldl (fun v c => if c.1 = k then c.2.1 else v) v
theorem lsW_a (k : Int) (c : CL) (v : Int) : lsW k (cs ++ [c]) v = if c.1 = k then c.2.1 else lsW k cs v := by
  unfold lsW; rw [List.foldl_append]; rfl
theorem loR_a {J' : mR} {c : CL} (e5 : ∀ j, 0 ≤ j → j < J t 9 → J' (t + 5) j = J (t + 5) j) (e2 : ∀ j, 0 ≤ j → j < J t 7 → J' (t + 2) j = J (t + 2) j ∧ J' (t + 3) j = J (t + 3) j ∧ J' (t + 4) j = J (t + 4) j) (hc : loR J' t [c] (J t 9) (J t 7)) : ∀ (cs : List CL) (p k : Int), 0 ≤ p → 0 ≤ k → loR J t cs p k → loR J' t (cs ++ [c]) p k := by
  intro cs
  induction cs with
  | nil => intro p k _ _ h; rw [← h.1, ← h.2]; exact hc
  | cons e cs ih =>
    intro p k hp hk h
    have hs : ∀ q : List CL, q = cs ++ [c] → loR J' t (e :: q) p k → loR J' t (e :: cs ++ [c]) p k := fun q hq h => by rw [hq] at h; exact h
    refine hs _ rfl ?_
    unfold loR at h ⊢
    split
    · rename_i q
      rw [if_pos q] at h
      have lk := loR_k J t cs _ _ h.2
      refine ⟨seg_e _ _ (fun j j0 j1 => e5 j (by omega) ?_) h.1, ih _ _ (by omega) hk h.2⟩
      rw [List.length_map] at j1; omega
    rename_i q; rw [if_neg q] at h
    split
    · rename_i q2
      rw [if_pos q2] at h
      obtain ⟨h1, h2, h3, h4, h5⟩ := h
      have lk := loR_k J t cs _ _ h5
      obtain ⟨f2, f3, f4⟩ := e2 k hk (by omega)
      refine ⟨seg_e _ _ (fun j j0 j1 => e5 j (by omega) ?_) h1, f2.trans h2, f3.trans h3, f4.trans h4, ih _ _ (by omega) (by omega) h5⟩
      rw [List.length_map] at j1; omega
    · rename_i q2
      rw [if_neg q2] at h
      exact ih _ _ hp hk h
/-- what has been read -/
def tkR (J : mR) (t : Nat) (cs : List CL) : Prop := wfL cs ∧ trn J t (tokL cs) ∧ loR J t cs 0 0 ∧ (0 ≤ J t 7 ∧ J t 7 ≤ cs.length) ∧ (∀ j, 0 ≤ j → j < 5 → i32 (J (t + 6) j)) ∧ J t 0 = lsW 1 cs 9 ∧ J t 1 = lsW 2 cs 1 ∧ J t 2 = lsW 4 cs 2
theorem tkR_a {J' : mR} {c : CL} (h : tkR J t cs) (hw : wfC c) (e5 : ∀ j, 0 ≤ j → j < J t 9 → J' (t + 5) j = J (t + 5) j) (e2 : ∀ j, 0 ≤ j → j < J t 7 → J' (t + 2) j = J (t + 2) j ∧ J' (t + 3) j = J (t + 3) j ∧ J' (t + 4) j = J (t + 4) j) (hc : loR J' t [c] (J t 9) (J t 7)) (h7 : 0 ≤ J' t 7 ∧ J' t 7 ≤ J t 7 + 1) (hr : ∀ h s, 0 ≤ h → h < 24 → 0 ≤ s → s ≤ 1 → J' (t + 1) (h * 2 + s) = if c.1 = 0 then (if evV (knB s h 99 99 99) c.2.2 = 0 then J (t + 1) (h * 2 + s) else mn10 (J (t + 1) (h * 2 + s) + c.2.1)) else J (t + 1) (h * 2 + s)) (hF : ∀ j, 0 ≤ j → j < 5 → i32 (J' (t + 6) j)) (w0 : J' t 0 = if c.1 = 1 then c.2.1 else J t 0) (w1 : J' t 1 = if c.1 = 2 then c.2.1 else J t 1) (w2 : J' t 2 = if c.1 = 4 then c.2.1 else J t 2) : tkR J' t (cs ++ [c]) := by
  obtain ⟨g1, g2, g3, g4, g5, g6, g7, g8⟩ := h
  refine ⟨wfL_a g1 hw, fun h s a1 a2 a3 a4 => ?_, loR_a e5 e2 hc cs 0 0 (by omega) (by omega) g3, ?_, hF, ?_, ?_, ?_⟩
  · rw [hr h s a1 a2 a3 a4, rain_a g1 hw, g2 h s a1 a2 a3 a4]
  · rw [List.length_append]; simp only [List.length_cons, List.length_nil]; omega
  · rw [w0, lsW_a, g6]
  · rw [w1, lsW_a, g7]
  · rw [w2, lsW_a, g8]
/-- the rain of a clause goes into the table -/
theorem ra_loop (h : tc T R t) (ts : List Int) (hv : vE ts 0 1) (v : Int) (hv9 : 0 ≤ v ∧ v ≤ 99) (k : Int) (h9 : J t 9 = k + (ts.length : Int)) (hs : seg (J (t + 5)) k (ts.map trC)) (hk : 0 ≤ k) (hl : k + (ts.length : Int) ≤ 120) : ∀ (m : Nat) (p : Int) (F V : Int → Int), p + m = 48 → 0 ≤ p → (∀ j, 0 ≤ j → j < 5 → i32 (F j)) → (∀ j, 0 ≤ j → j < 48 → 0 ≤ V j ∧ V j ≤ 10) → ∃ F' V' : Int → Int, rn_r (d + 3) 30 2 [some (.ref t), some (.int (iI v)), some (.int (iI k)), some (.int (iI p))] [] (T, oI (ur (ur J (t + 1) V) (t + 6) F), L, R, z, w) = some (none, (T, oI (ur (ur J (t + 1) V') (t + 6) F'), L, R, z, w)) ∧ (∀ j, 0 ≤ j → j < 5 → i32 (F' j)) ∧ (∀ j, p ≤ j → j < 48 → V' j = if evV (knB (j % 2) (j / 2) 99 99 99) ts = 0 then V j else mn10 (V j + v)) ∧ (∀ j, ¬ (p ≤ j ∧ j < 48) → V' j = V j) := by
  have t0 : T t = (8, 0) := h.1
  have t1 : T (t + 1) = (20, 48) := h.2.1
  have c48 : ((48 : Nat) : Int) = 48 := rfl
  intro m
  induction m with
  | zero =>
    intro p F V hp h0 hF hV
    refine ⟨F, V, ?_, hF, fun j j0 j1 => by omega, fun _ _ => rfl⟩
    have ep : p = 48 := by omega
    subst ep
    simp (disch := first | omega | exact hJ _ _ | exact rJ_g hJ _ _ | (simp (disch := omega) only [ur_r, ur_o, up_r, up_o]; omega) | assumption) only [s30_2, s30_3, s30_3v, s30_4, s30_7, b30_8, s30_64, t0, t1, h.r3, v_s, iI_ofNat, c48, List.contains_cons, Nat.reduceBEq, Bool.or_true, Bool.true_or, Bool.or_false, Bool.false_or, kl_i, kl_r, kl_l, kl_n, kl_z, bd_s, tl_s, tl_n, ap_c, ap_n, v_s, v_n, nd_1, nd_0, ct13, eq_self, iI_add, iI_sub, iI_mul, iI_nat, iI_eq, iI_lt, iI_le, iI_eq0, iI_lt0, ↓reduceIte, if_true, if_false, not_true_eq_false, not_false_eq_true, true_and, and_true, false_and, and_false, true_or, or_true, false_or, or_false, Int.reduceLT, Int.reduceLE, Int.reduceEq, Int.reduceAdd, Int.reduceSub, Int.reduceMul, Nat.reduceAdd, Nat.reduceLT, Nat.reduceEqDiff, Int.reduceNeg, nc_s, nc_0, Int.zero_add, Int.add_zero, oI_r, oI_w, oI_f0, oI_g0, oI_f1, oI_g1, oI_f2, oI_g2, oI_f3, oI_g3, oI_f4, oI_g4, oI_f5, oI_g5, oI_f6, oI_g6, oI_f7, oI_g7, oI_f8, oI_g8, oI_f9, oI_g9, oI_f10, oI_g10, oI_f11, oI_g11, oI_f12, oI_g12, oI_f13, oI_g13, oI_f14, oI_g14, oI_f15, oI_g15, oI_f16, oI_g16, oI_f17, oI_g17, oI_f18, oI_g18, oI_f19, oI_g19, oI_f20, oI_g20, oI_f21, oI_g21, oI_f22, oI_g22, oI_f23, oI_g23, oI_f24, oI_g24, oI_f25, oI_g25, ur_r, ur_o, ur_s, up_r, up_o, up_s, jI_add, jI_sub, jI_mul, jI_neg, jI_i, jI_n, lgc_j, cj_lt, cj_ge, cj_gt, cj_le, cj_eq, oL_r, oL_w, oL_f6, oL_g6, oL_f7, oL_g7, oL_f17, oL_g17, oL_f18, oL_g18, dl_T, dl_F, de_T, de_F, dle_T, dle_F, iI_divn, rem_n, nd_v, ct_s, Bool.false_eq_true]
  | succ m ih =>
    intro p F V hp h0 hF hV
    have hVp := hV p h0 (by omega)
    have lay := t_layFacts (d := d + 2) (L := L) (z := z) (w := w) (J := ur (ur J (t + 1) V) (t + 6) F) h (p % 2) (p / 2) 99 99 99
    rw [ur_r, ur_s] at lay
    have e24 : p / 2 % 24 = p / 2 := by omega
    have elk : up (up (up (up (up F 0 (p % 2)) 1 (p / 2)) 2 99) 3 99) 4 99 = lkB F (p % 2) (p / 2) 99 99 99 := by unfold lkB; rw [e24]
    rw [elk] at lay
    have hF2 : ∀ j, 0 ≤ j → j < 5 → i32 (lkB F (p % 2) (p / 2) 99 99 99 j) := by
      intro j j0 j5
      unfold lkB
      have e0 := hF j j0 j5
      unfold up
      repeat' split
      all_goals first | assumption | omega
    obtain ⟨x01, ho⟩ := t_holds (d := d + 1) (L := L) (z := z) (w := w) (J := ur (ur J (t + 1) V) (t + 6) (lkB F (p % 2) (p / 2) 99 99 99)) h (by intro j j0 j5; rw [ur_r]; exact hF2 j j0 j5) k ts hv (by rw [ur_o (by omega), ur_o (by omega)]; exact hs) hk hl
    rw [ur_r] at x01 ho
    have ex : evV (lkB F (p % 2) (p / 2) 99 99 99) ts = evV (knB (p % 2) (p / 2) 99 99 99) ts := evV_B (fun j j0 j5 => lkB_same F _ _ _ _ _ _ j ⟨j0, j5⟩) hv
    rw [ex] at x01 ho
    rcases x01 with x0 | x1
    · rw [x0] at ho
      obtain ⟨F', V', r1, r2, r3, r4⟩ := ih (p + 1) (lkB F (p % 2) (p / 2) 99 99 99) V (by omega) (by omega) hF2 hV
      refine ⟨F', V', ?_, r2, fun j j0 j1 => ?_, fun j hj => r4 j (by omega)⟩
      · refine Eq.trans ?_ ((s30_61 ..).trans r1)
        simp (disch := first | omega | exact hJ _ _ | exact rJ_g hJ _ _ | (simp (disch := omega) only [ur_r, ur_o, up_r, up_o]; omega) | assumption) only [s30_2, s30_3, s30_3v, s30_4, s30_7, b30_8, s30_11, s30_11v, s30_12, s30_13, s30_14, s30_15, s30_16, s30_17, s30_18, s30_20, s30_22, s30_24, s30_27, s30_27v, s30_28, s30_29, s30_29v, s30_30, s30_33, b30_36, s30_39, s30_39v, s30_40, s30_43, s30_44, s30_44v, s30_45, s30_48, s30_49, s30_50, s30_51, s30_52, s30_54, s30_57, s30_58, t0, t1, h.r3, h9, v_s, iI_ofNat, c48, List.contains_cons, Nat.reduceBEq, Bool.or_true, Bool.true_or, Bool.or_false, Bool.false_or, lay, ho, kl_i, kl_r, kl_l, kl_n, kl_z, bd_s, tl_s, tl_n, ap_c, ap_n, v_s, v_n, nd_1, nd_0, ct13, eq_self, iI_add, iI_sub, iI_mul, iI_nat, iI_eq, iI_lt, iI_le, iI_eq0, iI_lt0, ↓reduceIte, if_true, if_false, not_true_eq_false, not_false_eq_true, true_and, and_true, false_and, and_false, true_or, or_true, false_or, or_false, Int.reduceLT, Int.reduceLE, Int.reduceEq, Int.reduceAdd, Int.reduceSub, Int.reduceMul, Nat.reduceAdd, Nat.reduceLT, Nat.reduceEqDiff, Int.reduceNeg, nc_s, nc_0, Int.zero_add, Int.add_zero, oI_r, oI_w, oI_f0, oI_g0, oI_f1, oI_g1, oI_f2, oI_g2, oI_f3, oI_g3, oI_f4, oI_g4, oI_f5, oI_g5, oI_f6, oI_g6, oI_f7, oI_g7, oI_f8, oI_g8, oI_f9, oI_g9, oI_f10, oI_g10, oI_f11, oI_g11, oI_f12, oI_g12, oI_f13, oI_g13, oI_f14, oI_g14, oI_f15, oI_g15, oI_f16, oI_g16, oI_f17, oI_g17, oI_f18, oI_g18, oI_f19, oI_g19, oI_f20, oI_g20, oI_f21, oI_g21, oI_f22, oI_g22, oI_f23, oI_g23, oI_f24, oI_g24, oI_f25, oI_g25, ur_r, ur_o, ur_s, up_r, up_o, up_s, jI_add, jI_sub, jI_mul, jI_neg, jI_i, jI_n, lgc_j, cj_lt, cj_ge, cj_gt, cj_le, cj_eq, oL_r, oL_w, oL_f6, oL_g6, oL_f7, oL_g7, oL_f17, oL_g17, oL_f18, oL_g18, dl_T, dl_F, de_T, de_F, dle_T, dle_F, iI_divn, rem_n, nd_v, ct_s, Bool.false_eq_true]
      · by_cases e : j = p
        · subst e; rw [if_pos x0]; exact r4 j (by omega)
        · exact r3 j (by omega) j1
    · rw [x1] at ho
      have ar := h.a1 p (by omega)
      have br := h.b1 p (by omega)
      have mi := j_min (d := d + 2) (T := T) (I := oI (ur (ur J (t + 1) V) (t + 6) (lkB F (p % 2) (p / 2) 99 99 99))) (L := L) (R := R) (z := z) (w := w) (V p + v) 10 (by omega) (by omega)
      have em : (if V p + v ≤ 10 then V p + v else 10) = mn10 (V p + v) := rfl
      rw [em] at mi
      have mr : 0 ≤ mn10 (V p + v) ∧ mn10 (V p + v) ≤ 10 := by unfold mn10; split <;> omega
      obtain ⟨F', V', r1, r2, r3, r4⟩ := ih (p + 1) (lkB F (p % 2) (p / 2) 99 99 99) (up V p (mn10 (V p + v))) (by omega) (by omega) hF2 (by
        intro j j0 j1
        unfold up
        split
        · exact mr
        · exact hV j j0 j1)
      refine ⟨F', V', ?_, r2, fun j j0 j1 => ?_, fun j hj => ?_⟩
      · refine Eq.trans ?_ ((s30_61 ..).trans r1)
        simp (disch := first | omega | exact hJ _ _ | exact rJ_g hJ _ _ | (simp (disch := omega) only [ur_r, ur_o, up_r, up_o]; omega) | assumption) only [s30_2, s30_3, s30_3v, s30_4, s30_7, b30_8, s30_11, s30_11v, s30_12, s30_13, s30_14, s30_15, s30_16, s30_17, s30_18, s30_20, s30_22, s30_24, s30_27, s30_27v, s30_28, s30_29, s30_29v, s30_30, s30_33, b30_36, s30_39, s30_39v, s30_40, s30_43, s30_44, s30_44v, s30_45, s30_48, s30_49, s30_50, s30_51, s30_52, s30_54, s30_57, s30_58, t0, t1, h.r3, h9, v_s, iI_ofNat, c48, List.contains_cons, Nat.reduceBEq, Bool.or_true, Bool.true_or, Bool.or_false, Bool.false_or, lay, ho, ar, br, mi, ur_c, kl_i, kl_r, kl_l, kl_n, kl_z, bd_s, tl_s, tl_n, ap_c, ap_n, v_s, v_n, nd_1, nd_0, ct13, eq_self, iI_add, iI_sub, iI_mul, iI_nat, iI_eq, iI_lt, iI_le, iI_eq0, iI_lt0, ↓reduceIte, if_true, if_false, not_true_eq_false, not_false_eq_true, true_and, and_true, false_and, and_false, true_or, or_true, false_or, or_false, Int.reduceLT, Int.reduceLE, Int.reduceEq, Int.reduceAdd, Int.reduceSub, Int.reduceMul, Nat.reduceAdd, Nat.reduceLT, Nat.reduceEqDiff, Int.reduceNeg, nc_s, nc_0, Int.zero_add, Int.add_zero, oI_r, oI_w, oI_f0, oI_g0, oI_f1, oI_g1, oI_f2, oI_g2, oI_f3, oI_g3, oI_f4, oI_g4, oI_f5, oI_g5, oI_f6, oI_g6, oI_f7, oI_g7, oI_f8, oI_g8, oI_f9, oI_g9, oI_f10, oI_g10, oI_f11, oI_g11, oI_f12, oI_g12, oI_f13, oI_g13, oI_f14, oI_g14, oI_f15, oI_g15, oI_f16, oI_g16, oI_f17, oI_g17, oI_f18, oI_g18, oI_f19, oI_g19, oI_f20, oI_g20, oI_f21, oI_g21, oI_f22, oI_g22, oI_f23, oI_g23, oI_f24, oI_g24, oI_f25, oI_g25, ur_r, ur_o, ur_s, up_r, up_o, up_s, jI_add, jI_sub, jI_mul, jI_neg, jI_i, jI_n, lgc_j, cj_lt, cj_ge, cj_gt, cj_le, cj_eq, oL_r, oL_w, oL_f6, oL_g6, oL_f7, oL_g7, oL_f17, oL_g17, oL_f18, oL_g18, dl_T, dl_F, de_T, de_F, dle_T, dle_F, iI_divn, rem_n, nd_v, ct_s, Bool.false_eq_true]
      · by_cases e : j = p
        · subst e
          rw [if_neg (by omega), r4 j (by omega), up_r]
        · rw [r3 j (by omega) j1, up_o e]
      · rw [r4 j (by omega), up_o (by omega)]
theorem t_addRain (h : tc T R t) (ts : List Int) (hv : vE ts 0 1) (v : Int) (hv9 : 0 ≤ v ∧ v ≤ 99) (k : Int) (h9 : J t 9 = k + (ts.length : Int)) (hs : seg (J (t + 5)) k (ts.map trC)) (hk : 0 ≤ k) (hl : k + (ts.length : Int) ≤ 120) (hF : ∀ j, 0 ≤ j → j < 5 → i32 (J (t + 6) j)) (hV : ∀ j, 0 ≤ j → j < 48 → 0 ≤ J (t + 1) j ∧ J (t + 1) j ≤ 10) : ∃ F' V' : Int → Int, rn_c (d + 3) 30 [.ref t, .int (iI v), .int (iI k)] (T, oI J, L, R, z, w) = some (none, (T, oI (ur (ur J (t + 1) V') (t + 6) F'), L, R, z, w)) ∧ (∀ j, 0 ≤ j → j < 5 → i32 (F' j)) ∧ (∀ j, 0 ≤ j → j < 48 → V' j = if evV (knB (j % 2) (j / 2) 99 99 99) ts = 0 then J (t + 1) j else mn10 (J (t + 1) j + v)) := by
  obtain ⟨F', V', r1, r2, r3, r4⟩ := ra_loop (d := d) (L := L) (z := z) (w := w) h ts hv v hv9 k h9 hs hk hl 48 0 (J (t + 6)) (J (t + 1)) (by omega) (by omega) hF hV
  rw [ur_e, ur_e] at r1
  refine ⟨F', V', ?_, r2, r3⟩
  refine Eq.trans ?_ r1
  simp (disch := first | omega | exact hJ _ _ | exact rJ_g hJ _ _ | (simp (disch := omega) only [ur_r, ur_o, up_r, up_o]; omega) | assumption) only [c30, s30_0, s30_1, kl_i, kl_r, kl_l, kl_n, kl_z, bd_s, tl_s, tl_n, ap_c, ap_n, v_s, v_n, nd_1, nd_0, ct13, eq_self, iI_add, iI_sub, iI_mul, iI_nat, iI_eq, iI_lt, iI_le, iI_eq0, iI_lt0, ↓reduceIte, if_true, if_false, not_true_eq_false, not_false_eq_true, true_and, and_true, false_and, and_false, true_or, or_true, false_or, or_false, Int.reduceLT, Int.reduceLE, Int.reduceEq, Int.reduceAdd, Int.reduceSub, Int.reduceMul, Nat.reduceAdd, Nat.reduceLT, Nat.reduceEqDiff, Int.reduceNeg, nc_s, nc_0, Int.zero_add, Int.add_zero, oI_r, oI_w, oI_f0, oI_g0, oI_f1, oI_g1, oI_f2, oI_g2, oI_f3, oI_g3, oI_f4, oI_g4, oI_f5, oI_g5, oI_f6, oI_g6, oI_f7, oI_g7, oI_f8, oI_g8, oI_f9, oI_g9, oI_f10, oI_g10, oI_f11, oI_g11, oI_f12, oI_g12, oI_f13, oI_g13, oI_f14, oI_g14, oI_f15, oI_g15, oI_f16, oI_g16, oI_f17, oI_g17, oI_f18, oI_g18, oI_f19, oI_g19, oI_f20, oI_g20, oI_f21, oI_g21, oI_f22, oI_g22, oI_f23, oI_g23, oI_f24, oI_g24, oI_f25, oI_g25, ur_r, ur_o, ur_s, up_r, up_o, up_s, jI_add, jI_sub, jI_mul, jI_neg, jI_i, jI_n, lgc_j, cj_lt, cj_ge, cj_gt, cj_le, cj_eq, oL_r, oL_w, oL_f6, oL_g6, oL_f7, oL_g7, oL_f17, oL_g17, oL_f18, oL_g18, dl_T, dl_F, de_T, de_F, dle_T, dle_F, iI_divn, rem_n, nd_v, ct_s, Bool.false_eq_true]
theorem t_addLost (h : tc T R t) (v k : Int) (h7 : 0 ≤ J t 7 ∧ J t 7 < 10) : rn_c d 31 [.ref t, .int (iI v), .int (iI k)] (T, oI J, L, R, z, w) = some (none, (T, oI (ur (ur (ur (ur J t (up (J t) 7 (J t 7 + 1))) (t + 2) (up (J (t + 2)) (J t 7) v)) (t + 3) (up (J (t + 3)) (J t 7) k)) (t + 4) (up (J (t + 4)) (J t 7) (J t 9))), L, R, z, w)) := by
  have t0 : T t = (8, 0) := h.1
  have b2 := h.b2 (J t 7) h7
  have b3 := h.b3 (J t 7) h7
  have b4 := h.b4 (J t 7) h7
  simp (disch := first | omega | exact hJ _ _ | exact rJ_g hJ _ _ | (simp (disch := omega) only [ur_r, ur_o, up_r, up_o]; omega) | assumption) only [c31, s31_0, s31_0v, s31_1, s31_4, b31_6, s31_9, s31_9v, s31_10, s31_13, s31_13v, s31_14, s31_17, s31_18, s31_19, s31_19v, s31_20, s31_23, s31_23v, s31_24, s31_27, s31_28, s31_29, s31_29v, s31_30, s31_33, s31_33v, s31_34, s31_37, s31_37v, s31_38, s31_41, s31_42, s31_42v, s31_43, s31_44, s31_47, s31_48, s31_49, s31_52, t0, h.r4, h.r5, h.r6, v_s, b2, b3, b4, up_c, ur_c, kl_i, kl_r, kl_l, kl_n, kl_z, bd_s, tl_s, tl_n, ap_c, ap_n, v_s, v_n, nd_1, nd_0, ct13, eq_self, iI_add, iI_sub, iI_mul, iI_nat, iI_eq, iI_lt, iI_le, iI_eq0, iI_lt0, ↓reduceIte, if_true, if_false, not_true_eq_false, not_false_eq_true, true_and, and_true, false_and, and_false, true_or, or_true, false_or, or_false, Int.reduceLT, Int.reduceLE, Int.reduceEq, Int.reduceAdd, Int.reduceSub, Int.reduceMul, Nat.reduceAdd, Nat.reduceLT, Nat.reduceEqDiff, Int.reduceNeg, nc_s, nc_0, Int.zero_add, Int.add_zero, oI_r, oI_w, oI_f0, oI_g0, oI_f1, oI_g1, oI_f2, oI_g2, oI_f3, oI_g3, oI_f4, oI_g4, oI_f5, oI_g5, oI_f6, oI_g6, oI_f7, oI_g7, oI_f8, oI_g8, oI_f9, oI_g9, oI_f10, oI_g10, oI_f11, oI_g11, oI_f12, oI_g12, oI_f13, oI_g13, oI_f14, oI_g14, oI_f15, oI_g15, oI_f16, oI_g16, oI_f17, oI_g17, oI_f18, oI_g18, oI_f19, oI_g19, oI_f20, oI_g20, oI_f21, oI_g21, oI_f22, oI_g22, oI_f23, oI_g23, oI_f24, oI_g24, oI_f25, oI_g25, ur_r, ur_o, ur_s, up_r, up_o, up_s, jI_add, jI_sub, jI_mul, jI_neg, jI_i, jI_n, lgc_j, cj_lt, cj_ge, cj_gt, cj_le, cj_eq, oL_r, oL_w, oL_f6, oL_g6, oL_f7, oL_g7, oL_f17, oL_g17, oL_f18, oL_g18, dl_T, dl_F, de_T, de_F, dle_T, dle_F, iI_divn, rem_n, nd_v, ct_s, Bool.false_eq_true]
end TD
