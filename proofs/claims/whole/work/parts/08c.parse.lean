/-! the pure parser, and the reference's every and some -/
section PE
variable {d : Nat} {T : Nat → Nat × Nat} {L : Nat → Nat → Int64} {R : Nat → Nat → Option Nat} {z w : Nat} {J : mR} {a n i o b : Int} {t S : Int → Int}
/-- a reading: the place behind it (or at which none can go on), and the tokens -/
abbrev PR : Type := Int × Option (List Int)
def bnd (r : PR) (g : Int → PR) : PR := match r.2 with
  | none => (r.1, none)
  | some ts => match (g r.1).2 with
    | none => ((g r.1).1, none)
    | some us => ((g r.1).1, some (ts ++ us))
theorem bnd_some {j : Int} {ts : List Int} {g : Int → PR} : (bnd (j, some ts) g).1 = (g j).1 := by
  unfold bnd; simp only []; split <;> rfl
def bw (r : PR) : Int := match r.2 with
  | none => 1
  | some _ => 0
theorem bnd_bw {j : Int} {ts : List Int} {g : Int → PR} : bw (bnd (j, some ts) g) = bw (g j) := by
  unfold bnd bw; simp only []
  cases (g j).2 <;> rfl
theorem bw_n {j : Int} : bw (j, none) = 1 := rfl
theorem bw_s {j : Int} {ts : List Int} : bw (j, some ts) = 0 := rfl
theorem bnd_nn {j : Int} {g : Int → PR} : bnd (j, none) g = (j, none) := rfl
theorem bnd_ss {j k : Int} {ts us : List Int} {g : Int → PR} (h : g j = (k, some us)) : bnd (j, some ts) g = (k, some (ts ++ us)) := by unfold bnd; simp only [h]
theorem bnd_sn {j k : Int} {ts : List Int} {g : Int → PR} (h : g j = (k, none)) : bnd (j, some ts) g = (k, none) := by unfold bnd; simp only [h]
def teP (t : Int → Int) (n i : Int) : PR :=
  if ix5 (atP t n i) = -1 then (i, none) else if ix3 (atP t n (i + 1)) = -1 then (i + 1, none) else if (nuP t n (i + 2)).2 = -1 then (i + 2, none) else ((nuP t n (i + 2)).1, some [ix5 (atP t n i) + 8 * ix3 (atP t n (i + 1)) + 32 * (nuP t n (i + 2)).2])
def lpP (t : Int → Int) (n c tok : Int) (f : Int → PR) : Nat → Int → PR
  | 0, i => (i, some [])
  | m + 1, i => if atP t n i = c then bnd (f (i + 1)) (fun j => bnd (j, some [tok]) (lpP t n c tok f m)) else (i, some [])
def evP (t : Int → Int) (n : Int) (f : Int → PR) (i : Int) : PR := bnd (f i) (lpP t n 38 (-2) f 121)
def soQ (t : Int → Int) (n : Int) (f : Int → PR) (i : Int) : PR := bnd (f i) (lpP t n 124 (-3) f 121)
def soP (t : Int → Int) (n : Int) (f : Int → PR) (i : Int) : PR := soQ t n (evP t n f) i
def faP (t : Int → Int) (n : Int) : Nat → Int → PR
  | 0, i => if atP t n i = 33 then (i, none) else if atP t n i = 40 then (i, none) else teP t n i
  | l + 1, i => if atP t n i = 33 then bnd (faP t n l (i + 1)) (fun j => (j, some [-1])) else if atP t n i = 40 then bnd (soP t n (faP t n l) (i + 1)) (fun j => if atP t n j = 41 then (j + 1, some []) else (j, none)) else teP t n i
/-- a reading goes on, and every token costs a byte -/
def gP (n : Int) (f : Int → PR) : Prop := ∀ i, 0 ≤ i → i ≤ n → i ≤ (f i).1 ∧ (f i).1 ≤ n ∧ ∀ ts, (f i).2 = some ts → (ts.length : Int) ≤ (f i).1 - i ∧ i < (f i).1
theorem ix5_r (c : Int) : -1 ≤ ix5 c ∧ ix5 c ≤ 4 := by unfold ix5; repeat' split
                                                       all_goals omega
theorem ix3_r (c : Int) : -1 ≤ ix3 c ∧ ix3 c ≤ 2 := by unfold ix3; repeat' split
                                                       all_goals omega
theorem ix5_n {i : Int} (h : ¬ ix5 (atP t n i) = -1) : i < n := by
  refine atP_n (c := atP t n i) rfl ?_
  intro e; rw [e] at h; exact h rfl
theorem ix3_n {i : Int} (h : ¬ ix3 (atP t n i) = -1) : i < n := by
  refine atP_n (c := atP t n i) rfl ?_
  intro e; rw [e] at h; exact h rfl
theorem teP_g : gP n (teP t n) := by
  intro i h0 hi
  unfold teP
  split
  · exact ⟨Int.le_refl _, hi, fun ts q => by cases q⟩
  rename_i c1
  have h1 := ix5_n c1
  split
  · exact ⟨by show i ≤ i + 1; omega, by show i + 1 ≤ n; omega, fun ts q => by cases q⟩
  rename_i c2
  have h2 := ix3_n c2
  split
  · exact ⟨by show i ≤ i + 2; omega, by show i + 2 ≤ n; omega, fun ts q => by cases q⟩
  rename_i c3
  obtain ⟨q1, q2, q3, q4, q5, q6⟩ := nuP_r (t := t) (n := n) (i := i + 2)
  have := q5 (by omega)
  refine ⟨by show i ≤ (nuP t n (i + 2)).1; omega, this.2, fun ts q => ?_⟩
  cases q
  show (1 : Int) ≤ (nuP t n (i + 2)).1 - i ∧ i < (nuP t n (i + 2)).1
  omega
/-- what a reading that may stay where it is keeps -/
def gQ (n : Int) (f : Int → PR) : Prop := ∀ i, 0 ≤ i → i ≤ n → i ≤ (f i).1 ∧ (f i).1 ≤ n ∧ ∀ ts, (f i).2 = some ts → (ts.length : Int) ≤ (f i).1 - i
theorem bnd_g {r : PR} {g : Int → PR} {i : Int} (h1 : i ≤ r.1 ∧ r.1 ≤ n) (h2 : ∀ ts, r.2 = some ts → (ts.length : Int) ≤ r.1 - i ∧ i < r.1) (h0 : 0 ≤ i) (hg : gQ n g) : i ≤ (bnd r g).1 ∧ (bnd r g).1 ≤ n ∧ ∀ ts, (bnd r g).2 = some ts → (ts.length : Int) ≤ (bnd r g).1 - i ∧ i < (bnd r g).1 := by
  obtain ⟨j, ots⟩ := r
  cases ots with
  | none => exact ⟨h1.1, h1.2, fun ts q => by cases q⟩
  | some ts =>
    have h2' := h2 ts rfl
    simp only [] at h1 h2'
    obtain ⟨a1, a2, a3⟩ := hg j (by omega) h1.2
    unfold bnd
    simp only []
    generalize hq : g j = q at *
    obtain ⟨k, ous⟩ := q
    cases ous with
    | none =>
      refine ⟨?_, a2, fun ts q => by cases q⟩
      show i ≤ k
      have a1 : j ≤ k := a1
      omega
    | some us =>
      have a3' : (us.length : Int) ≤ k - j := a3 us rfl
      have a1 : j ≤ k := a1
      refine ⟨by show i ≤ k; omega, a2, fun vs q => ?_⟩
      cases q
      show ((ts ++ us).length : Int) ≤ k - i ∧ i < k
      rw [List.length_append]
      omega
theorem lpP_g {c tok : Int} (hc : ¬ c = -1) {f : Int → PR} (hf : gP n f) : ∀ m, gQ n (lpP t n c tok f m) := by
  intro m
  induction m with
  | zero => intro i h0 hi; exact ⟨Int.le_refl _, hi, fun ts q => by cases q; show (0 : Int) ≤ i - i; omega⟩
  | succ m ih =>
    intro i h0 hi
    simp only [lpP]
    split
    · rename_i e
      have hin := atP_n e hc
      obtain ⟨q1, q2, q3⟩ := hf (i + 1) (by omega) (by omega)
      -- the token takes the byte at i
      have hb : ∀ j, 0 ≤ j → j ≤ n → j ≤ (bnd (j, some [tok]) (lpP t n c tok f m)).1 ∧ (bnd (j, some [tok]) (lpP t n c tok f m)).1 ≤ n ∧ ∀ ts, (bnd (j, some [tok]) (lpP t n c tok f m)).2 = some ts → (ts.length : Int) ≤ (bnd (j, some [tok]) (lpP t n c tok f m)).1 - j + 1 := by
        intro j hj0 hj
        obtain ⟨p1, p2, p3⟩ := ih j hj0 hj
        unfold bnd
        simp only []
        generalize hq : lpP t n c tok f m j = q at *
        obtain ⟨k, ous⟩ := q
        cases ous with
        | none => exact ⟨p1, p2, fun ts q => by cases q⟩
        | some us =>
          have p3' : (us.length : Int) ≤ k - j := p3 us rfl
          refine ⟨p1, p2, fun vs q => ?_⟩
          cases q
          show (([tok] ++ us).length : Int) ≤ k - j + 1
          rw [List.length_append]
          simp only [List.length_cons, List.length_nil]
          omega
      generalize hq : f (i + 1) = q at *
      obtain ⟨j, ots⟩ := q
      cases ots with
      | none => exact ⟨by show i ≤ j; have q1 : i + 1 ≤ j := q1; omega, q2, fun ts q => by cases q⟩
      | some ts =>
        have q3' : (ts.length : Int) ≤ j - (i + 1) ∧ i + 1 < j := q3 ts rfl
        have q2 : j ≤ n := q2
        obtain ⟨b1, b2, b3⟩ := hb j (by omega) q2
        show i ≤ (bnd (j, some ts) (fun j => bnd (j, some [tok]) (lpP t n c tok f m))).1 ∧ _
        generalize hG : (fun j => bnd (j, some [tok]) (lpP t n c tok f m)) = G at *
        have hGj : G j = bnd (j, some [tok]) (lpP t n c tok f m) := by rw [← hG]
        rw [← hGj] at b1 b2 b3
        unfold bnd
        simp only []
        generalize hq2 : G j = q2 at *
        obtain ⟨k, ous⟩ := q2
        cases ous with
        | none => exact ⟨by show i ≤ k; have b1 : j ≤ k := b1; omega, b2, fun ts q => by cases q⟩
        | some us =>
          have b3' : (us.length : Int) ≤ k - j + 1 := b3 us rfl
          refine ⟨by show i ≤ k; have b1 : j ≤ k := b1; omega, b2, fun vs q => ?_⟩
          cases q
          show ((ts ++ us).length : Int) ≤ k - i
          rw [List.length_append]
          omega
    · exact ⟨Int.le_refl _, hi, fun ts q => by cases q; show (0 : Int) ≤ i - i; omega⟩
theorem evP_g {f : Int → PR} (hf : gP n f) : gP n (evP t n f) := by
  intro i h0 hi
  obtain ⟨q1, q2, q3⟩ := hf i h0 hi
  exact bnd_g ⟨q1, q2⟩ q3 h0 (lpP_g (by decide) hf 121)
theorem soQ_g {f : Int → PR} (hf : gP n f) : gP n (soQ t n f) := by
  intro i h0 hi
  obtain ⟨q1, q2, q3⟩ := hf i h0 hi
  exact bnd_g ⟨q1, q2⟩ q3 h0 (lpP_g (by decide) hf 121)
theorem soP_g {f : Int → PR} (hf : gP n f) : gP n (soP t n f) := soQ_g (evP_g hf)
def laT (a : Int) (S : Int → Int) (ts : List Int) : Int → Int := ts.foldl (emS a) S
theorem laT_a (S : Int → Int) (xs ys : List Int) : laT a S (xs ++ ys) = laT a (laT a S xs) ys := List.foldl_append ..
theorem emS_c (v : Int) : emS a S v (235 + a) = S (235 + a) + 1 := by unfold emS; rw [up_r]
theorem laT_c : ∀ (ts : List Int) (S : Int → Int), laT a S ts (235 + a) = S (235 + a) + (ts.length : Int) := by
  intro ts
  induction ts with
  | nil => intro S; show S (235 + a) = S (235 + a) + 0; omega
  | cons v ts ih =>
    intro S
    show laT a (emS a S v) ts (235 + a) = _
    rw [ih, emS_c, List.length_cons]
    omega
/-- the same but for what a reading writes -/
def eqO (a : Int) (S S' : Int → Int) : Prop := ∀ j, ¬ j = 235 + a → (j < 240 + 140 * a ∨ 380 + 140 * a ≤ j) → S' j = S j
theorem eqO.tr {S S' S'' : Int → Int} (h : eqO a S S') (g : eqO a S' S'') : eqO a S S'' := fun j h1 h2 => (g j h1 h2).trans (h j h1 h2)
theorem eqO.tx {S S' : Int → Int} (h : eqO a S S') (ha : 0 ≤ a ∧ a ≤ 4) (hn : 0 ≤ n ∧ n ≤ 120) (hx : tX S t n) : tX S' t n := fun j h0 h1 => ⟨(h (30 + j) (by omega) (by omega)).trans (hx j h0 h1).1, (hx j h0 h1).2⟩
theorem emS_o {v : Int} (hc : 0 ≤ S (235 + a) ∧ S (235 + a) < 140) (ha : 0 ≤ a ∧ a ≤ 4) : eqO a S (emS a S v) := by
  intro j h1 h2
  unfold emS
  rw [up_o h1, up_o (by omega)]
/-- what a reading leaves in the row -/
def resT (a : Int) (S : Int → Int) (r : PR) (S' : Int → Int) : Prop := (∀ ts, r.2 = some ts → S' = laT a S ts) ∧ eqO a S S'
/-- a method reads so -/
def runsP (T : Nat → Nat × Nat) (R : Nat → Nat → Option Nat) (J : mR) (a n : Int) (t : Int → Int) (L : Nat → Nat → Int64) (z w D y : Nat) (o : Int) (f : Int → PR) : Prop := ∀ (i : Int) (S : Int → Int), 0 ≤ i → i ≤ n → tX S t n → 0 ≤ S (235 + a) → S (235 + a) ≤ i → ∃ S' : Int → Int, rn_c D y [.ref 193] (T, oI (pM J i 0 o S), L, R, z, w) = some (none, (T, oI (pM J (f i).1 (bw (f i)) o S'), L, R, z, w)) ∧ resT a S (f i) S'
theorem ev_loop (h : rM T R) (hp : pH J a n) (hn : 0 ≤ n ∧ n ≤ 120) (f : Int → PR) (hf : gP n f) (hr : runsP T R J a n t L z w (d + 3) 118 o f) : ∀ (m : Nat) (i : Int) (S : Int → Int), n - i < m → 0 ≤ i → i ≤ n → tX S t n → 0 ≤ S (235 + a) ∧ S (235 + a) ≤ i → ∃ S' : Int → Int, rn_r (d + 4) 119 4 [some (.ref 193)] [] (T, oI (pM J i 0 o S), L, R, z, w) = some (none, (T, oI (pM J (lpP t n 38 (-2) f m i).1 (bw (lpP t n 38 (-2) f m i)) o S'), L, R, z, w)) ∧ resT a S (lpP t n 38 (-2) f m i) S' := by
  intro m
  induction m with
  | zero => intro i S hm h0 hi; omega
  | succ m ih =>
    intro i S hm h0 hi hx hc
    have hhere := n_here (d := d + 3) (L := L) (z := z) (w := w) (b := 0) (o := o) h hp hx (i := i) (by omega)
    have hr0 := atP_r hx h0
    by_cases e : atP t n i = 38
    · have hin := atP_n e (by decide)
      have el : lpP t n 38 (-2) f (m + 1) i = bnd (f (i + 1)) (fun j => bnd (j, some [-2]) (lpP t n 38 (-2) f m)) := by simp only [lpP, if_pos e]
      obtain ⟨S1, hrun1, r1, r2⟩ := hr (i + 1) S (by omega) (by omega) hx hc.1 (by omega)
      obtain ⟨g1, g2, g3⟩ := hf (i + 1) (by omega) (by omega)
      rw [el]
      have hstep : rn_r (d + 4) 119 4 [some (.ref 193)] [] (T, oI (pM J i 0 o S), L, R, z, w) = rn_r (d + 4) 119 34 [some (.ref 193)] [] (T, oI (pM J (f (i + 1)).1 (bw (f (i + 1))) o S1), L, R, z, w) := by
        simp (disch := first | omega | exact hJ _ _ | exact rJ_g hJ _ _ | (simp (disch := omega) only [ur_r, ur_o, up_r, up_o]; omega) | assumption) only [s119_4, s119_4v, s119_5, b119_8, s119_11, s119_11v, s119_12, s119_15, b119_17, s119_20, s119_20v, s119_21, s119_22, s119_25, s119_26, s119_27, s119_30, s119_30v, s119_31, h.t193, hhere, hrun1, up_c, ur_c, e, kl_i, kl_r, kl_l, kl_n, kl_z, bd_s, tl_s, tl_n, ap_c, ap_n, v_s, v_n, nd_1, nd_0, ct13, eq_self, iI_add, iI_sub, iI_mul, iI_nat, iI_eq, iI_lt, iI_le, iI_eq0, iI_lt0, ↓reduceIte, if_true, if_false, not_true_eq_false, not_false_eq_true, true_and, and_true, false_and, and_false, true_or, or_true, false_or, or_false, Int.reduceLT, Int.reduceLE, Int.reduceEq, Int.reduceAdd, Int.reduceSub, Int.reduceMul, Nat.reduceAdd, Nat.reduceLT, Nat.reduceEqDiff, Int.reduceNeg, nc_s, nc_0, Int.zero_add, Int.add_zero, oI_r, oI_w, oI_f0, oI_g0, oI_f1, oI_g1, oI_f2, oI_g2, oI_f3, oI_g3, oI_f4, oI_g4, oI_f5, oI_g5, oI_f6, oI_g6, oI_f7, oI_g7, oI_f8, oI_g8, oI_f9, oI_g9, oI_f10, oI_g10, oI_f11, oI_g11, oI_f12, oI_g12, oI_f13, oI_g13, oI_f14, oI_g14, oI_f15, oI_g15, oI_f16, oI_g16, oI_f17, oI_g17, oI_f18, oI_g18, oI_f19, oI_g19, oI_f20, oI_g20, oI_f21, oI_g21, oI_f22, oI_g22, oI_f23, oI_g23, oI_f24, oI_g24, oI_f25, oI_g25, ur_r, ur_o, ur_s, up_r, up_o, up_s, jI_add, jI_sub, jI_mul, jI_neg, jI_i, jI_n, lgc_j, cj_lt, cj_ge, cj_gt, cj_le, cj_eq, oL_r, oL_w, oL_f6, oL_g6, oL_f7, oL_g7, oL_f17, oL_g17, oL_f18, oL_g18, dl_T, dl_F, de_T, de_F, dle_T, dle_F, iI_divn, rem_n, nd_v, ct_s, Bool.false_eq_true]
      rw [hstep]
      generalize hq : f (i + 1) = q at *
      obtain ⟨j, ots⟩ := q
      cases ots with
      | none =>
        refine ⟨S1, ?_, ⟨fun ts q => (by cases q), r2⟩⟩
        simp only [bnd_nn, bw_n]
        simp (disch := first | omega | exact hJ _ _ | exact rJ_g hJ _ _ | (simp (disch := omega) only [ur_r, ur_o, up_r, up_o]; omega) | assumption) only [s119_4, s119_4v, s119_5, b119_8, s119_34, s119_34v, s119_35, s119_37, s119_40, s119_43, h.t193, n_emits_w h hp, kl_i, kl_r, kl_l, kl_n, kl_z, bd_s, tl_s, tl_n, ap_c, ap_n, v_s, v_n, nd_1, nd_0, ct13, eq_self, iI_add, iI_sub, iI_mul, iI_nat, iI_eq, iI_lt, iI_le, iI_eq0, iI_lt0, ↓reduceIte, if_true, if_false, not_true_eq_false, not_false_eq_true, true_and, and_true, false_and, and_false, true_or, or_true, false_or, or_false, Int.reduceLT, Int.reduceLE, Int.reduceEq, Int.reduceAdd, Int.reduceSub, Int.reduceMul, Nat.reduceAdd, Nat.reduceLT, Nat.reduceEqDiff, Int.reduceNeg, nc_s, nc_0, Int.zero_add, Int.add_zero, oI_r, oI_w, oI_f0, oI_g0, oI_f1, oI_g1, oI_f2, oI_g2, oI_f3, oI_g3, oI_f4, oI_g4, oI_f5, oI_g5, oI_f6, oI_g6, oI_f7, oI_g7, oI_f8, oI_g8, oI_f9, oI_g9, oI_f10, oI_g10, oI_f11, oI_g11, oI_f12, oI_g12, oI_f13, oI_g13, oI_f14, oI_g14, oI_f15, oI_g15, oI_f16, oI_g16, oI_f17, oI_g17, oI_f18, oI_g18, oI_f19, oI_g19, oI_f20, oI_g20, oI_f21, oI_g21, oI_f22, oI_g22, oI_f23, oI_g23, oI_f24, oI_g24, oI_f25, oI_g25, ur_r, ur_o, ur_s, up_r, up_o, up_s, jI_add, jI_sub, jI_mul, jI_neg, jI_i, jI_n, lgc_j, cj_lt, cj_ge, cj_gt, cj_le, cj_eq, oL_r, oL_w, oL_f6, oL_g6, oL_f7, oL_g7, oL_f17, oL_g17, oL_f18, oL_g18, dl_T, dl_F, de_T, de_F, dle_T, dle_F, iI_divn, rem_n, nd_v, ct_s, Bool.false_eq_true]
      | some ts =>
        have hl := g3 ts rfl
        have e1 := r1 ts rfl
        have c1 := laT_c (a := a) ts S
        rw [← e1] at c1
        simp only [bw_s]
        simp only [] at hl g1 g2
        have hem := n_emits (d := d + 3) (L := L) (R := R) (z := z) (w := w) (i := j) (o := o) (S := S1) h hp (-2) (by omega)
        have x1 : eqO a S (emS a S1 (-2)) := r2.tr (emS_o (by omega) hp.2.1)
        obtain ⟨S2, hrun2, q1, q2⟩ := ih j (emS a S1 (-2)) (by omega) (by omega) g2 (x1.tx hp.2.1 hn hx) (by rw [emS_c]; omega)
        refine ⟨S2, ?_, ?_⟩
        · simp only [bnd_some, bnd_bw]
          refine Eq.trans ?_ hrun2
          simp (disch := first | omega | exact hJ _ _ | exact rJ_g hJ _ _ | (simp (disch := omega) only [ur_r, ur_o, up_r, up_o]; omega) | assumption) only [s119_34, s119_34v, s119_35, s119_37, s119_40, h.t193, hem, kl_i, kl_r, kl_l, kl_n, kl_z, bd_s, tl_s, tl_n, ap_c, ap_n, v_s, v_n, nd_1, nd_0, ct13, eq_self, iI_add, iI_sub, iI_mul, iI_nat, iI_eq, iI_lt, iI_le, iI_eq0, iI_lt0, ↓reduceIte, if_true, if_false, not_true_eq_false, not_false_eq_true, true_and, and_true, false_and, and_false, true_or, or_true, false_or, or_false, Int.reduceLT, Int.reduceLE, Int.reduceEq, Int.reduceAdd, Int.reduceSub, Int.reduceMul, Nat.reduceAdd, Nat.reduceLT, Nat.reduceEqDiff, Int.reduceNeg, nc_s, nc_0, Int.zero_add, Int.add_zero, oI_r, oI_w, oI_f0, oI_g0, oI_f1, oI_g1, oI_f2, oI_g2, oI_f3, oI_g3, oI_f4, oI_g4, oI_f5, oI_g5, oI_f6, oI_g6, oI_f7, oI_g7, oI_f8, oI_g8, oI_f9, oI_g9, oI_f10, oI_g10, oI_f11, oI_g11, oI_f12, oI_g12, oI_f13, oI_g13, oI_f14, oI_g14, oI_f15, oI_g15, oI_f16, oI_g16, oI_f17, oI_g17, oI_f18, oI_g18, oI_f19, oI_g19, oI_f20, oI_g20, oI_f21, oI_g21, oI_f22, oI_g22, oI_f23, oI_g23, oI_f24, oI_g24, oI_f25, oI_g25, ur_r, ur_o, ur_s, up_r, up_o, up_s, jI_add, jI_sub, jI_mul, jI_neg, jI_i, jI_n, lgc_j, cj_lt, cj_ge, cj_gt, cj_le, cj_eq, oL_r, oL_w, oL_f6, oL_g6, oL_f7, oL_g7, oL_f17, oL_g17, oL_f18, oL_g18, dl_T, dl_F, de_T, de_F, dle_T, dle_F, iI_divn, rem_n, nd_v, ct_s, Bool.false_eq_true]
        · refine ⟨fun us q => ?_, x1.tr q2⟩
          generalize hz : lpP t n 38 (-2) f m j = z at *
          obtain ⟨k, ovs⟩ := z
          cases ovs with
          | none => rw [bnd_sn (bnd_sn hz)] at q; cases q
          | some vs =>
            rw [bnd_ss (bnd_ss hz)] at q
            cases q
            rw [q1 vs rfl, e1, laT_a]
            rfl
    · refine ⟨S, ?_, ?_⟩
      · simp only [lpP, if_neg e, bw_s]
        simp (disch := first | omega | exact hJ _ _ | exact rJ_g hJ _ _ | (simp (disch := omega) only [ur_r, ur_o, up_r, up_o]; omega) | assumption) only [s119_4, s119_4v, s119_5, b119_8, s119_11, s119_11v, s119_12, s119_15, b119_17, s119_43, h.t193, hhere, kl_i, kl_r, kl_l, kl_n, kl_z, bd_s, tl_s, tl_n, ap_c, ap_n, v_s, v_n, nd_1, nd_0, ct13, eq_self, iI_add, iI_sub, iI_mul, iI_nat, iI_eq, iI_lt, iI_le, iI_eq0, iI_lt0, ↓reduceIte, if_true, if_false, not_true_eq_false, not_false_eq_true, true_and, and_true, false_and, and_false, true_or, or_true, false_or, or_false, Int.reduceLT, Int.reduceLE, Int.reduceEq, Int.reduceAdd, Int.reduceSub, Int.reduceMul, Nat.reduceAdd, Nat.reduceLT, Nat.reduceEqDiff, Int.reduceNeg, nc_s, nc_0, Int.zero_add, Int.add_zero, oI_r, oI_w, oI_f0, oI_g0, oI_f1, oI_g1, oI_f2, oI_g2, oI_f3, oI_g3, oI_f4, oI_g4, oI_f5, oI_g5, oI_f6, oI_g6, oI_f7, oI_g7, oI_f8, oI_g8, oI_f9, oI_g9, oI_f10, oI_g10, oI_f11, oI_g11, oI_f12, oI_g12, oI_f13, oI_g13, oI_f14, oI_g14, oI_f15, oI_g15, oI_f16, oI_g16, oI_f17, oI_g17, oI_f18, oI_g18, oI_f19, oI_g19, oI_f20, oI_g20, oI_f21, oI_g21, oI_f22, oI_g22, oI_f23, oI_g23, oI_f24, oI_g24, oI_f25, oI_g25, ur_r, ur_o, ur_s, up_r, up_o, up_s, jI_add, jI_sub, jI_mul, jI_neg, jI_i, jI_n, lgc_j, cj_lt, cj_ge, cj_gt, cj_le, cj_eq, oL_r, oL_w, oL_f6, oL_g6, oL_f7, oL_g7, oL_f17, oL_g17, oL_f18, oL_g18, dl_T, dl_F, de_T, de_F, dle_T, dle_F, iI_divn, rem_n, nd_v, ct_s, Bool.false_eq_true]
      · simp only [lpP, if_neg e]
        exact ⟨fun ts q => by cases q; rfl, fun _ _ _ => rfl⟩
theorem n_every (h : rM T R) (hp : pH J a n) (hn : 0 ≤ n ∧ n ≤ 120) (f : Int → PR) (hf : gP n f) (hr : runsP T R J a n t L z w (d + 3) 118 o f) : runsP T R J a n t L z w (d + 4) 119 o (evP t n f) := by
  intro i S h0 hi hx hc0 hc1
  obtain ⟨S1, hrun1, r1, r2⟩ := hr i S h0 hi hx hc0 hc1
  obtain ⟨g1, g2, g3⟩ := hf i h0 hi
  have hstep : rn_c (d + 4) 119 [.ref 193] (T, oI (pM J i 0 o S), L, R, z, w) = rn_r (d + 4) 119 4 [some (.ref 193)] [] (T, oI (pM J (f i).1 (bw (f i)) o S1), L, R, z, w) := by
    simp (disch := first | omega | exact hJ _ _ | exact rJ_g hJ _ _ | (simp (disch := omega) only [ur_r, ur_o, up_r, up_o]; omega) | assumption) only [c119, s119_0, s119_0v, s119_1, h.t193, hrun1, kl_i, kl_r, kl_l, kl_n, kl_z, bd_s, tl_s, tl_n, ap_c, ap_n, v_s, v_n, nd_1, nd_0, ct13, eq_self, iI_add, iI_sub, iI_mul, iI_nat, iI_eq, iI_lt, iI_le, iI_eq0, iI_lt0, ↓reduceIte, if_true, if_false, not_true_eq_false, not_false_eq_true, true_and, and_true, false_and, and_false, true_or, or_true, false_or, or_false, Int.reduceLT, Int.reduceLE, Int.reduceEq, Int.reduceAdd, Int.reduceSub, Int.reduceMul, Nat.reduceAdd, Nat.reduceLT, Nat.reduceEqDiff, Int.reduceNeg, nc_s, nc_0, Int.zero_add, Int.add_zero, oI_r, oI_w, oI_f0, oI_g0, oI_f1, oI_g1, oI_f2, oI_g2, oI_f3, oI_g3, oI_f4, oI_g4, oI_f5, oI_g5, oI_f6, oI_g6, oI_f7, oI_g7, oI_f8, oI_g8, oI_f9, oI_g9, oI_f10, oI_g10, oI_f11, oI_g11, oI_f12, oI_g12, oI_f13, oI_g13, oI_f14, oI_g14, oI_f15, oI_g15, oI_f16, oI_g16, oI_f17, oI_g17, oI_f18, oI_g18, oI_f19, oI_g19, oI_f20, oI_g20, oI_f21, oI_g21, oI_f22, oI_g22, oI_f23, oI_g23, oI_f24, oI_g24, oI_f25, oI_g25, ur_r, ur_o, ur_s, up_r, up_o, up_s, jI_add, jI_sub, jI_mul, jI_neg, jI_i, jI_n, lgc_j, cj_lt, cj_ge, cj_gt, cj_le, cj_eq, oL_r, oL_w, oL_f6, oL_g6, oL_f7, oL_g7, oL_f17, oL_g17, oL_f18, oL_g18, dl_T, dl_F, de_T, de_F, dle_T, dle_F, iI_divn, rem_n, nd_v, ct_s, Bool.false_eq_true]
  rw [hstep]
  unfold evP
  generalize hq : f i = q at *
  obtain ⟨j, ots⟩ := q
  cases ots with
  | none =>
    refine ⟨S1, ?_, ⟨fun ts q => (by cases q), r2⟩⟩
    simp only [bnd_nn, bw_n]
    simp (disch := first | omega | exact hJ _ _ | exact rJ_g hJ _ _ | (simp (disch := omega) only [ur_r, ur_o, up_r, up_o]; omega) | assumption) only [s119_4, s119_4v, s119_5, b119_8, s119_43, h.t193, kl_i, kl_r, kl_l, kl_n, kl_z, bd_s, tl_s, tl_n, ap_c, ap_n, v_s, v_n, nd_1, nd_0, ct13, eq_self, iI_add, iI_sub, iI_mul, iI_nat, iI_eq, iI_lt, iI_le, iI_eq0, iI_lt0, ↓reduceIte, if_true, if_false, not_true_eq_false, not_false_eq_true, true_and, and_true, false_and, and_false, true_or, or_true, false_or, or_false, Int.reduceLT, Int.reduceLE, Int.reduceEq, Int.reduceAdd, Int.reduceSub, Int.reduceMul, Nat.reduceAdd, Nat.reduceLT, Nat.reduceEqDiff, Int.reduceNeg, nc_s, nc_0, Int.zero_add, Int.add_zero, oI_r, oI_w, oI_f0, oI_g0, oI_f1, oI_g1, oI_f2, oI_g2, oI_f3, oI_g3, oI_f4, oI_g4, oI_f5, oI_g5, oI_f6, oI_g6, oI_f7, oI_g7, oI_f8, oI_g8, oI_f9, oI_g9, oI_f10, oI_g10, oI_f11, oI_g11, oI_f12, oI_g12, oI_f13, oI_g13, oI_f14, oI_g14, oI_f15, oI_g15, oI_f16, oI_g16, oI_f17, oI_g17, oI_f18, oI_g18, oI_f19, oI_g19, oI_f20, oI_g20, oI_f21, oI_g21, oI_f22, oI_g22, oI_f23, oI_g23, oI_f24, oI_g24, oI_f25, oI_g25, ur_r, ur_o, ur_s, up_r, up_o, up_s, jI_add, jI_sub, jI_mul, jI_neg, jI_i, jI_n, lgc_j, cj_lt, cj_ge, cj_gt, cj_le, cj_eq, oL_r, oL_w, oL_f6, oL_g6, oL_f7, oL_g7, oL_f17, oL_g17, oL_f18, oL_g18, dl_T, dl_F, de_T, de_F, dle_T, dle_F, iI_divn, rem_n, nd_v, ct_s, Bool.false_eq_true]
  | some ts =>
    have hl := g3 ts rfl
    have e1 := r1 ts rfl
    have c1 := laT_c (a := a) ts S
    rw [← e1] at c1
    simp only [bw_s]
    simp only [] at hl g1 g2
    obtain ⟨S2, hrun2, q1, q2⟩ := ev_loop h hp hn f hf hr 121 j S1 (by omega) (by omega) g2 (r2.tx hp.2.1 hn hx) (by omega)
    refine ⟨S2, ?_, ?_⟩
    · rw [bnd_some, bnd_bw]
      exact hrun2
    · refine ⟨fun us q => ?_, r2.tr q2⟩
      generalize hz : lpP t n 38 (-2) f 121 j = z at *
      obtain ⟨k, ovs⟩ := z
      cases ovs with
      | none => rw [bnd_sn hz] at q; cases q
      | some vs =>
        rw [bnd_ss hz] at q
        cases q
        rw [q1 vs rfl, e1, laT_a]
theorem n_every_w (h : rM T R) (hw : ∀ i S, rn_c (d + 3) 118 [.ref 193] (T, oI (pM J i 1 o S), L, R, z, w) = some (none, (T, oI (pM J i 1 o S), L, R, z, w))) (i : Int) (S : Int → Int) : rn_c (d + 4) 119 [.ref 193] (T, oI (pM J i 1 o S), L, R, z, w) = some (none, (T, oI (pM J i 1 o S), L, R, z, w)) := by
  simp (disch := first | omega | exact hJ _ _ | exact rJ_g hJ _ _ | (simp (disch := omega) only [ur_r, ur_o, up_r, up_o]; omega) | assumption) only [s119_0, s119_0v, s119_1, s119_4, s119_4v, s119_5, b119_8, c119, s119_43, h.t193, hw, kl_i, kl_r, kl_l, kl_n, kl_z, bd_s, tl_s, tl_n, ap_c, ap_n, v_s, v_n, nd_1, nd_0, ct13, eq_self, iI_add, iI_sub, iI_mul, iI_nat, iI_eq, iI_lt, iI_le, iI_eq0, iI_lt0, ↓reduceIte, if_true, if_false, not_true_eq_false, not_false_eq_true, true_and, and_true, false_and, and_false, true_or, or_true, false_or, or_false, Int.reduceLT, Int.reduceLE, Int.reduceEq, Int.reduceAdd, Int.reduceSub, Int.reduceMul, Nat.reduceAdd, Nat.reduceLT, Nat.reduceEqDiff, Int.reduceNeg, nc_s, nc_0, Int.zero_add, Int.add_zero, oI_r, oI_w, oI_f0, oI_g0, oI_f1, oI_g1, oI_f2, oI_g2, oI_f3, oI_g3, oI_f4, oI_g4, oI_f5, oI_g5, oI_f6, oI_g6, oI_f7, oI_g7, oI_f8, oI_g8, oI_f9, oI_g9, oI_f10, oI_g10, oI_f11, oI_g11, oI_f12, oI_g12, oI_f13, oI_g13, oI_f14, oI_g14, oI_f15, oI_g15, oI_f16, oI_g16, oI_f17, oI_g17, oI_f18, oI_g18, oI_f19, oI_g19, oI_f20, oI_g20, oI_f21, oI_g21, oI_f22, oI_g22, oI_f23, oI_g23, oI_f24, oI_g24, oI_f25, oI_g25, ur_r, ur_o, ur_s, up_r, up_o, up_s, jI_add, jI_sub, jI_mul, jI_neg, jI_i, jI_n, lgc_j, cj_lt, cj_ge, cj_gt, cj_le, cj_eq, oL_r, oL_w, oL_f6, oL_g6, oL_f7, oL_g7, oL_f17, oL_g17, oL_f18, oL_g18, dl_T, dl_F, de_T, de_F, dle_T, dle_F, iI_divn, rem_n, nd_v, ct_s, Bool.false_eq_true]
theorem so_loop (h : rM T R) (hp : pH J a n) (hn : 0 ≤ n ∧ n ≤ 120) (f : Int → PR) (hf : gP n f) (hr : runsP T R J a n t L z w (d + 3) 119 o f) : ∀ (m : Nat) (i : Int) (S : Int → Int), n - i < m → 0 ≤ i → i ≤ n → tX S t n → 0 ≤ S (235 + a) ∧ S (235 + a) ≤ i → ∃ S' : Int → Int, rn_r (d + 4) 120 4 [some (.ref 193)] [] (T, oI (pM J i 0 o S), L, R, z, w) = some (none, (T, oI (pM J (lpP t n 124 (-3) f m i).1 (bw (lpP t n 124 (-3) f m i)) o S'), L, R, z, w)) ∧ resT a S (lpP t n 124 (-3) f m i) S' := by
  intro m
  induction m with
  | zero => intro i S hm h0 hi; omega
  | succ m ih =>
    intro i S hm h0 hi hx hc
    have hhere := n_here (d := d + 3) (L := L) (z := z) (w := w) (b := 0) (o := o) h hp hx (i := i) (by omega)
    have hr0 := atP_r hx h0
    by_cases e : atP t n i = 124
    · have hin := atP_n e (by decide)
      have el : lpP t n 124 (-3) f (m + 1) i = bnd (f (i + 1)) (fun j => bnd (j, some [-3]) (lpP t n 124 (-3) f m)) := by simp only [lpP, if_pos e]
      obtain ⟨S1, hrun1, r1, r2⟩ := hr (i + 1) S (by omega) (by omega) hx hc.1 (by omega)
      obtain ⟨g1, g2, g3⟩ := hf (i + 1) (by omega) (by omega)
      rw [el]
      have hstep : rn_r (d + 4) 120 4 [some (.ref 193)] [] (T, oI (pM J i 0 o S), L, R, z, w) = rn_r (d + 4) 120 34 [some (.ref 193)] [] (T, oI (pM J (f (i + 1)).1 (bw (f (i + 1))) o S1), L, R, z, w) := by
        simp (disch := first | omega | exact hJ _ _ | exact rJ_g hJ _ _ | (simp (disch := omega) only [ur_r, ur_o, up_r, up_o]; omega) | assumption) only [s120_4, s120_4v, s120_5, b120_8, s120_11, s120_11v, s120_12, s120_15, b120_17, s120_20, s120_20v, s120_21, s120_22, s120_25, s120_26, s120_27, s120_30, s120_30v, s120_31, h.t193, hhere, hrun1, up_c, ur_c, e, kl_i, kl_r, kl_l, kl_n, kl_z, bd_s, tl_s, tl_n, ap_c, ap_n, v_s, v_n, nd_1, nd_0, ct13, eq_self, iI_add, iI_sub, iI_mul, iI_nat, iI_eq, iI_lt, iI_le, iI_eq0, iI_lt0, ↓reduceIte, if_true, if_false, not_true_eq_false, not_false_eq_true, true_and, and_true, false_and, and_false, true_or, or_true, false_or, or_false, Int.reduceLT, Int.reduceLE, Int.reduceEq, Int.reduceAdd, Int.reduceSub, Int.reduceMul, Nat.reduceAdd, Nat.reduceLT, Nat.reduceEqDiff, Int.reduceNeg, nc_s, nc_0, Int.zero_add, Int.add_zero, oI_r, oI_w, oI_f0, oI_g0, oI_f1, oI_g1, oI_f2, oI_g2, oI_f3, oI_g3, oI_f4, oI_g4, oI_f5, oI_g5, oI_f6, oI_g6, oI_f7, oI_g7, oI_f8, oI_g8, oI_f9, oI_g9, oI_f10, oI_g10, oI_f11, oI_g11, oI_f12, oI_g12, oI_f13, oI_g13, oI_f14, oI_g14, oI_f15, oI_g15, oI_f16, oI_g16, oI_f17, oI_g17, oI_f18, oI_g18, oI_f19, oI_g19, oI_f20, oI_g20, oI_f21, oI_g21, oI_f22, oI_g22, oI_f23, oI_g23, oI_f24, oI_g24, oI_f25, oI_g25, ur_r, ur_o, ur_s, up_r, up_o, up_s, jI_add, jI_sub, jI_mul, jI_neg, jI_i, jI_n, lgc_j, cj_lt, cj_ge, cj_gt, cj_le, cj_eq, oL_r, oL_w, oL_f6, oL_g6, oL_f7, oL_g7, oL_f17, oL_g17, oL_f18, oL_g18, dl_T, dl_F, de_T, de_F, dle_T, dle_F, iI_divn, rem_n, nd_v, ct_s, Bool.false_eq_true]
      rw [hstep]
      generalize hq : f (i + 1) = q at *
      obtain ⟨j, ots⟩ := q
      cases ots with
      | none =>
        refine ⟨S1, ?_, ⟨fun ts q => (by cases q), r2⟩⟩
        simp only [bnd_nn, bw_n]
        simp (disch := first | omega | exact hJ _ _ | exact rJ_g hJ _ _ | (simp (disch := omega) only [ur_r, ur_o, up_r, up_o]; omega) | assumption) only [s120_4, s120_4v, s120_5, b120_8, s120_34, s120_34v, s120_35, s120_37, s120_40, s120_43, h.t193, n_emits_w h hp, kl_i, kl_r, kl_l, kl_n, kl_z, bd_s, tl_s, tl_n, ap_c, ap_n, v_s, v_n, nd_1, nd_0, ct13, eq_self, iI_add, iI_sub, iI_mul, iI_nat, iI_eq, iI_lt, iI_le, iI_eq0, iI_lt0, ↓reduceIte, if_true, if_false, not_true_eq_false, not_false_eq_true, true_and, and_true, false_and, and_false, true_or, or_true, false_or, or_false, Int.reduceLT, Int.reduceLE, Int.reduceEq, Int.reduceAdd, Int.reduceSub, Int.reduceMul, Nat.reduceAdd, Nat.reduceLT, Nat.reduceEqDiff, Int.reduceNeg, nc_s, nc_0, Int.zero_add, Int.add_zero, oI_r, oI_w, oI_f0, oI_g0, oI_f1, oI_g1, oI_f2, oI_g2, oI_f3, oI_g3, oI_f4, oI_g4, oI_f5, oI_g5, oI_f6, oI_g6, oI_f7, oI_g7, oI_f8, oI_g8, oI_f9, oI_g9, oI_f10, oI_g10, oI_f11, oI_g11, oI_f12, oI_g12, oI_f13, oI_g13, oI_f14, oI_g14, oI_f15, oI_g15, oI_f16, oI_g16, oI_f17, oI_g17, oI_f18, oI_g18, oI_f19, oI_g19, oI_f20, oI_g20, oI_f21, oI_g21, oI_f22, oI_g22, oI_f23, oI_g23, oI_f24, oI_g24, oI_f25, oI_g25, ur_r, ur_o, ur_s, up_r, up_o, up_s, jI_add, jI_sub, jI_mul, jI_neg, jI_i, jI_n, lgc_j, cj_lt, cj_ge, cj_gt, cj_le, cj_eq, oL_r, oL_w, oL_f6, oL_g6, oL_f7, oL_g7, oL_f17, oL_g17, oL_f18, oL_g18, dl_T, dl_F, de_T, de_F, dle_T, dle_F, iI_divn, rem_n, nd_v, ct_s, Bool.false_eq_true]
      | some ts =>
        have hl := g3 ts rfl
        have e1 := r1 ts rfl
        have c1 := laT_c (a := a) ts S
        rw [← e1] at c1
        simp only [bw_s]
        simp only [] at hl g1 g2
        have hem := n_emits (d := d + 3) (L := L) (R := R) (z := z) (w := w) (i := j) (o := o) (S := S1) h hp (-3) (by omega)
        have x1 : eqO a S (emS a S1 (-3)) := r2.tr (emS_o (by omega) hp.2.1)
        obtain ⟨S2, hrun2, q1, q2⟩ := ih j (emS a S1 (-3)) (by omega) (by omega) g2 (x1.tx hp.2.1 hn hx) (by rw [emS_c]; omega)
        refine ⟨S2, ?_, ?_⟩
        · simp only [bnd_some, bnd_bw]
          refine Eq.trans ?_ hrun2
          simp (disch := first | omega | exact hJ _ _ | exact rJ_g hJ _ _ | (simp (disch := omega) only [ur_r, ur_o, up_r, up_o]; omega) | assumption) only [s120_34, s120_34v, s120_35, s120_37, s120_40, h.t193, hem, kl_i, kl_r, kl_l, kl_n, kl_z, bd_s, tl_s, tl_n, ap_c, ap_n, v_s, v_n, nd_1, nd_0, ct13, eq_self, iI_add, iI_sub, iI_mul, iI_nat, iI_eq, iI_lt, iI_le, iI_eq0, iI_lt0, ↓reduceIte, if_true, if_false, not_true_eq_false, not_false_eq_true, true_and, and_true, false_and, and_false, true_or, or_true, false_or, or_false, Int.reduceLT, Int.reduceLE, Int.reduceEq, Int.reduceAdd, Int.reduceSub, Int.reduceMul, Nat.reduceAdd, Nat.reduceLT, Nat.reduceEqDiff, Int.reduceNeg, nc_s, nc_0, Int.zero_add, Int.add_zero, oI_r, oI_w, oI_f0, oI_g0, oI_f1, oI_g1, oI_f2, oI_g2, oI_f3, oI_g3, oI_f4, oI_g4, oI_f5, oI_g5, oI_f6, oI_g6, oI_f7, oI_g7, oI_f8, oI_g8, oI_f9, oI_g9, oI_f10, oI_g10, oI_f11, oI_g11, oI_f12, oI_g12, oI_f13, oI_g13, oI_f14, oI_g14, oI_f15, oI_g15, oI_f16, oI_g16, oI_f17, oI_g17, oI_f18, oI_g18, oI_f19, oI_g19, oI_f20, oI_g20, oI_f21, oI_g21, oI_f22, oI_g22, oI_f23, oI_g23, oI_f24, oI_g24, oI_f25, oI_g25, ur_r, ur_o, ur_s, up_r, up_o, up_s, jI_add, jI_sub, jI_mul, jI_neg, jI_i, jI_n, lgc_j, cj_lt, cj_ge, cj_gt, cj_le, cj_eq, oL_r, oL_w, oL_f6, oL_g6, oL_f7, oL_g7, oL_f17, oL_g17, oL_f18, oL_g18, dl_T, dl_F, de_T, de_F, dle_T, dle_F, iI_divn, rem_n, nd_v, ct_s, Bool.false_eq_true]
        · refine ⟨fun us q => ?_, x1.tr q2⟩
          generalize hz : lpP t n 124 (-3) f m j = z at *
          obtain ⟨k, ovs⟩ := z
          cases ovs with
          | none => rw [bnd_sn (bnd_sn hz)] at q; cases q
          | some vs =>
            rw [bnd_ss (bnd_ss hz)] at q
            cases q
            rw [q1 vs rfl, e1, laT_a]
            rfl
    · refine ⟨S, ?_, ?_⟩
      · simp only [lpP, if_neg e, bw_s]
        simp (disch := first | omega | exact hJ _ _ | exact rJ_g hJ _ _ | (simp (disch := omega) only [ur_r, ur_o, up_r, up_o]; omega) | assumption) only [s120_4, s120_4v, s120_5, b120_8, s120_11, s120_11v, s120_12, s120_15, b120_17, s120_43, h.t193, hhere, kl_i, kl_r, kl_l, kl_n, kl_z, bd_s, tl_s, tl_n, ap_c, ap_n, v_s, v_n, nd_1, nd_0, ct13, eq_self, iI_add, iI_sub, iI_mul, iI_nat, iI_eq, iI_lt, iI_le, iI_eq0, iI_lt0, ↓reduceIte, if_true, if_false, not_true_eq_false, not_false_eq_true, true_and, and_true, false_and, and_false, true_or, or_true, false_or, or_false, Int.reduceLT, Int.reduceLE, Int.reduceEq, Int.reduceAdd, Int.reduceSub, Int.reduceMul, Nat.reduceAdd, Nat.reduceLT, Nat.reduceEqDiff, Int.reduceNeg, nc_s, nc_0, Int.zero_add, Int.add_zero, oI_r, oI_w, oI_f0, oI_g0, oI_f1, oI_g1, oI_f2, oI_g2, oI_f3, oI_g3, oI_f4, oI_g4, oI_f5, oI_g5, oI_f6, oI_g6, oI_f7, oI_g7, oI_f8, oI_g8, oI_f9, oI_g9, oI_f10, oI_g10, oI_f11, oI_g11, oI_f12, oI_g12, oI_f13, oI_g13, oI_f14, oI_g14, oI_f15, oI_g15, oI_f16, oI_g16, oI_f17, oI_g17, oI_f18, oI_g18, oI_f19, oI_g19, oI_f20, oI_g20, oI_f21, oI_g21, oI_f22, oI_g22, oI_f23, oI_g23, oI_f24, oI_g24, oI_f25, oI_g25, ur_r, ur_o, ur_s, up_r, up_o, up_s, jI_add, jI_sub, jI_mul, jI_neg, jI_i, jI_n, lgc_j, cj_lt, cj_ge, cj_gt, cj_le, cj_eq, oL_r, oL_w, oL_f6, oL_g6, oL_f7, oL_g7, oL_f17, oL_g17, oL_f18, oL_g18, dl_T, dl_F, de_T, de_F, dle_T, dle_F, iI_divn, rem_n, nd_v, ct_s, Bool.false_eq_true]
      · simp only [lpP, if_neg e]
        exact ⟨fun ts q => by cases q; rfl, fun _ _ _ => rfl⟩
theorem n_some (h : rM T R) (hp : pH J a n) (hn : 0 ≤ n ∧ n ≤ 120) (f : Int → PR) (hf : gP n f) (hr : runsP T R J a n t L z w (d + 3) 119 o f) : runsP T R J a n t L z w (d + 4) 120 o (soQ t n f) := by
  intro i S h0 hi hx hc0 hc1
  obtain ⟨S1, hrun1, r1, r2⟩ := hr i S h0 hi hx hc0 hc1
  obtain ⟨g1, g2, g3⟩ := hf i h0 hi
  have hstep : rn_c (d + 4) 120 [.ref 193] (T, oI (pM J i 0 o S), L, R, z, w) = rn_r (d + 4) 120 4 [some (.ref 193)] [] (T, oI (pM J (f i).1 (bw (f i)) o S1), L, R, z, w) := by
    simp (disch := first | omega | exact hJ _ _ | exact rJ_g hJ _ _ | (simp (disch := omega) only [ur_r, ur_o, up_r, up_o]; omega) | assumption) only [c120, s120_0, s120_0v, s120_1, h.t193, hrun1, kl_i, kl_r, kl_l, kl_n, kl_z, bd_s, tl_s, tl_n, ap_c, ap_n, v_s, v_n, nd_1, nd_0, ct13, eq_self, iI_add, iI_sub, iI_mul, iI_nat, iI_eq, iI_lt, iI_le, iI_eq0, iI_lt0, ↓reduceIte, if_true, if_false, not_true_eq_false, not_false_eq_true, true_and, and_true, false_and, and_false, true_or, or_true, false_or, or_false, Int.reduceLT, Int.reduceLE, Int.reduceEq, Int.reduceAdd, Int.reduceSub, Int.reduceMul, Nat.reduceAdd, Nat.reduceLT, Nat.reduceEqDiff, Int.reduceNeg, nc_s, nc_0, Int.zero_add, Int.add_zero, oI_r, oI_w, oI_f0, oI_g0, oI_f1, oI_g1, oI_f2, oI_g2, oI_f3, oI_g3, oI_f4, oI_g4, oI_f5, oI_g5, oI_f6, oI_g6, oI_f7, oI_g7, oI_f8, oI_g8, oI_f9, oI_g9, oI_f10, oI_g10, oI_f11, oI_g11, oI_f12, oI_g12, oI_f13, oI_g13, oI_f14, oI_g14, oI_f15, oI_g15, oI_f16, oI_g16, oI_f17, oI_g17, oI_f18, oI_g18, oI_f19, oI_g19, oI_f20, oI_g20, oI_f21, oI_g21, oI_f22, oI_g22, oI_f23, oI_g23, oI_f24, oI_g24, oI_f25, oI_g25, ur_r, ur_o, ur_s, up_r, up_o, up_s, jI_add, jI_sub, jI_mul, jI_neg, jI_i, jI_n, lgc_j, cj_lt, cj_ge, cj_gt, cj_le, cj_eq, oL_r, oL_w, oL_f6, oL_g6, oL_f7, oL_g7, oL_f17, oL_g17, oL_f18, oL_g18, dl_T, dl_F, de_T, de_F, dle_T, dle_F, iI_divn, rem_n, nd_v, ct_s, Bool.false_eq_true]
  rw [hstep]
  unfold soQ
  generalize hq : f i = q at *
  obtain ⟨j, ots⟩ := q
  cases ots with
  | none =>
    refine ⟨S1, ?_, ⟨fun ts q => (by cases q), r2⟩⟩
    simp only [bnd_nn, bw_n]
    simp (disch := first | omega | exact hJ _ _ | exact rJ_g hJ _ _ | (simp (disch := omega) only [ur_r, ur_o, up_r, up_o]; omega) | assumption) only [s120_4, s120_4v, s120_5, b120_8, s120_43, h.t193, kl_i, kl_r, kl_l, kl_n, kl_z, bd_s, tl_s, tl_n, ap_c, ap_n, v_s, v_n, nd_1, nd_0, ct13, eq_self, iI_add, iI_sub, iI_mul, iI_nat, iI_eq, iI_lt, iI_le, iI_eq0, iI_lt0, ↓reduceIte, if_true, if_false, not_true_eq_false, not_false_eq_true, true_and, and_true, false_and, and_false, true_or, or_true, false_or, or_false, Int.reduceLT, Int.reduceLE, Int.reduceEq, Int.reduceAdd, Int.reduceSub, Int.reduceMul, Nat.reduceAdd, Nat.reduceLT, Nat.reduceEqDiff, Int.reduceNeg, nc_s, nc_0, Int.zero_add, Int.add_zero, oI_r, oI_w, oI_f0, oI_g0, oI_f1, oI_g1, oI_f2, oI_g2, oI_f3, oI_g3, oI_f4, oI_g4, oI_f5, oI_g5, oI_f6, oI_g6, oI_f7, oI_g7, oI_f8, oI_g8, oI_f9, oI_g9, oI_f10, oI_g10, oI_f11, oI_g11, oI_f12, oI_g12, oI_f13, oI_g13, oI_f14, oI_g14, oI_f15, oI_g15, oI_f16, oI_g16, oI_f17, oI_g17, oI_f18, oI_g18, oI_f19, oI_g19, oI_f20, oI_g20, oI_f21, oI_g21, oI_f22, oI_g22, oI_f23, oI_g23, oI_f24, oI_g24, oI_f25, oI_g25, ur_r, ur_o, ur_s, up_r, up_o, up_s, jI_add, jI_sub, jI_mul, jI_neg, jI_i, jI_n, lgc_j, cj_lt, cj_ge, cj_gt, cj_le, cj_eq, oL_r, oL_w, oL_f6, oL_g6, oL_f7, oL_g7, oL_f17, oL_g17, oL_f18, oL_g18, dl_T, dl_F, de_T, de_F, dle_T, dle_F, iI_divn, rem_n, nd_v, ct_s, Bool.false_eq_true]
  | some ts =>
    have hl := g3 ts rfl
    have e1 := r1 ts rfl
    have c1 := laT_c (a := a) ts S
    rw [← e1] at c1
    simp only [bw_s]
    simp only [] at hl g1 g2
    obtain ⟨S2, hrun2, q1, q2⟩ := so_loop h hp hn f hf hr 121 j S1 (by omega) (by omega) g2 (r2.tx hp.2.1 hn hx) (by omega)
    refine ⟨S2, ?_, ?_⟩
    · rw [bnd_some, bnd_bw]
      exact hrun2
    · refine ⟨fun us q => ?_, r2.tr q2⟩
      generalize hz : lpP t n 124 (-3) f 121 j = z at *
      obtain ⟨k, ovs⟩ := z
      cases ovs with
      | none => rw [bnd_sn hz] at q; cases q
      | some vs =>
        rw [bnd_ss hz] at q
        cases q
        rw [q1 vs rfl, e1, laT_a]
theorem n_some_w (h : rM T R) (hw : ∀ i S, rn_c (d + 3) 119 [.ref 193] (T, oI (pM J i 1 o S), L, R, z, w) = some (none, (T, oI (pM J i 1 o S), L, R, z, w))) (i : Int) (S : Int → Int) : rn_c (d + 4) 120 [.ref 193] (T, oI (pM J i 1 o S), L, R, z, w) = some (none, (T, oI (pM J i 1 o S), L, R, z, w)) := by
  simp (disch := first | omega | exact hJ _ _ | exact rJ_g hJ _ _ | (simp (disch := omega) only [ur_r, ur_o, up_r, up_o]; omega) | assumption) only [s120_0, s120_0v, s120_1, s120_4, s120_4v, s120_5, b120_8, c120, s120_43, h.t193, hw, kl_i, kl_r, kl_l, kl_n, kl_z, bd_s, tl_s, tl_n, ap_c, ap_n, v_s, v_n, nd_1, nd_0, ct13, eq_self, iI_add, iI_sub, iI_mul, iI_nat, iI_eq, iI_lt, iI_le, iI_eq0, iI_lt0, ↓reduceIte, if_true, if_false, not_true_eq_false, not_false_eq_true, true_and, and_true, false_and, and_false, true_or, or_true, false_or, or_false, Int.reduceLT, Int.reduceLE, Int.reduceEq, Int.reduceAdd, Int.reduceSub, Int.reduceMul, Nat.reduceAdd, Nat.reduceLT, Nat.reduceEqDiff, Int.reduceNeg, nc_s, nc_0, Int.zero_add, Int.add_zero, oI_r, oI_w, oI_f0, oI_g0, oI_f1, oI_g1, oI_f2, oI_g2, oI_f3, oI_g3, oI_f4, oI_g4, oI_f5, oI_g5, oI_f6, oI_g6, oI_f7, oI_g7, oI_f8, oI_g8, oI_f9, oI_g9, oI_f10, oI_g10, oI_f11, oI_g11, oI_f12, oI_g12, oI_f13, oI_g13, oI_f14, oI_g14, oI_f15, oI_g15, oI_f16, oI_g16, oI_f17, oI_g17, oI_f18, oI_g18, oI_f19, oI_g19, oI_f20, oI_g20, oI_f21, oI_g21, oI_f22, oI_g22, oI_f23, oI_g23, oI_f24, oI_g24, oI_f25, oI_g25, ur_r, ur_o, ur_s, up_r, up_o, up_s, jI_add, jI_sub, jI_mul, jI_neg, jI_i, jI_n, lgc_j, cj_lt, cj_ge, cj_gt, cj_le, cj_eq, oL_r, oL_w, oL_f6, oL_g6, oL_f7, oL_g7, oL_f17, oL_g17, oL_f18, oL_g18, dl_T, dl_F, de_T, de_F, dle_T, dle_F, iI_divn, rem_n, nd_v, ct_s, Bool.false_eq_true]
end PE
