/-! sets of hours: the search that leaves out what is no better is as good -/
section SR
theorem wk13 {ts : List Int} {S U K : Int → Int} {p sky : Int} (hd : 0 ≤ dOf S p ∧ dOf S p < 4) : S 13 ≤ wkS ts S U K p sky 13 := by
  unfold wkS wtS
  repeat' split
  all_goals (try simp (disch := omega) only [up_o, up_r])
  all_goals omega
theorem hr13 {ts : List Int} {S : Int → Int} {sky c : Int} (hok : lkOk ts 0) (ho : oS S) (ht : tB c S) (hT : oT S) : S 13 ≤ hrS ts S sky 13 := by
  have hkn := ho.2.2.2.2
  have k1 : ∀ k : Nat, k ≤ 6 → S 13 ≤ (h1S ts sky k (q0 S)).1 13 := by
    intro k
    induction k with
    | zero => intro _; exact Int.le_refl _
    | succ k ih =>
      intro hk
      obtain ⟨a, b, e, f⟩ := h1_p (ts := ts) (sky := sky) hok (q0 S) ho ht hT k (by omega)
      have := ih (by omega)
      simp only [h1S]
      generalize h1S ts sky k (q0 S) = q1 at *
      unfold h1s
      split
      · exact Int.le_trans this (wk13 (a.dd (by omega)))
      · exact this
  obtain ⟨a, b, e, f⟩ := h1_p (ts := ts) (sky := sky) hok (q0 S) ho ht hT (S 15).toNat (by omega)
  have q1 := k1 (S 15).toNat (by omega)
  unfold hrS hrJ
  simp only [] at *
  generalize h1S ts sky (S 15).toNat (q0 S) = q2 at *
  have k2 : ∀ k : Nat, k ≤ 6 → (h2S q2.2.1 q2.2.2.2 k q2.1) 13 = q2.1 13 := by
    intro k
    induction k with
    | zero => intro _; rfl
    | succ k ih =>
      intro hk
      obtain ⟨a2, b2, e2, f2⟩ := h2_p (U := q2.2.1) (G := q2.2.2.2) a e k (by omega)
      have := ih (by omega)
      simp only [h2S]
      generalize h2S q2.2.1 q2.2.2.2 k q2.1 = S2 at *
      have oo := a2.oo (p := (k : Int)) (by omega)
      unfold h2s
      split
      · exact this
      · simp (disch := omega) only [up_o]; exact this
  simp (disch := omega) only [up_o]
  rw [k2 _ (by omega)]
  exact q1
theorem ndW_c (ts : List Int) (S : Int → Int) (s s' : Nat) : ∀ k : Nat, (∀ i, i < k → s / 2 ^ i % 2 = s' / 2 ^ i % 2) → ndW ts S s k = ndW ts S s' k := by
  intro k
  induction k with
  | zero => intro _; rfl
  | succ k ih =>
    intro h
    simp only [ndW]
    rw [ih (fun i hi => h i (by omega)), h k (by omega)]
/-- bits -/
theorem bq (x i : Nat) : x / 2 ^ i % 2 = (x.testBit i).toNat := (Nat.toNat_testBit x i).symm
theorem bq_mod (x k i : Nat) : (x % 2 ^ k) / 2 ^ i % 2 = if i < k then x / 2 ^ i % 2 else 0 := by
  rw [bq, bq, Nat.testBit_mod_two_pow]
  by_cases h : i < k
  · rw [if_pos h]; simp [h]
  · rw [if_neg h]; simp [h]
theorem bq_eq {x y k : Nat} (h : x % 2 ^ k = y % 2 ^ k) {i : Nat} (hi : i < k) : x / 2 ^ i % 2 = y / 2 ^ i % 2 := by
  have a := bq_mod x k i
  have b := bq_mod y k i
  rw [if_pos hi] at a b
  rw [← a, ← b, h]
theorem bq_add {s k i : Nat} (hs : s < 2 ^ k) : (s + 2 ^ k) / 2 ^ i % 2 = if i = k then 1 else s / 2 ^ i % 2 := by
  rw [Nat.add_comm, bq, bq]
  by_cases h : i = k
  · subst h
    rw [if_pos rfl, Nat.testBit_two_pow_add_eq, Nat.testBit_lt_two_pow hs]; rfl
  · rw [if_neg h]
    by_cases h2 : i < k
    · rw [Nat.testBit_two_pow_add_gt h2]
    · have h3 : k < i := by omega
      have p1 : 2 ^ (k + 1) ≤ 2 ^ i := Nat.pow_le_pow_right (by omega) (by omega)
      have p2 : 2 ^ (k + 1) = 2 ^ k + 2 ^ k := by rw [Nat.pow_succ]; omega
      rw [Nat.testBit_lt_two_pow (by omega), Nat.testBit_lt_two_pow (by omega)]
theorem popN_bt (x : Nat) : popN x = x / 2 ^ 0 % 2 + x / 2 ^ 1 % 2 + x / 2 ^ 2 % 2 + x / 2 ^ 3 % 2 + x / 2 ^ 4 % 2 + x / 2 ^ 5 % 2 + x / 2 ^ 6 % 2 + x / 2 ^ 7 % 2 + x / 2 ^ 8 % 2 + x / 2 ^ 9 % 2 + x / 2 ^ 10 % 2 + x / 2 ^ 11 % 2 := by
  unfold popN
  rw [Nat.pow_zero, Nat.div_one]
theorem popN_le {x y : Nat} (h : ∀ i, i < 12 → x / 2 ^ i % 2 ≤ y / 2 ^ i % 2) : popN x ≤ popN y := by
  rw [popN_bt, popN_bt]
  have h0 := h 0 (by omega)
  have h1 := h 1 (by omega)
  have h2 := h 2 (by omega)
  have h3 := h 3 (by omega)
  have h4 := h 4 (by omega)
  have h5 := h 5 (by omega)
  have h6 := h 6 (by omega)
  have h7 := h 7 (by omega)
  have h8 := h 8 (by omega)
  have h9 := h 9 (by omega)
  have h10 := h 10 (by omega)
  have h11 := h 11 (by omega)
  generalize x / 2 ^ 0 % 2 = a0, y / 2 ^ 0 % 2 = b0, x / 2 ^ 1 % 2 = a1, y / 2 ^ 1 % 2 = b1, x / 2 ^ 2 % 2 = a2, y / 2 ^ 2 % 2 = b2, x / 2 ^ 3 % 2 = a3, y / 2 ^ 3 % 2 = b3, x / 2 ^ 4 % 2 = a4, y / 2 ^ 4 % 2 = b4, x / 2 ^ 5 % 2 = a5, y / 2 ^ 5 % 2 = b5, x / 2 ^ 6 % 2 = a6, y / 2 ^ 6 % 2 = b6, x / 2 ^ 7 % 2 = a7, y / 2 ^ 7 % 2 = b7, x / 2 ^ 8 % 2 = a8, y / 2 ^ 8 % 2 = b8, x / 2 ^ 9 % 2 = a9, y / 2 ^ 9 % 2 = b9, x / 2 ^ 10 % 2 = a10, y / 2 ^ 10 % 2 = b10, x / 2 ^ 11 % 2 = a11, y / 2 ^ 11 % 2 = b11 at *
  omega
theorem popN_12 (x : Nat) : popN x ≤ 12 := by unfold popN; omega
/-- how good a set is -/
def kyN (b : Int) : Int := if b = -5 then 100000 else (popN b.toNat : Int) * 4096 + b
/-- the search -/
def skF (ts : List Int) (S : Int → Int) (n : Nat) : Nat → Nat → Int → Int
  | 0, s, b => if b = -5 then s else if popN b.toNat < popN s then b else if popN s < popN b.toNat then s else if (s : Int) < b then s else b
  | m + 1, s, b => if ¬ b = -5 ∧ popN b.toNat < popN s then b else
      if 0 < caN (ndW ts S s (n - (m + 1))) (tlS S 230 2) ∧ ndW ts S (s + 2 ^ (n - (m + 1))) (n - m) 13 = 0 then skF ts S n m (s + 2 ^ (n - (m + 1))) (if ndW ts S s (n - m) 13 = 0 then skF ts S n m s b else b)
      else if ndW ts S s (n - m) 13 = 0 then skF ts S n m s b else b
theorem ndW13 {ts : List Int} {S : Int → Int} (ho : oR ts S) (s n : Nat) (hn : n ≤ 20) (hr : ∀ k : Nat, k < n → 0 ≤ S (180 + k) ∧ S (180 + k) ≤ 1) : ∀ k : Nat, k ≤ n → 0 ≤ ndW ts S s k 13 ∧ ndW ts S s k 13 ≤ ndW ts S s n 13 := by
  induction n with
  | zero =>
    intro k hk
    obtain rfl : k = 0 := by omega
    obtain ⟨a, b, c, e⟩ := ndW_p ho s 0 (by omega) hr
    exact ⟨c.2.1.1, Int.le_refl _⟩
  | succ n ih =>
    intro k hk
    obtain ⟨a, b, c, e⟩ := ndW_p ho s k (by omega) (fun i hi => hr i (by omega))
    refine ⟨c.2.1.1, ?_⟩
    by_cases ek : k = n + 1
    · subst ek; exact Int.le_refl _
    refine Int.le_trans (ih (by omega) (fun i hi => hr i (by omega)) k (by omega)).2 ?_
    obtain ⟨a, b, c, e⟩ := ndW_p ho s n (by omega) (fun i hi => hr i (by omega))
    have o3 := ho.2.2.1
    have o4 := ho.2.2.2.1
    simp only [ndW]
    by_cases q : s / 2 ^ n % 2 = 1
    · rw [if_pos q]
      obtain ⟨c1, c2, c3, c4, c5⟩ := caS_p (load := tlS S 230 2) a o4.2.2.2.1
      have := hr13 (ts := ts) (sky := S (180 + n)) (c := 606 * n) o3 c1 (by unfold tB at c ⊢; rw [c3 _ (by omega), c3 _ (by omega), c3 _ (by omega)]; exact c) (c2.oT (b.oT o4))
      rw [c3 13 (by omega)] at this
      exact this
    · rw [if_neg q]
      exact hr13 (ts := ts) (sky := S (180 + n)) (c := 606 * n) o3 a c (b.oT o4)
theorem kyN_n (x : Nat) : kyN (x : Int) = (popN x : Int) * 4096 + x := by
  unfold kyN; rw [if_neg (by omega), Int.toNat_natCast]
theorem md_s {x s k : Nat} (h : x % 2 ^ k = s) : x % 2 ^ (k + 1) = s ∨ x % 2 ^ (k + 1) = s + 2 ^ k := by
  rw [Nat.mod_pow_succ, h]
  have : x / 2 ^ k % 2 = 0 ∨ x / 2 ^ k % 2 = 1 := by omega
  rcases this with e | e <;> rw [e]
  · left; omega
  · right; omega
theorem pw_s (k : Nat) : 2 ^ (k + 1) = 2 ^ k + 2 ^ k := by rw [Nat.pow_succ]; omega
/-- a cart that moves nothing can be left out -/
theorem ndW_d {ts : List Int} {S : Int → Int} (ho : oR ts S) {x s k n : Nat} (hn : n ≤ 12) (hr : ∀ k : Nat, k < n → 0 ≤ S (180 + k) ∧ S (180 + k) ≤ 1) (hk : k < n) (hs : s < 2 ^ k) (hx : x % 2 ^ (k + 1) = s + 2 ^ k) (hc : ¬ 0 < caN (ndW ts S s k) (tlS S 230 2)) : ∃ y, y ≤ x ∧ y % 2 ^ (k + 1) = s ∧ popN y ≤ popN x ∧ ∀ j, k < j → j ≤ n → ndW ts S y j = ndW ts S x j := by
  have p := pw_s k
  have hd : x = x / 2 ^ (k + 1) * 2 ^ (k + 1) + (s + 2 ^ k) := by
    have := Nat.div_add_mod x (2 ^ (k + 1))
    rw [hx, Nat.mul_comm] at this
    omega
  obtain ⟨q, hq⟩ : ∃ q, q = x / 2 ^ (k + 1) := ⟨_, rfl⟩
  rw [← hq] at hd
  have hy : (q * 2 ^ (k + 1) + s) % 2 ^ (k + 1) = s := by
    rw [Nat.mul_comm, Nat.mul_add_mod, Nat.mod_eq_of_lt (by omega)]
  have hyd : (q * 2 ^ (k + 1) + s) / 2 ^ (k + 1) = q := by
    rw [Nat.mul_comm, Nat.mul_add_div (by omega), Nat.div_eq_of_lt (by omega), Nat.add_zero]
  have hi : ∀ i, k < i → (q * 2 ^ (k + 1) + s) / 2 ^ i % 2 = x / 2 ^ i % 2 := by
    intro i hi
    have e : 2 ^ i = 2 ^ (k + 1) * 2 ^ (i - (k + 1)) := by rw [← Nat.pow_add]; congr 1; omega
    rw [e, ← Nat.div_div_eq_div_mul, ← Nat.div_div_eq_div_mul, hyd, hq]
  have lo : ∀ i, i < k → (q * 2 ^ (k + 1) + s) / 2 ^ i % 2 = s / 2 ^ i % 2 := by
    intro i hi
    have a := bq_mod (q * 2 ^ (k + 1) + s) (k + 1) i
    rw [hy, if_pos (by omega)] at a
    exact a.symm
  have lx : ∀ i, i < k + 1 → x / 2 ^ i % 2 = (s + 2 ^ k) / 2 ^ i % 2 := by
    intro i hi
    have a := bq_mod x (k + 1) i
    rw [hx, if_pos hi] at a
    exact a.symm
  have mk : (q * 2 ^ (k + 1) + s) / 2 ^ k % 2 = 0 := by
    have a := bq_mod (q * 2 ^ (k + 1) + s) (k + 1) k
    rw [hy, if_pos (by omega)] at a
    rw [← a, Nat.div_eq_of_lt hs]
  have xk : x / 2 ^ k % 2 = 1 := by rw [lx k (by omega), bq_add hs, if_pos rfl]
  have xl : ∀ i, i < k → x / 2 ^ i % 2 = s / 2 ^ i % 2 := by
    intro i hi
    rw [lx i (by omega), bq_add hs, if_neg (by omega)]
  refine ⟨q * 2 ^ (k + 1) + s, by omega, hy, popN_le fun i _ => ?_, ?_⟩
  · by_cases h1 : i < k
    · rw [lo i h1, xl i h1]; exact Nat.le_refl _
    · by_cases h2 : i = k
      · subst h2; rw [mk]; exact Nat.zero_le _
      · rw [hi i (by omega)]; exact Nat.le_refl _
  · have e0 : ndW ts S (q * 2 ^ (k + 1) + s) k = ndW ts S s k := ndW_c ts S _ _ k lo
    have ex : ndW ts S x k = ndW ts S s k := ndW_c ts S _ _ k xl
    obtain ⟨a, b, c, e⟩ := ndW_p ho s k (by omega) (fun i hi => hr i (by omega))
    obtain ⟨c1, c2, c3, c4, c5⟩ := caS_p (load := tlS S 230 2) a ho.2.2.2.1.2.2.2.1
    have ec := c5 (by omega)
    intro j
    induction j with
    | zero => intro h; omega
    | succ j ih =>
      intro h1 h2
      by_cases h3 : j = k
      · subst h3
        simp only [ndW]
        rw [if_neg (by omega), if_pos xk, e0, ex, ec]
      · simp only [ndW]
        rw [ih (by omega) (by omega), hi j (by omega)]
theorem sk_ok {ts : List Int} {S : Int → Int} (ho : oR ts S) {n : Nat} (hn : n ≤ 12) (hr : ∀ k : Nat, k < n → 0 ≤ S (180 + k) ∧ S (180 + k) ≤ 1) : ∀ (m k s : Nat) (b : Int), k + m = n → s < 2 ^ k → (b = -5 ∨ 0 ≤ b ∧ b < 4096) → ndW ts S s k 13 = 0 → (skF ts S n m s b = b ∨ ∃ x : Nat, skF ts S n m s b = x ∧ x < 2 ^ n ∧ ndW ts S x n 13 = 0) ∧ kyN (skF ts S n m s b) ≤ kyN b ∧ (∀ x, x < 2 ^ n → ndW ts S x n 13 = 0 → x % 2 ^ k = s → kyN (skF ts S n m s b) ≤ kyN x) := by
  have h12 : 2 ^ n ≤ 2 ^ 12 := Nat.pow_le_pow_right (by omega) hn
  intro m
  induction m with
  | zero =>
    intro k s b hk hs hb hd
    obtain rfl : k = n := by omega
    simp only [skF]
    have ks := kyN_n s
    have ps := popN_12 s
    have pb := popN_12 b.toNat
    have hxs : ∀ x, x < 2 ^ k → x % 2 ^ k = s → x = s := fun x h1 h2 => by rw [Nat.mod_eq_of_lt h1] at h2; exact h2
    by_cases c5 : b = -5
    · rw [if_pos c5]
      refine ⟨Or.inr ⟨s, rfl, hs, hd⟩, ?_, fun x h1 _ h3 => ?_⟩
      · rw [ks, c5]; unfold kyN; rw [if_pos rfl]; omega
      · rw [hxs x h1 h3]; exact Int.le_refl _
    · have kb : kyN b = (popN b.toNat : Int) * 4096 + b := by unfold kyN; rw [if_neg c5]
      rw [if_neg c5]
      by_cases c1 : popN b.toNat < popN s
      · rw [if_pos c1]
        refine ⟨Or.inl rfl, Int.le_refl _, fun x h1 _ h3 => ?_⟩
        rw [hxs x h1 h3]; omega
      · rw [if_neg c1]
        by_cases c2 : popN s < popN b.toNat
        · rw [if_pos c2]
          refine ⟨Or.inr ⟨s, rfl, hs, hd⟩, by omega, fun x h1 _ h3 => ?_⟩
          rw [hxs x h1 h3]; exact Int.le_refl _
        · rw [if_neg c2]
          by_cases c3 : (s : Int) < b
          · rw [if_pos c3]
            refine ⟨Or.inr ⟨s, rfl, hs, hd⟩, by omega, fun x h1 _ h3 => ?_⟩
            rw [hxs x h1 h3]; exact Int.le_refl _
          · rw [if_neg c3]
            refine ⟨Or.inl rfl, Int.le_refl _, fun x h1 _ h3 => ?_⟩
            rw [hxs x h1 h3]; omega
  | succ m ih =>
    intro k s b hk hs hb hd
    have ek : n - (m + 1) = k := by omega
    have ek1 : n - m = k + 1 := by omega
    simp only [skF]
    rw [ek, ek1]
    have p := pw_s k
    by_cases c1 : ¬ b = -5 ∧ popN b.toNat < popN s
    · rw [if_pos c1]
      refine ⟨Or.inl rfl, Int.le_refl _, fun x h1 _ h3 => ?_⟩
      have kx := kyN_n x
      have kb : kyN b = (popN b.toNat : Int) * 4096 + b := by unfold kyN; rw [if_neg c1.1]
      have : popN s ≤ popN x := popN_le fun i _ => by
        rw [← h3, bq_mod]
        split
        · exact Nat.le_refl _
        · exact Nat.zero_le _
      omega
    · rw [if_neg c1]
      obtain ⟨r1, hr1⟩ : ∃ r1, r1 = if ndW ts S s (k + 1) 13 = 0 then skF ts S n m s b else b := ⟨_, rfl⟩
      rw [← hr1]
      have no : ∀ (s' x : Nat), s' < 2 ^ (k + 1) → ndW ts S x n 13 = 0 → x % 2 ^ (k + 1) = s' → ndW ts S s' (k + 1) 13 = 0 := by
        intro s' x hs' h2 h3
        have e := ndW_c ts S s' x (k + 1) (fun i hi => bq_eq (by rw [h3, Nat.mod_eq_of_lt hs']) hi)
        have := ndW13 ho x n (by omega) hr (k + 1) (by omega)
        rw [e]; omega
      have P1 : (r1 = b ∨ ∃ x : Nat, r1 = x ∧ x < 2 ^ n ∧ ndW ts S x n 13 = 0) ∧ kyN r1 ≤ kyN b ∧ (∀ x, x < 2 ^ n → ndW ts S x n 13 = 0 → x % 2 ^ (k + 1) = s → kyN r1 ≤ kyN x) := by
        by_cases c2 : ndW ts S s (k + 1) 13 = 0
        · rw [if_pos c2] at hr1
          rw [hr1]
          exact ih (k + 1) s b (by omega) (by omega) hb c2
        · rw [if_neg c2] at hr1
          rw [hr1]
          exact ⟨Or.inl rfl, Int.le_refl _, fun x h1 h2 h3 => absurd (no s x (by omega) h2 h3) c2⟩
      obtain ⟨A1, B1, C1⟩ := P1
      have hb1 : r1 = -5 ∨ 0 ≤ r1 ∧ r1 < 4096 := by
        rcases A1 with e | ⟨x, e, h1, _⟩
        · rw [e]; exact hb
        · right; omega
      have cc : ∀ r2 : Int, kyN r2 ≤ kyN r1 → (∀ x, x < 2 ^ n → ndW ts S x n 13 = 0 → x % 2 ^ (k + 1) = s + 2 ^ k → kyN r2 ≤ kyN x) → kyN r2 ≤ kyN b ∧ (∀ x, x < 2 ^ n → ndW ts S x n 13 = 0 → x % 2 ^ k = s → kyN r2 ≤ kyN x) := by
        intro r2 g1 g2
        refine ⟨Int.le_trans g1 B1, fun x h1 h2 h3 => ?_⟩
        rcases md_s h3 with e | e
        · exact Int.le_trans g1 (C1 x h1 h2 e)
        · exact g2 x h1 h2 e
      by_cases c3 : 0 < caN (ndW ts S s k) (tlS S 230 2)
      · by_cases c4 : ndW ts S (s + 2 ^ k) (k + 1) 13 = 0
        · rw [if_pos ⟨c3, c4⟩]
          obtain ⟨A2, B2, C2⟩ := ih (k + 1) (s + 2 ^ k) r1 (by omega) (by omega) hb1 c4
          refine ⟨?_, cc _ B2 C2⟩
          rcases A2 with e | e
          · rw [e]; exact A1
          · exact Or.inr e
        · rw [if_neg (fun q => c4 q.2)]
          exact ⟨A1, cc _ (Int.le_refl _) (fun x h1 h2 h3 => absurd (no _ x (by omega) h2 h3) c4)⟩
      · rw [if_neg (fun q => c3 q.1)]
        refine ⟨A1, cc _ (Int.le_refl _) (fun x h1 h2 h3 => ?_)⟩
        obtain ⟨y, y1, y2, y3, y4⟩ := ndW_d ho hn hr (by omega) hs h3 c3
        have := C1 y (by omega) (by rw [y4 n (by omega) (Nat.le_refl _)]; exact h2) y2
        have ky := kyN_n y
        have kx := kyN_n x
        omega
theorem ne_ok {ts : List Int} {S : Int → Int} {n : Nat} (hn : n ≤ 12) : ∀ (m s : Nat) (b : Int), s + m = 2 ^ n → (b = -5 ∨ 0 ≤ b ∧ b < s) → (neF ts S n m s b = b ∨ ∃ x : Nat, neF ts S n m s b = x ∧ x < 2 ^ n ∧ ndW ts S x n 13 = 0) ∧ kyN (neF ts S n m s b) ≤ kyN b ∧ (∀ x, s ≤ x → x < 2 ^ n → ndW ts S x n 13 = 0 → kyN (neF ts S n m s b) ≤ kyN x) := by
  have h12 : 2 ^ n ≤ 2 ^ 12 := Nat.pow_le_pow_right (by omega) hn
  intro m
  induction m with
  | zero =>
    intro s b hs hb
    exact ⟨Or.inl rfl, Int.le_refl _, fun x h1 h2 => by omega⟩
  | succ m ih =>
    intro s b hs hb
    have ks := kyN_n s
    have ps := popN_12 s
    have go : ∀ b' : Int, (b' = b ∨ b' = s ∧ ndW ts S s n 13 = 0) → kyN b' ≤ kyN b → (ndW ts S s n 13 = 0 → kyN b' ≤ kyN s) → (neF ts S n m (s + 1) b' = b ∨ ∃ x : Nat, neF ts S n m (s + 1) b' = x ∧ x < 2 ^ n ∧ ndW ts S x n 13 = 0) ∧ kyN (neF ts S n m (s + 1) b') ≤ kyN b ∧ (∀ x, s ≤ x → x < 2 ^ n → ndW ts S x n 13 = 0 → kyN (neF ts S n m (s + 1) b') ≤ kyN x) := by
      intro b' h1 h2 h3
      obtain ⟨A, B, C⟩ := ih (s + 1) b' (by omega) (by omega)
      refine ⟨?_, Int.le_trans B h2, fun x x1 x2 x3 => ?_⟩
      · rcases A with e | e
        · rw [e]
          rcases h1 with h1 | ⟨h1, h4⟩
          · exact Or.inl h1
          · exact Or.inr ⟨s, h1, by omega, h4⟩
        · exact Or.inr e
      · by_cases e : x = s
        · subst e; exact Int.le_trans B (h3 x3)
        · exact C x (by omega) x2 x3
    simp only [neF]
    by_cases c5 : b = -5
    · rw [if_pos c5]
      by_cases c : ndW ts S s n 13 = 0
      · rw [if_pos c]
        refine go s (Or.inr ⟨rfl, c⟩) ?_ (fun _ => Int.le_refl _)
        rw [ks, c5]; unfold kyN; rw [if_pos rfl]; omega
      · rw [if_neg c]
        exact go b (Or.inl rfl) (Int.le_refl _) (fun q => absurd q c)
    · have kb : kyN b = (popN b.toNat : Int) * 4096 + b := by unfold kyN; rw [if_neg c5]
      rw [if_neg c5]
      by_cases c1 : popN s < popN b.toNat
      · rw [if_pos c1]
        by_cases c : ndW ts S s n 13 = 0
        · rw [if_pos c]
          exact go s (Or.inr ⟨rfl, c⟩) (by omega) (fun _ => Int.le_refl _)
        · rw [if_neg c]
          exact go b (Or.inl rfl) (Int.le_refl _) (fun q => absurd q c)
      · rw [if_neg c1]
        exact go b (Or.inl rfl) (Int.le_refl _) (fun _ => by omega)
/-- the two searches agree -/
theorem sk_ne {ts : List Int} {S : Int → Int} (ho : oR ts S) {n : Nat} (hn : n ≤ 12) (hr : ∀ k : Nat, k < n → 0 ≤ S (180 + k) ∧ S (180 + k) ≤ 1) : skF ts S n n 0 (-5) = neF ts S n (2 ^ n) 0 (-5) := by
  have h12 : 2 ^ n ≤ 2 ^ 12 := Nat.pow_le_pow_right (by omega) hn
  have h0 : ndW ts S 0 0 13 = 0 := by
    have := ho.2.2.2.2.1.2.1
    simp only [ndW]; omega
  obtain ⟨A1, B1, C1⟩ := sk_ok ho hn hr n 0 0 (-5) (by omega) (by omega) (Or.inl rfl) h0
  obtain ⟨A2, B2, C2⟩ := ne_ok (ts := ts) (S := S) hn (2 ^ n) 0 (-5) (by omega) (Or.inl rfl)
  generalize skF ts S n n 0 (-5) = r1 at *
  generalize neF ts S n (2 ^ n) 0 (-5) = r2 at *
  have k5 : kyN (-5) = 100000 := by unfold kyN; rw [if_pos rfl]
  rcases A1 with e1 | ⟨x, e1, x1, x2⟩
  · rcases A2 with e2 | ⟨y, e2, y1, y2⟩
    · rw [e1, e2]
    · have := C1 y y1 y2 (by rw [Nat.pow_zero, Nat.mod_one])
      have ky := kyN_n y
      have py := popN_12 y
      rw [e1, k5] at this
      omega
  · have kx := kyN_n x
    have px := popN_12 x
    rcases A2 with e2 | ⟨y, e2, y1, y2⟩
    · have := C2 x (by omega) x1 x2
      rw [e2, k5] at this
      omega
    · have ky := kyN_n y
      have py := popN_12 y
      have t1 := C1 y y1 y2 (by rw [Nat.pow_zero, Nat.mod_one])
      have t2 := C2 x (by omega) x1 x2
      rw [e1] at t1 ⊢
      rw [e2] at t2 ⊢
      omega
end SR
