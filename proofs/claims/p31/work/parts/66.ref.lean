/-! the reference's rows as wholes: copies, begins, four -/
def cpC (c : mC) (a b q : Nat) : mC := fun j k => if j = 21 ∧ b ≤ k ∧ k < b + q then c 21 (a + (k - b)) else c j k
theorem cpC_0 (c : mC) (a b : Nat) : cpC c a b 0 = c := by
  funext j k
  unfold cpC
  rw [if_neg (by omega)]
theorem cpC_s (c : mC) (a b q : Nat) (hd : a + 288 ≤ b ∨ b + 288 ≤ a) (hq : q < 288) : mP (cpC c a b q) 21 (b + q) (cpC c a b q 21 (a + q)) = cpC c a b (q + 1) := by
  funext j k
  unfold mP cpC
  by_cases h : j = 21 ∧ k = b + q
  · obtain ⟨rfl, rfl⟩ := h
    rw [if_pos ⟨rfl, rfl⟩, if_neg (by omega), if_pos (by omega), show b + q - b = q by omega]
  · rw [if_neg h]
    by_cases h2 : j = 21 ∧ b ≤ k ∧ k < b + q
    · rw [if_pos h2, if_pos (by omega)]
    · rw [if_neg h2, if_neg (by omega)]
theorem copies_eq (c : mC) {a b : Nat} (ha : a + 288 ≤ 1440) (hb : b + 288 ≤ 1440) (hd : a + 288 ≤ b ∨ b + 288 ≤ a) : P_X6_copies c (nI a) (nI b) = some (cpC c a b 288) := by
  have key : ∀ m q : Nat, q + m = 288 → mWh none (B_X6_copies_2 (nI a) (nI b)) (nI q, cpC c a b q) = some (cpC c a b 288) := by
    intro m
    induction m with
    | zero =>
      intro q hq
      have e : q = 288 := by omega
      subst e
      rw [mWh_eq tm_X6_copies_2]
      have hB : B_X6_copies_2 (nI a) (nI b) (nI 288, cpC c a b 288) = .inr (some (cpC c a b 288)) := by
        unfold B_X6_copies_2
        dsimp only
        rw [if_pos (show (288 : Int32) ≤ nI 288 from Int32.le_refl _)]
      rw [hB]
    | succ m ih =>
      intro q hq
      rw [mWh_eq tm_X6_copies_2]
      have hB : B_X6_copies_2 (nI a) (nI b) (nI q, cpC c a b q) = .inl (nI (q + 1), cpC c a b (q + 1)) := by
        unfold B_X6_copies_2
        dsimp only
        rw [if_neg (show ¬ (288 : Int32) ≤ nI q from nI_ge (a := q) (b := 288) (by omega) (by decide)), nI_add, nI_add, if_neg (nI_in (by omega) (by decide)), if_neg (nI_in (by omega) (by decide)), nI_clamp (by omega), nI_clamp (by omega), cpC_s c a b q hd (by omega), nI_1]
      rw [hB]
      exact ih (q + 1) (by omega)
  have h := key 288 0 (by decide)
  rw [cpC_0] at h
  exact h
def zC (c : mC) (q : Nat) : mC := fun j k => if j = 21 ∧ k < q then 0 else c j k
theorem zC_0 (c : mC) : zC c 0 = c := by
  funext j k
  unfold zC
  rw [if_neg (by omega)]
theorem zC_s (c : mC) (q : Nat) : mP (zC c q) 21 q 0 = zC c (q + 1) := by
  funext j k
  unfold mP zC
  by_cases h : j = 21 ∧ k = q
  · rw [if_pos h, if_pos (by omega)]
  · rw [if_neg h]
    by_cases h2 : j = 21 ∧ k < q
    · rw [if_pos h2, if_pos (by omega)]
    · rw [if_neg h2, if_neg (by omega)]
theorem puts_n {m : mC} {k : Nat} {v : Int32} (h : k < 1440) : P_X6_puts m (nI k) v = some (mP m 21 k v) := by
  unfold P_X6_puts
  rw [if_neg (nI_in h (by decide)), nI_clamp (by omega)]
theorem begins_eq (c : mC) : P_X6_begins c = some (mP (zC c 288) 21 7 (-1)) := by
  have key : ∀ m q : Nat, q + m = 288 → mWh none B_X6_begins_2 (nI q, zC c q) = some (mP (zC c 288) 21 7 (-1)) := by
    intro m
    induction m with
    | zero =>
      intro q hq
      have e : q = 288 := by omega
      subst e
      rw [mWh_eq tm_X6_begins_2]
      have hB : B_X6_begins_2 (nI 288, zC c 288) = .inr (some (mP (zC c 288) 21 7 (-1))) := by
        unfold B_X6_begins_2
        dsimp only
        rw [if_pos (show (288 : Int32) ≤ nI 288 from Int32.le_refl _)]
        rfl
      rw [hB]
    | succ m ih =>
      intro q hq
      rw [mWh_eq tm_X6_begins_2]
      have hB : B_X6_begins_2 (nI q, zC c q) = .inl (nI (q + 1), zC c (q + 1)) := by
        unfold B_X6_begins_2
        dsimp only
        rw [if_neg (show ¬ (288 : Int32) ≤ nI q from nI_ge (a := q) (b := 288) (by omega) (by decide)), puts_n (by omega)]
        show Sum.inl (nI q + 1, mP (zC c q) 21 q 0) = _
        rw [nI_1, zC_s]
      rw [hB]
      exact ih (q + 1) (by omega)
  have h := key 288 0 (by decide)
  rw [zC_0] at h
  exact h
/-- one byte of the reference's tape -/
def fr1B (x : Int32) (s : Int32) (c : mC) : mC := mP (mP c 22 (c 20 8).toNatClampNeg ((x >>> (((8 : Int32) * s) &&& 31)).toInt8.toInt32).toInt8.toInt32) 20 8 (c 20 8 + 1)
theorem four_step {x s : Int32} {c : mC} {t : Nat} (ht : c 20 8 = nI t) (h : t < 700) (hs : ¬ s < 0) : B_X6_four_2 x (s, c) = .inl (s + (-1), fr1B x s c) := by
  unfold B_X6_four_2
  dsimp only
  rw [if_neg hs, if_neg (by rw [ht]; exact nI_in h (by decide))]
  rfl
theorem fr1B_t {x s : Int32} {c : mC} {t : Nat} (ht : c 20 8 = nI t) : fr1B x s c 20 8 = nI (t + 1) := by
  show c 20 8 + 1 = _
  rw [ht, nI_1]
def fr4 (x : Int32) (c : mC) : mC := fr1B x 0 (fr1B x 1 (fr1B x 2 (fr1B x 3 c)))
theorem four_eq {x : Int32} {c : mC} {t : Nat} (ht : c 20 8 = nI t) (h : t + 4 ≤ 700) : P_X6_four c x = some (fr4 x c) := by
  have t1 := fr1B_t (x := x) (s := 3) ht
  have t2 := fr1B_t (x := x) (s := 2) t1
  have t3 := fr1B_t (x := x) (s := 1) t2
  unfold P_X6_four
  rw [mWh_eq tm_X6_four_2, four_step ht (by omega) (by decide)]
  dsimp only
  rw [mWh_eq tm_X6_four_2, show (3 : Int32) + (-1) = 2 by decide, four_step t1 (by omega) (by decide)]
  dsimp only
  rw [mWh_eq tm_X6_four_2, show (2 : Int32) + (-1) = 1 by decide, four_step t2 (by omega) (by decide)]
  dsimp only
  rw [mWh_eq tm_X6_four_2, show (1 : Int32) + (-1) = 0 by decide, four_step t3 (by omega) (by decide)]
  dsimp only
  rw [mWh_eq tm_X6_four_2, show (0 : Int32) + (-1) = -1 by decide]
  rfl
theorem fr4_t {x : Int32} {c : mC} {t : Nat} (ht : c 20 8 = nI t) : fr4 x c 20 8 = nI (t + 4) := fr1B_t (fr1B_t (fr1B_t (fr1B_t ht)))
/-- the reference's feed -/
def fd5 (c : mC) (x1 x2 x3 x4 x5 : Int32) : mC := fr4 x5 (fr4 x4 (fr4 x3 (fr4 x2 (fr4 x1 c))))
theorem feed_eq {c : mC} {t : Nat} {x1 x2 x3 x4 x5 : Int32} (ht : c 20 8 = nI t) (h : t ≤ 700) : P_X6_feed c x1 x2 x3 x4 x5 = if t ≤ 680 then some (nI (t + 20), fd5 c x1 x2 x3 x4 x5) else some (-1, c) := by
  unfold P_X6_feed
  by_cases h6 : t ≤ 680
  · have t1 := fr4_t (x := x1) ht
    have t2 := fr4_t (x := x2) t1
    have t3 := fr4_t (x := x3) t2
    have t4 := fr4_t (x := x4) t3
    have t5 := fr4_t (x := x5) t4
    rw [if_pos (by rw [ht]; exact (nI_leI (a := t) (b := 680) (by omega) (by decide)).mpr h6), if_pos h6, four_eq ht (by omega)]
    show mBo none (P_X6_four (fr4 x1 c) x2) _ = _
    rw [four_eq t1 (by omega)]
    show mBo none (P_X6_four (fr4 x2 (fr4 x1 c)) x3) _ = _
    rw [four_eq t2 (by omega)]
    show mBo none (P_X6_four (fr4 x3 (fr4 x2 (fr4 x1 c))) x4) _ = _
    rw [four_eq t3 (by omega)]
    show mBo none (P_X6_four (fr4 x4 (fr4 x3 (fr4 x2 (fr4 x1 c)))) x5) _ = _
    rw [four_eq t4 (by omega)]
    show some (_, _) = _
    rw [t5]
    rfl
  · rw [if_neg (by rw [ht]; exact fun z => h6 ((nI_leI (a := t) (b := 680) (by omega) (by decide)).mp z)), if_neg h6]
