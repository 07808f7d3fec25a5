/-! the reference's first state -/
def clK (r q : Nat) (c : mC) : mC := fun j k => if j = 21 ∧ 16 + 8 * r ≤ k ∧ k < 16 + 8 * r + q then 0 else c j k
theorem clK_0 (r : Nat) (c : mC) : clK r 0 c = c := by
  funext j k
  unfold clK
  rw [if_neg (by omega)]
theorem clK_s (r q : Nat) (c : mC) : mP (clK r q c) 21 (16 + 8 * r + q) 0 = clK r (q + 1) c := by
  funext j k
  unfold mP clK
  by_cases h : j = 21 ∧ k = 16 + 8 * r + q
  · rw [if_pos h, if_pos (by omega)]
  · rw [if_neg h]
    by_cases h2 : j = 21 ∧ 16 + 8 * r ≤ k ∧ k < 16 + 8 * r + q
    · rw [if_pos h2, if_pos (by omega)]
    · rw [if_neg h2, if_neg (by omega)]
theorem ring_n (r w : Nat) : P_X6_ring (nI r) + nI w = nI (16 + 8 * r + w) := by
  show (nI 16 + nI 8 * nI r) + nI w = _
  rw [show nI 8 * nI r = nI (8 * r) from (Int32.ofNat_mul 8 r).symm, nI_add, nI_add]
theorem putsR_n {m : mC} {r w : Nat} {v : Int32} (hr : r < 2) (hw : w < 8) : P_X6_putsRing m (nI r) (nI w) v = some (mP m 21 (16 + 8 * r + w) v) := by
  unfold P_X6_putsRing mBd
  dsimp only
  rw [ring_n, puts_n (by omega)]
  rfl
def clR (r : Nat) (c : mC) : mC := mP (mP (mP (clK r 8 c) 21 (16 + 8 * r + 0) (-1)) 21 (16 + 8 * r + 1) 3) 21 (16 + 8 * r + 3) (-1)
theorem clears_eq {r : Nat} (hr : r < 2) (c : mC) : P_X6_clearsRing c (nI r) = some (clR r c) := by
  have key : ∀ m q : Nat, q + m = 8 → mWh none (B_X6_clearsRing_2 (nI r)) (nI q, clK r q c) = some (clR r c) := by
    intro m
    induction m with
    | zero =>
      intro q hq
      have e : q = 8 := by omega
      subst e
      rw [mWh_eq tm_X6_clearsRing_2]
      have hB : B_X6_clearsRing_2 (nI r) (nI 8, clK r 8 c) = .inr (some (clR r c)) := by
        unfold B_X6_clearsRing_2
        dsimp only
        rw [if_pos (show (8 : Int32) ≤ nI 8 from Int32.le_refl _), show P_X6_putsRing (clK r 8 c) (nI r) 0 (-1) = some (mP (clK r 8 c) 21 (16 + 8 * r + 0) (-1)) from putsR_n (w := 0) hr (by decide)]
        show Sum.inr (mBo none (P_X6_putsRing _ (nI r) 1 3) _) = _
        rw [show P_X6_putsRing (mP (clK r 8 c) 21 (16 + 8 * r + 0) (-1)) (nI r) 1 3 = some (mP (mP (clK r 8 c) 21 (16 + 8 * r + 0) (-1)) 21 (16 + 8 * r + 1) 3) from putsR_n (w := 1) hr (by decide)]
        show Sum.inr (mBo none (P_X6_putsRing _ (nI r) 3 (-1)) _) = _
        rw [show P_X6_putsRing (mP (mP (clK r 8 c) 21 (16 + 8 * r + 0) (-1)) 21 (16 + 8 * r + 1) 3) (nI r) 3 (-1) = some (mP (mP (mP (clK r 8 c) 21 (16 + 8 * r + 0) (-1)) 21 (16 + 8 * r + 1) 3) 21 (16 + 8 * r + 3) (-1)) from putsR_n (w := 3) hr (by decide)]
        rfl
      rw [hB]
    | succ m ih =>
      intro q hq
      rw [mWh_eq tm_X6_clearsRing_2]
      have hB : B_X6_clearsRing_2 (nI r) (nI q, clK r q c) = .inl (nI (q + 1), clK r (q + 1) c) := by
        unfold B_X6_clearsRing_2
        dsimp only
        rw [if_neg (show ¬ (8 : Int32) ≤ nI q from nI_ge (a := q) (b := 8) (by omega) (by decide)), putsR_n hr (by omega)]
        show Sum.inl (nI q + 1, mP (clK r q c) 21 (16 + 8 * r + q) 0) = _
        rw [nI_1, clK_s]
      rw [hB]
      exact ih (q + 1) (by omega)
  have h := key 8 0 (by decide)
  rw [clK_0] at h
  exact h
theorem first_0 {c : mC} {x1 x2 x4 : Int32} (h : c 21 0 = 0) : P_X6_firstOf c x1 x2 (-1) x4 = some (-1) := by
  unfold P_X6_firstOf
  rw [mWh_eq tm_X6_firstOf_5]
  have e : B_X6_firstOf_5 c x1 x2 x4 (-1 + 1) = .inr (some (-1)) := by
    unfold B_X6_firstOf_5
    rw [show P_X6_of c 0 = some (c 21 0) from rfl, h]
    rfl
  rw [e]
def st0 (c : mC) : mC := mP (clR 1 (mP (clR 0 c) 21 19 (-1))) 21 27 (-1)
theorem starts_0 {c : mC} (h : c 21 0 = 0) : P_X6_starts c = some (st0 c) := by
  have l1 : ∀ c' : mC, c' 21 0 = 0 → mWh none (B_X6_starts_31 (-1)) (0, c') = some (st0 c') := by
    intro c' h'
    rw [mWh_eq tm_X6_starts_31]
    have e1 : B_X6_starts_31 (-1) (0, c') = .inl (1, mP (clR 0 c') 21 19 (-1)) := by
      unfold B_X6_starts_31
      dsimp only
      rw [if_neg (by decide), show P_X6_clearsRing c' 0 = some (clR 0 c') from clears_eq (r := 0) (by decide) c']
      show (if (-1 : Int32) = -1 then J_X6_starts_56 (clR 0 c') (-1) 0 0 3 0 1 else J_X6_starts_56 (clR 0 c') (-1) 0 0 3 0 0) = _
      rw [if_pos rfl]
      unfold J_X6_starts_56
      rw [first_0 (show clR 0 c' 21 0 = 0 from h')]
      rfl
    rw [e1]
    dsimp only
    rw [mWh_eq tm_X6_starts_31]
    have e2 : B_X6_starts_31 (-1) (1, mP (clR 0 c') 21 19 (-1)) = .inl (2, st0 c') := by
      unfold B_X6_starts_31
      dsimp only
      rw [if_neg (by decide), show P_X6_clearsRing (mP (clR 0 c') 21 19 (-1)) 1 = some (clR 1 (mP (clR 0 c') 21 19 (-1))) from clears_eq (r := 1) (by decide) _]
      show (if (-1 : Int32) = -1 then J_X6_starts_56 (clR 1 (mP (clR 0 c') 21 19 (-1))) (-1) 1 1 3 1 1 else J_X6_starts_56 (clR 1 (mP (clR 0 c') 21 19 (-1))) (-1) 1 1 3 1 0) = _
      rw [if_pos rfl]
      unfold J_X6_starts_56
      rw [first_0 (show clR 1 (mP (clR 0 c') 21 19 (-1)) 21 0 = 0 from h')]
      rfl
    rw [e2]
    dsimp only
    rw [mWh_eq tm_X6_starts_31]
    rfl
  unfold P_X6_starts
  rw [mWh_eq tm_X6_starts_4]
  have e1 : B_X6_starts_4 c (-1, 0) = .inl (-1, 1) := by
    unfold B_X6_starts_4
    dsimp only
    rw [if_neg (by decide), if_pos rfl, first_0 h]
    rfl
  rw [e1]
  dsimp only
  rw [mWh_eq tm_X6_starts_4]
  have e2 : B_X6_starts_4 c (-1, 1) = .inl (-1, 2) := by
    unfold B_X6_starts_4
    dsimp only
    rw [if_neg (by decide), if_pos rfl, first_0 h]
    rfl
  rw [e2]
  dsimp only
  rw [mWh_eq tm_X6_starts_4]
  have e3 : B_X6_starts_4 c (-1, 2) = .inr (J_X6_starts_29 c (-1)) := by
    unfold B_X6_starts_4
    dsimp only
    rw [if_pos (by decide)]
  rw [e3]
  exact l1 c h
def zM1 : mC := mP (zC g0M 288) 21 7 (-1)
def zM2 : mC := st0 zM1
theorem z_begins : P_X6_begins g0M = some zM1 := begins_eq g0M
theorem z_starts : P_X6_starts zM1 = some zM2 := starts_0 rfl
def g1 : mG := mU g0 7 zM2
