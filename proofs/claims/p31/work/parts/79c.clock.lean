/-! The clocks alike -/
theorem nI_int {a : Nat} (h : a < 2 ^ 31) : (nI a).toInt = (a : Int) := Int32.toInt_ofNat_of_lt h
theorem xor_s {x : Int32} {m : Nat} (h : m < 2 ^ 31) : (0 ≤ (x ^^^ nI m)) ↔ 0 ≤ x.toInt := by
  have em : (nI m).toInt = (m : Int) := Int32.toInt_ofNat_of_lt h
  have h1 : (x ^^^ nI m).toBitVec.msb = ((x.toBitVec).msb ^^ ((nI m).toBitVec).msb) := by rw [Int32.toBitVec_xor, BitVec.msb_xor]
  have h2 : ((nI m).toBitVec).msb = false := by
    rw [BitVec.msb_eq_toInt]
    exact decide_eq_false (by
      show ¬ (nI m).toInt < 0
      rw [em]; omega)
  rw [h2, Bool.xor_false, BitVec.msb_eq_toInt, BitVec.msb_eq_toInt] at h1
  rw [Int32.le_iff_toInt_le]
  have h3 : ((x ^^^ nI m).toInt < 0) ↔ (x.toInt < 0) := decide_eq_decide.mp h1
  have h0 : (0 : Int32).toInt = 0 := by decide
  rw [h0]
  omega
theorem rem_p {x : Int32} {m a : Nat} (hm : 0 < m) (h2 : m < 2 ^ 31) (ha : x.toInt = (a : Int)) : x - x / nI m * nI m = nI (a % m) := by
  have em : (nI m).toInt = (m : Int) := Int32.toInt_ofNat_of_lt h2
  have hX := x.toInt_lt
  have ha2 : a < 2 ^ 31 := by omega
  have l1 : a / m ≤ a := Nat.div_le_self a m
  have l2 : a / m * m + a % m = a := Nat.div_add_mod' a m
  have l3 : a % m < m := Nat.mod_lt _ hm
  have e0 : (x / nI m).toInt = ((a / m : Nat) : Int).bmod (2 ^ 32) := by
    rw [Int32.toInt_div, ha, em, ← Int.ofNat_tdiv]
  generalize a / m = q at *
  generalize a % m = r at *
  have e1 : (x / nI m).toInt = (q : Int) := by
    rw [e0, Int.bmod_eq_of_le (by omega) (by omega)]
  have e2 : (x / nI m * nI m).toInt = ((q * m : Nat) : Int) := by
    rw [Int32.toInt_mul, e1, em, ← Int.natCast_mul]
    generalize q * m = t at *
    rw [Int.bmod_eq_of_le (by omega) (by omega)]
  generalize q * m = t at *
  apply Int32.toInt_inj.mp
  rw [Int32.toInt_sub, e2, ha, nI_int (by omega), Int.bmod_eq_of_le (by omega) (by omega)]
  omega
theorem rem_n {x : Int32} {m a : Nat} (hm : 0 < m) (h2 : m < 2 ^ 31) (ha : x.toInt = -(a : Int)) : (x - x / nI m * nI m).toInt = -((a % m : Nat) : Int) := by
  have em : (nI m).toInt = (m : Int) := Int32.toInt_ofNat_of_lt h2
  have hX := x.le_toInt
  have ha2 : a ≤ 2 ^ 31 := by omega
  have l1 : a / m ≤ a := Nat.div_le_self a m
  have l2 : a / m * m + a % m = a := Nat.div_add_mod' a m
  have l3 : a % m < m := Nat.mod_lt _ hm
  have e1 : (x / nI m).toInt = (-((a / m : Nat) : Int)).bmod (2 ^ 32) := by
    rw [Int32.toInt_div, ha, em, Int.neg_tdiv, ← Int.ofNat_tdiv]
  generalize a / m = q at *
  generalize a % m = r at *
  have e1' : (x / nI m).toInt = -(q : Int) := by
    rw [e1, Int.bmod_eq_of_le (by omega) (by omega)]
  have e2 : (x / nI m * nI m).toInt = -((q * m : Nat) : Int) := by
    rw [Int32.toInt_mul, e1', em, Int.neg_mul, ← Int.natCast_mul]
    generalize q * m = t at *
    rw [Int.bmod_eq_of_le (by omega) (by omega)]
  generalize q * m = t at *
  rw [Int32.toInt_sub, e2, ha, Int.bmod_eq_of_le (by omega) (by omega)]
  omega
theorem fm_left {x : Int32} {m : Nat} (hm : 0 < m) (h2 : m ≤ 1000) : ∃ d, d < m ∧ mFm x (nI m) = nI d ∧ P_X6_left x (nI m) = some (nI d) := by
  have n0 : ¬ nI m = 0 := fun z => by have := nI_j (a := m) (b := 0) (by omega) (by decide) z; omega
  have xs := xor_s (x := x) (m := m) (by omega)
  have h0 : (0 : Int32).toInt = 0 := by decide
  unfold mFm P_X6_left
  rw [if_neg n0]
  by_cases p : 0 ≤ x.toInt
  · obtain ⟨a, ha⟩ := Int.eq_ofNat_of_zero_le p
    have r := rem_p hm (by omega) ha
    have l3 : a % m < m := Nat.mod_lt _ hm
    rw [if_pos (xs.mpr p), r, if_pos (show (0 : Int32) ≤ nI (a % m) from (nI_leI (a := 0) (by decide) (by omega)).mpr (Nat.zero_le _))]
    exact ⟨_, l3, rfl, rfl⟩
  · obtain ⟨a, ha⟩ : ∃ a : Nat, x.toInt = -(a : Int) := ⟨x.toInt.natAbs, by omega⟩
    have r := rem_n hm (by omega) ha
    have l3 : a % m < m := Nat.mod_lt _ hm
    rw [if_neg (fun z => p (xs.mp z))]
    by_cases z : a % m = 0
    · have r0 : x - x / nI m * nI m = 0 := Int32.toInt_inj.mp (by rw [r, z, h0]; rfl)
      rw [if_pos r0, r0, if_pos (Int32.le_refl _)]
      exact ⟨0, hm, rfl, rfl⟩
    · have r0 : ¬ x - x / nI m * nI m = 0 := fun y => by
        rw [y, h0] at r
        omega
      have r1 : ¬ (0 : Int32) ≤ x - x / nI m * nI m := fun y => by
        rw [Int32.le_iff_toInt_le, h0, r] at y
        omega
      have e : (x - x / nI m * nI m) + nI m = nI (m - a % m) := by
        apply Int32.toInt_inj.mp
        rw [Int32.toInt_add, r, nI_int (show m < 2 ^ 31 by omega), nI_int (show m - a % m < 2 ^ 31 by omega), Int.bmod_eq_of_le (by omega) (by omega)]
        omega
      rw [if_neg r0, if_neg r1, e]
      exact ⟨_, by omega, rfl, rfl⟩
theorem fm_nat {k m : Nat} (hm : 0 < m) (h2 : m ≤ 1000) (hk : k < 2 ^ 31) : mFm (nI k) (nI m) = nI (k % m) ∧ nI k - nI k / nI m * nI m = nI (k % m) := by
  have e : (nI k).toInt = (k : Int) := Int32.toInt_ofNat_of_lt hk
  have r := rem_p hm (by omega) e
  refine ⟨?_, r⟩
  unfold mFm
  rw [if_pos ((xor_s (by omega)).mpr (by omega)), r]
theorem nI_sub' {a b : Nat} (ha : a < 2 ^ 31) (hb : b < 2 ^ 31) : (nI a - nI b).toInt = (a : Int) - (b : Int) := by
  rw [Int32.toInt_sub, nI_int ha, nI_int hb, Int.bmod_eq_of_le (by omega) (by omega)]
theorem fm_zero {d k m : Nat} (hd : d < m) (hk : k < m) (h2 : m ≤ 1000) : mFm (nI d - nI k) (nI m) = 0 ↔ d = k := by
  have xs := xor_s (x := nI d - nI k) (m := m) (by omega)
  have e := nI_sub' (a := d) (b := k) (by omega) (by omega)
  have h0 : (0 : Int32).toInt = 0 := by decide
  unfold mFm
  by_cases p : k ≤ d
  · have r := rem_p (x := nI d - nI k) (m := m) (a := d - k) (by omega) (by omega) (by rw [e]; omega)
    rw [if_pos (xs.mpr (by rw [e]; omega)), r, Nat.mod_eq_of_lt (by omega)]
    constructor
    · intro z
      have := nI_j (a := d - k) (b := 0) (by omega) (by decide) z
      omega
    · intro z
      rw [z, Nat.sub_self]; rfl
  · have r := rem_n (x := nI d - nI k) (m := m) (a := k - d) (by omega) (by omega) (by rw [e]; omega)
    rw [Nat.mod_eq_of_lt (show k - d < m by omega)] at r
    have r0 : ¬ (nI d - nI k) - (nI d - nI k) / nI m * nI m = 0 := fun y => by
      rw [y, h0] at r
      omega
    rw [if_neg (fun z => absurd (xs.mp z) (by rw [e]; omega)), if_neg r0]
    constructor
    · intro z
      exfalso
      have a := congrArg Int32.toInt z
      rw [Int32.toInt_add, r, nI_int (by omega), h0, Int.bmod_eq_of_le (by omega) (by omega)] at a
      omega
    · intro z; omega
/-- CLOCK on both sides, within its CYCLE -/
def CK (c : mC) (f : Nat → Int32) : Prop := c 0 13 = f 4 ∧ ((c 1 1 = 0 ∧ c 0 13 = 0) ∨ ∃ y k, 20 ≤ y ∧ y ≤ 240 ∧ c 1 1 = nI y ∧ k < y ∧ c 0 13 = nI k)
theorem CK.k {c c' : mC} {f f' : Nat → Int32} (h : CK c f) (k1 : c' 1 1 = c 1 1) (k2 : c' 0 13 = c 0 13) (kf : f' 4 = f 4) : CK c' f' := by
  unfold CK
  rw [k1, k2, kf]
  exact h
theorem ahead_n {c : mC} {y d k : Nat} (hy : 20 ≤ y ∧ y ≤ 240) (e1 : c 1 1 = nI y) (ed : mFm (c 0 12 - c 1 2) (nI y) = nI d) (ek : c 0 13 = nI k) : P_X0_aheadOfClock c = mFm (nI d - nI k) (nI y) := by
  unfold P_X0_aheadOfClock
  rw [e1, if_pos (show (0 : Int32) < nI y from (nI_ltI (a := 0) (by decide) (by omega)).mpr (by omega)), mBd_eq, mBd_eq, ed, ek]
theorem due_n {r : mC} {y d : Nat} (hy : 20 ≤ y ∧ y ≤ 240) (e2 : r 21 2 = nI y) (ed : P_X6_left (r 21 1 - r 21 3) (nI y) = some (nI d)) : P_X6_due r = some (nI d) := by
  unfold P_X6_due
  rw [show P_X6_of r 1 = some (r 21 1) from of_n (k := 1) (by decide), show P_X6_of r 3 = some (r 21 3) from of_n (k := 3) (by decide), show P_X6_of r 2 = some (r 21 2) from of_n (k := 2) (by decide)]
  simp only [mBo]
  rw [e2, ed]
/-- the clock's move, on both sides -/
theorem clk_eq {c r : mC} (h12 : c 0 12 = r 21 1) (h11 : c 1 1 = r 21 2) (h2 : c 1 2 = r 21 3) (hk : CK c (r 21)) : ∃ r', P_X6_clockGoes r = some r' ∧ CK (P_X0_moveClock c) (r' 21) := by
  have o2 : P_X6_of r 2 = some (r 21 2) := of_n (k := 2) (by decide)
  have o4 : ∀ m : mC, P_X6_of m 4 = some (m 21 4) := fun m => of_n (k := 4) (by decide)
  have o1 : ∀ m : mC, P_X6_of m 1 = some (m 21 1) := fun m => of_n (k := 1) (by decide)
  have p4 : ∀ (m : mC) (v : Int32), P_X6_puts m 4 v = some (mP m 21 4 v) := fun m v => puts_n (k := 4) (by decide)
  obtain ⟨h4, hr⟩ := id hk
  rcases hr with ⟨y0, k0⟩ | ⟨y, k, hy1, hy2, ey, hky, ek⟩
  · refine ⟨r, ?_, ?_⟩
    · unfold P_X6_clockGoes
      rw [o2, ← h11, y0]
      rfl
    · have e : P_X0_moveClock c = c := by
        unfold P_X0_moveClock
        rw [y0, if_neg (by decide)]
      rw [e]; exact hk
  · have yp : (0 : Int32) < nI y := (nI_ltI (a := 0) (by decide) (by omega)).mpr (by omega)
    have yn : ¬ nI y = 0 := fun z => by have := nI_j (a := y) (b := 0) (by omega) (by decide) z; omega
    obtain ⟨d, hd, d1, d2⟩ := fm_left (x := c 0 12 - c 1 2) (m := y) (by omega) (by omega)
    obtain ⟨f1, f2⟩ := fm_nat (k := k + 1) (m := y) (by omega) (by omega) (by omega)
    have ha : (k + 1) % y < y := Nat.mod_lt _ (by omega)
    generalize (k + 1) % y = a at *
    obtain ⟨e, he, e1, e2⟩ := fm_left (x := nI d - nI a) (m := y) (by omega) (by omega)
    -- the class
    have eA : P_X0_aheadOfClock (mP c 0 13 (nI a)) = nI e := (ahead_n (c := mP c 0 13 (nI a)) ⟨hy1, hy2⟩ ey d1 rfl).trans e1
    have eC : P_X0_moveClock c = (if nI e = 0 then mP c 0 13 (nI a) else (if (c 0 12 - c 0 12 / 4 * 4) = 0 then (if nI y / 2 < nI e then mP (mP c 0 13 (nI a)) 0 13 (mFm (nI a - 1) (nI y)) else mP (mP c 0 13 (nI a)) 0 13 (mFm (nI a + 1) (nI y))) else mP c 0 13 (nI a))) := by
      unfold P_X0_moveClock
      rw [ey, if_pos yp, ek, nI_1, f1, mBd_eq, mBd_eq, eA]
      rfl
    -- the reference
    have eD : P_X6_due (mP r 21 4 (nI a)) = some (nI d) := by
      refine due_n ⟨hy1, hy2⟩ ?_ ?_
      · show (mP r 21 4 (nI a)) 21 2 = _
        rw [rd21, if_neg (by decide), ← h11]; exact ey
      · show P_X6_left ((mP r 21 4 (nI a)) 21 1 - (mP r 21 4 (nI a)) 21 3) (nI y) = _
        rw [rd21, rd21, if_neg (by decide), if_neg (by decide), ← h12, ← h2]; exact d2
    have c31 : (mP r 21 4 (nI a)) 21 1 = c 0 12 := by rw [rd21, if_neg (by decide)]; exact h12.symm
    have c34 : (mP r 21 4 (nI a)) 21 4 = nI a := by rw [rd21, if_pos rfl]
    have eR : P_X6_clockGoes r = (if nI e = 0 then some (mP r 21 4 (nI a)) else (if (c 0 12 - c 0 12 / 4 * 4) = 0 then (if nI y / 2 < nI e then (J_X6_clockGoes_74 (mP r 21 4 (nI a)) (nI y) 4 (nI a) (-1)) else (J_X6_clockGoes_74 (mP r 21 4 (nI a)) (nI y) 4 (nI a) 1)) else some (mP r 21 4 (nI a)))) := by
      unfold P_X6_clockGoes
      rw [o2, ← h11, ey]
      simp only [mBo]
      rw [if_neg yn, o4, ← h4, ek]
      dsimp only
      rw [if_neg yn, nI_1, f2, p4]
      dsimp only
      rw [eD]
      dsimp only
      rw [o4, c34]
      dsimp only
      rw [e2]
      dsimp only
      rw [o1, c31]
    rw [eR, eC]
    have fin : ∀ (b : Nat) (r' : mC) (c' : mC), b < y → c' 1 1 = nI y → c' 0 13 = nI b → r' 21 4 = nI b → CK c' (r' 21) := fun b r' c' hb q1 q2 q3 => ⟨q2.trans q3.symm, Or.inr ⟨y, b, hy1, hy2, q1, hb, q2⟩⟩
    by_cases z : nI e = 0
    · rw [if_pos z, if_pos z]
      exact ⟨_, rfl, fin a _ _ ha ey rfl c34⟩
    · rw [if_neg z, if_neg z]
      by_cases w : (c 0 12 - c 0 12 / 4 * 4) = 0
      · rw [if_pos w, if_pos w]
        unfold J_X6_clockGoes_74
        by_cases u : nI y / 2 < nI e
        · obtain ⟨b, hb, b1, b2⟩ := fm_left (x := nI a - 1) (m := y) (by omega) (by omega)
          rw [if_pos u, if_pos u, b1, show nI a + (-1) = nI a - 1 from (Int32.sub_eq_add_neg (nI a) 1).symm, b2]
          simp only [mBo]
          rw [p4]
          exact ⟨_, rfl, fin b _ _ hb ey rfl (by rw [rd21, if_pos rfl])⟩
        · obtain ⟨b, hb, b1, b2⟩ := fm_left (x := nI a + 1) (m := y) (by omega) (by omega)
          rw [if_neg u, if_neg u, b1, b2]
          simp only [mBo]
          rw [p4]
          exact ⟨_, rfl, fin b _ _ hb ey rfl (by rw [rd21, if_pos rfl])⟩
      · rw [if_neg w, if_neg w]
        exact ⟨_, rfl, fin a _ _ ha ey rfl c34⟩
