/-! The class's crossing beside the reference's rows: what is told of both -/
def okP (n : Nat) (ro : Nat → Int32) (r : Nat) (x : Int32) : Prop := x = -1 ∨ ∃ p, p < n ∧ x = nI p ∧ ro p = nI r
def gZ (n : Nat) (c : mC) (s : Nat → Int32) : Prop := c 1 0 = nI n ∧ s 0 = nI n ∧ s 1 = c 0 12 ∧ s 2 = c 1 1 ∧ s 3 = c 1 2 ∧ s 4 = c 0 13 ∧ s 5 = c 0 15 ∧ s 6 = c 0 10 ∧ s 7 = c 0 16 ∧ s 8 = c 0 17 ∧ s 9 = c 0 18 ∧ s 10 = c 0 11 ∧ s 11 = c 0 14
def gR (f a : Nat → Int32) : Prop := a 0 = f 1 ∧ a 1 = f 2 ∧ a 2 = f 3 ∧ a 3 = f 4 ∧ (f 2 = 0 → a 4 = f 5 ∧ a 5 = f 6 ∧ a 6 = f 7 ∧ a 7 = f 8)
def gI (n : Nat) (ro f : Nat → Int32) (r : Nat) : Prop := f 0 = nI r ∧ okP n ro r (f 1) ∧ okP n ro r (f 4) ∧ ((f 1 = -1 ∧ f 2 = 3) ∨ (f 1 ≠ -1 ∧ (f 2 = 0 ∨ f 2 = 1 ∨ f 2 = 2)))
def gS (n : Nat) (f8 f9 si : Nat → Int32) : Prop := ∀ p q, p < n → q < n → f8 1 = nI p → f9 1 = nI q → si p = si q
def gP (n : Nat) (c : mC) (p : Nat → Nat → Int32) : Prop := ∀ q, q < n → p q 0 = c 2 q ∧ p q 1 = c 3 q ∧ (∀ k, k < 10 → p q (2 + k) = c 5 (10 * q + k)) ∧ p q 12 = c 14 q ∧ p q 13 = bI (bt (c 0 7) q) ∧ p q 14 = bI (bt (c 0 8) q) ∧ p q 15 = c 15 q
def foe (n : Nat) (c : mC) (q i : Nat) : Bool := decide (i < n) && (decide (q ≠ i) && (decide (c 2 q = c 2 i) || decide (c 3 q ≠ c 3 i)))
def gPl (n : Nat) (c : mC) : Prop := n ≤ 8 ∧ (∀ q, q < n → (c 2 q = 0 ∨ c 2 q = 1) ∧ (c 3 q = 0 ∨ c 3 q = 1)) ∧ (∀ q, q < n → ∀ i, i < 32 → bt (c 4 q) i = foe n c q i) ∧ (∀ r s, r < 2 → s < 2 → ∀ i, i < 32 → bt (c 7 (2 * r + s)) i = (decide (i < n) && (decide (c 2 i = nI r) && decide (c 3 i = nI s)))) ∧ 0 ≤ (c 1 1).toInt ∧ (c 1 1).toInt ≤ 240
def gM (n : Nat) (c : mC) : Prop := ∀ q, q < n → bt (c 1 9) q = decide (c 5 (10 * q + 7) ≠ 0) ∧ bt (c 1 10) q = decide (c 5 (10 * q + 7) = 3) ∧ bt (c 1 11) q = decide (0 < c 5 (10 * q + 5))
def gQ (n : Nat) (B : Int) (c : mC) : Prop := (∀ q, q < 8 → 0 ≤ (c 14 q).toInt ∧ (c 14 q).toInt ≤ B) ∧ (∀ q, n ≤ q → q < 8 → c 14 q = 0 ∧ c 15 q = 0) ∧ (∀ q, q < n → bt (c 0 6) q = decide (0 < c 14 q))
def gK (c : mC) : Prop := (0 ≤ (c 0 13).toInt ∧ (c 0 13).toInt ≤ 240) ∧ ((c 0 16 = -1 ∧ c 0 17 = 0) ∨ ((c 0 16 = 0 ∨ c 0 16 = 1) ∧ (c 0 17 = 1 ∨ c 0 17 = 2 ∨ c 0 17 = 3 ∨ c 0 17 = 4))) ∧ (c 0 15 = 0 ∨ (c 0 15 = 1 ∧ c 8 1 = -1 ∧ c 9 1 = -1)) ∧ (∃ k, k < 4 ∧ c 0 11 = nI k)
def gW (W : Int) (c : mC) : Prop := 0 ≤ (c 0 14).toInt ∧ (c 0 14).toInt ≤ W
def gE (c : mC) (l : Int32) (e : Nat → Nat → Int32) : Prop := ∃ k f, k ≤ 32 ∧ f < 32 ∧ c 10 3 = nI k ∧ l = nI k ∧ c 10 4 = nI f ∧ ∀ i, i < k → e i 0 = c 11 ((f + 32 - k + i) % 32) ∧ e i 1 = c 12 ((f + 32 - k + i) % 32) ∧ e i 2 = c 13 ((f + 32 - k + i) % 32)
def gD (d : Int32) (c : mC) (lg : Int32) : Prop := lg = mTt 8 (c 15) + d
def gB (c : mC) (b : Nat → Int32) : Prop := ∀ k, k < 10 → b k = c 6 k
def Sim (n : Nat) (B W : Int) (d : Int32) (c m : mC) : Prop := gZ n c (sA m) ∧ gR (c 8) (rA m 0) ∧ gR (c 9) (rA m 1) ∧ gI n (c 2) (c 8) 0 ∧ gI n (c 2) (c 9) 1 ∧ gS n (c 8) (c 9) (c 3) ∧ gP n c (pA m) ∧ gPl n c ∧ gM n c ∧ gQ n B c ∧ gK c ∧ gW W c ∧ gE c (sA m 12) (eA m) ∧ gD d c (m 20 4) ∧ gB c (bA m)
section QU
variable {n : Nat} {B W : Int} {d : Int32} {c m : mC}
theorem Sim.Z (h : Sim n B W d c m) : gZ n c (sA m) := h.1
theorem Sim.R (h : Sim n B W d c m) {r : Nat} (hr : r < 2) : gR (c (8 + r)) (rA m r) := by
  have : r = 0 ∨ r = 1 := by omega
  rcases this with rfl | rfl
  · exact h.2.1
  · exact h.2.2.1
theorem Sim.I (h : Sim n B W d c m) {r : Nat} (hr : r < 2) : gI n (c 2) (c (8 + r)) r := by
  have : r = 0 ∨ r = 1 := by omega
  rcases this with rfl | rfl
  · exact h.2.2.2.1
  · exact h.2.2.2.2.1
theorem Sim.S (h : Sim n B W d c m) : gS n (c 8) (c 9) (c 3) := h.2.2.2.2.2.1
theorem Sim.P (h : Sim n B W d c m) : gP n c (pA m) := h.2.2.2.2.2.2.1
theorem Sim.L (h : Sim n B W d c m) : gPl n c := h.2.2.2.2.2.2.2.1
theorem Sim.M (h : Sim n B W d c m) : gM n c := h.2.2.2.2.2.2.2.2.1
theorem Sim.Q (h : Sim n B W d c m) : gQ n B c := h.2.2.2.2.2.2.2.2.2.1
theorem Sim.K (h : Sim n B W d c m) : gK c := h.2.2.2.2.2.2.2.2.2.2.1
theorem Sim.Wt (h : Sim n B W d c m) : gW W c := h.2.2.2.2.2.2.2.2.2.2.2.1
theorem Sim.E (h : Sim n B W d c m) : gE c (sA m 12) (eA m) := h.2.2.2.2.2.2.2.2.2.2.2.2.1
theorem Sim.D (h : Sim n B W d c m) : gD d c (m 20 4) := h.2.2.2.2.2.2.2.2.2.2.2.2.2.1
theorem Sim.Bk (h : Sim n B W d c m) : gB c (bA m) := h.2.2.2.2.2.2.2.2.2.2.2.2.2.2
theorem Sim.n8 (h : Sim n B W d c m) : n ≤ 8 := h.L.1
theorem Sim.cN (h : Sim n B W d c m) : c 1 0 = nI n := h.1.1
theorem Sim.s0 (h : Sim n B W d c m) : sA m 0 = nI n := h.1.2.1
theorem Sim.s1 (h : Sim n B W d c m) : sA m 1 = c 0 12 := h.1.2.2.1
theorem Sim.s2 (h : Sim n B W d c m) : sA m 2 = c 1 1 := h.1.2.2.2.1
theorem Sim.s3 (h : Sim n B W d c m) : sA m 3 = c 1 2 := h.1.2.2.2.2.1
theorem Sim.s4 (h : Sim n B W d c m) : sA m 4 = c 0 13 := h.1.2.2.2.2.2.1
theorem Sim.s5 (h : Sim n B W d c m) : sA m 5 = c 0 15 := h.1.2.2.2.2.2.2.1
theorem Sim.s6 (h : Sim n B W d c m) : sA m 6 = c 0 10 := h.1.2.2.2.2.2.2.2.1
theorem Sim.s7 (h : Sim n B W d c m) : sA m 7 = c 0 16 := h.1.2.2.2.2.2.2.2.2.1
theorem Sim.s8 (h : Sim n B W d c m) : sA m 8 = c 0 17 := h.1.2.2.2.2.2.2.2.2.2.1
theorem Sim.s9 (h : Sim n B W d c m) : sA m 9 = c 0 18 := h.1.2.2.2.2.2.2.2.2.2.2.1
theorem Sim.s10 (h : Sim n B W d c m) : sA m 10 = c 0 11 := h.1.2.2.2.2.2.2.2.2.2.2.2.1
theorem Sim.s11 (h : Sim n B W d c m) : sA m 11 = c 0 14 := h.1.2.2.2.2.2.2.2.2.2.2.2.2
theorem mBo_s {α γ : Type} {dz : γ} {x : α} {f : α → γ} : mBo dz (some x) f = f x := rfl
theorem mBd_s {α β : Type} {x : α} {f : α → β} : mBd x f = f x := rfl
theorem eq1 {x : Int32} (h : x = 1) : ¬ x = 0 := by rw [h]; decide
theorem cl_in {N : Nat} {f : Nat → Int32} {p : Nat} (h : p < N) (hN : N < 2 ^ 31) : cl N f (nI p) = f p := by
  unfold cl
  rw [if_neg (nI_in h hN), nI_clamp (by omega)]
theorem cl_m1 {N : Nat} {f : Nat → Int32} : cl N f (-1) = 0 := by
  unfold cl
  rw [if_pos (Or.inl (by decide))]
theorem pt_in {N : Nat} {j p : Nat} {v : Int32} (h : p < N) (hN : N < 2 ^ 31) : pt N c j (nI p) v = mP c j p v := by
  unfold pt
  rw [if_neg (nI_in h hN), nI_clamp (by omega)]
theorem markOf_in {p k : Nat} (hp : p < 8) (hk : k < 10) : P_X2_markOf c (nI p) (nI k) = c 5 (10 * p + k) := by
  unfold P_X2_markOf
  have e : nI p * 10 + nI k = nI (10 * p + k) := by
    show nI p * nI 10 + nI k = _
    rw [nI_mul, nI_add, Nat.mul_comm]
  rw [e, cl_in (by omega) (by decide)]
theorem breakOf_in {b k : Nat} (hb : b < 2) (hk : k < 5) : P_X2_breakOf c (nI b) (nI k) = c 6 (5 * b + k) := by
  unfold P_X2_breakOf mBd
  have e : nI b * 5 + nI k = nI (5 * b + k) := by
    show nI b * nI 5 + nI k = _
    rw [nI_mul, nI_add, Nat.mul_comm]
  rw [e, cl_in (by omega) (by decide)]
theorem partOf_in {r s : Nat} (hr : r < 2) (hs : s < 2) : P_X2_partOf c (nI r) (nI s) = c 7 (2 * r + s) := by
  unfold P_X2_partOf
  have e : nI r * 2 + nI s = nI (2 * r + s) := by
    show nI r * nI 2 + nI s = _
    rw [nI_mul, nI_add, Nat.mul_comm]
  rw [e, cl_in (by omega) (by decide)]
theorem foesOf_in {p : Nat} (hp : p < 8) : P_X2_foesOf c (nI p) = c 4 p := cl_in hp (by decide)
theorem hasPhase_in (hc : c 1 0 = nI n) (hn : n ≤ 8) {p : Nat} (hp : p < n) : P_X2_hasPhase c (nI p) = 1 := by
  unfold P_X2_hasPhase
  rw [hc, if_neg (nI_pos (by omega)), if_neg (nI_ge hp (by omega))]
theorem hasPhase_c (hc : c 1 0 = nI n) (hn : n ≤ 8) (x : Int32) : P_X2_hasPhase c x = 0 ∨ (P_X2_hasPhase c x = 1 ∧ ∃ p, p < n ∧ x = nI p) := by
  unfold P_X2_hasPhase J_X2_hasPhase_16
  rw [hc]
  by_cases h : x < 0
  · left; rw [if_pos h]
  · rw [if_neg h]
    by_cases h2 : nI n ≤ x
    · left; rw [if_pos h2]
    · right
      rw [if_neg h2]
      obtain ⟨j, hj, rfl⟩ := nI_of h
      refine ⟨rfl, j, ?_, rfl⟩
      rw [nI_leI (by omega) hj] at h2
      omega
theorem q_isPhase (h : Sim n B W d c m) (x : Int32) : P_X6_isPhase m x = some (P_X2_hasPhase c x) := by
  unfold P_X6_isPhase P_X2_hasPhase J_X6_isPhase_17 J_X2_hasPhase_16
  simp only [of_0, mBo_s, h.s0, h.cN]
  split
  · rfl
  · split <;> rfl
theorem q_holding (h : Sim n B W d c m) {r : Nat} (hr : r < 2) : P_X6_isHolding m (nI r) = some (P_X4_holds (8 + r) c) := by
  obtain ⟨a, b, -⟩ := h.R hr
  obtain ⟨-, -, -, i4⟩ := h.I hr
  unfold P_X6_isHolding P_X4_holds J_X6_isHolding_24
  simp only [or_0 hr, or_1 hr, mBo_s, a, b]
  by_cases h1 : c (8 + r) 1 = -1
  · rw [if_pos h1, if_pos h1]
  · rw [if_neg h1, if_neg h1, if_neg]
    intro h2
    rcases i4 with ⟨i, -⟩ | ⟨-, i | i | i⟩
    · exact h1 i
    · rw [i] at h2; exact absurd h2 (by decide)
    · rw [i] at h2; exact absurd h2 (by decide)
    · rw [i] at h2; exact absurd h2 (by decide)
theorem q_green (h : Sim n B W d c m) {r : Nat} (hr : r < 2) : P_X6_isGreen m (nI r) = some (P_X4_isGreen (8 + r) c) := by
  obtain ⟨a, b, -⟩ := h.R hr
  unfold P_X6_isGreen P_X4_isGreen J_X6_isGreen_23 J_X4_isGreen_19
  simp only [or_0 hr, or_1 hr, mBo_s, a, b]
  split
  · rfl
  · split <;> rfl
theorem green_lamp (h : Sim n B W d c m) {r : Nat} (hr : r < 2) : P_X4_isGreen (8 + r) c = bI (decide (c (8 + r) 2 = 0)) := by
  obtain ⟨-, -, -, i4⟩ := h.I hr
  unfold P_X4_isGreen J_X4_isGreen_19
  rcases i4 with ⟨i, j⟩ | ⟨i, -⟩
  · rw [if_pos i, j]; rfl
  · rw [if_neg i, bI_if]
theorem holds_eq {r : Nat} : P_X4_holds r c = bI (decide (c r 1 ≠ -1)) := by
  unfold P_X4_holds
  by_cases h : c r 1 = -1
  · rw [if_pos h]; simp [h, bI]
  · rw [if_neg h]; simp [h, bI]
theorem Sim.rs (h : Sim n B W d c m) {p : Nat} (hp : p < n) : (c 2 p = 0 ∨ c 2 p = 1) ∧ (c 3 p = 0 ∨ c 3 p = 1) := h.L.2.1 p hp
theorem q_areFoes (h : Sim n B W d c m) {p q : Nat} (hp : p < n) (hq : q < n) : P_X6_areFoes m (nI p) (nI q) = some (bI (bt (c 4 p) q)) := by
  have n8 := h.n8
  obtain ⟨a0, a1, -⟩ := h.P p hp
  obtain ⟨b0, b1, -⟩ := h.P q hq
  rw [h.L.2.2.1 p hp q (by omega)]
  unfold P_X6_areFoes J_X6_areFoes_39 J_X6_areFoes_35 foe
  simp only [op_0 (show p < 8 by omega), op_0 (show q < 8 by omega), op_1 (show p < 8 by omega), op_1 (show q < 8 by omega), mBo_s, a0, a1, b0, b1, nI_eq (show p < 2 ^ 31 by omega) (show q < 2 ^ 31 by omega)]
  by_cases e : p = q
  · simp [e, bI]
  · by_cases e1 : c 2 p = c 2 q
    · simp [e, e1, bI, hq]
    · by_cases e2 : c 3 p = c 3 q
      · simp [e, e1, e2, bI, hq]
      · simp [e, e1, e2, bI, hq]
theorem foes_go (h : Sim n B W d c m) {p : Nat} (hp : p < n) : ∀ (k i : Nat) (acc : Int32), i + k = n → (∀ j, j < 32 → bt acc j = (decide (j < i) && bt (c 4 p) j)) → mWh none (B_X6_foesOf_4 m (nI p)) (acc, nI i) = some (c 4 p)
  | 0, i, acc, hi, ha => by
    have n8 := h.n8
    rw [mWh_eq tm_X6_foesOf_4]
    have e : B_X6_foesOf_4 m (nI p) (acc, nI i) = .inr (some acc) := by
      unfold B_X6_foesOf_4
      simp only [of_0, mBo_s, h.s0]
      rw [if_pos (nI_le (by omega) (by omega))]
    rw [e]
    show some acc = _
    congr 1
    apply b_ext
    intro j hj
    rw [ha j hj]
    by_cases hji : j < i
    · simp [hji]
    · rw [h.L.2.2.1 p hp j hj]
      unfold foe
      simp [show ¬ j < n by omega]
  | k + 1, i, acc, hi, ha => by
    have n8 := h.n8
    rw [mWh_eq tm_X6_foesOf_4]
    have e : B_X6_foesOf_4 m (nI p) (acc, nI i) = .inl (acc ||| (if bt (c 4 p) i then P_X5_bit (nI i) else 0), nI (i + 1)) := by
      unfold B_X6_foesOf_4 J_X6_foesOf_30
      simp only [of_0, mBo_s, h.s0, q_areFoes h hp (show i < n by omega)]
      rw [if_neg (nI_ge (by omega) (by omega)), nI_1, ← bit_shl i (by omega)]
      cases bt (c 4 p) i <;> rfl
    rw [e]
    refine foes_go h hp k (i + 1) _ (by omega) (fun j hj => ?_)
    rw [b_or, ha j hj]
    by_cases hb : bt (c 4 p) i = true
    · rw [if_pos hb, b_bit (by omega) hj]
      by_cases hji : j = i
      · subst hji; simp [hb]
      · have : decide (j < i + 1) = decide (j < i) := decide_eq_decide.mpr (by omega)
        rw [this]; simp [hji]
    · rw [if_neg hb, b_0, Bool.or_false]
      by_cases hji : j = i
      · subst hji; simp [hb]
      · have : decide (j < i + 1) = decide (j < i) := decide_eq_decide.mpr (by omega)
        rw [this]
theorem q_foesOf (h : Sim n B W d c m) {p : Nat} (hp : p < n) : P_X6_foesOf m (nI p) = some (c 4 p) := foes_go h hp n 0 0 (by omega) (fun j hj => by rw [b_0]; simp)
/-- a phase of a set that has a foe in it -/
def wf (c : mC) (s : Int32) (p : Nat) : Bool := bt s p && decide (c 4 p &&& s ≠ 0)
theorem fwf_go (hc : c 1 0 = nI n) (hn : n ≤ 8) {s : Int32} : ∀ (k i : Nat), i + k = n → mWh 0 (B_X2_firstWithFoe_2 c s) (nI i) = fsG (wf c s) k i
  | 0, i, hi => by
    rw [mWh_eq tm_X2_firstWithFoe_2]
    have e : B_X2_firstWithFoe_2 c s (nI i) = .inr (-1) := by
      unfold B_X2_firstWithFoe_2
      rw [hc, if_pos (nI_le (by omega) (by omega))]
    rw [e]; rfl
  | k + 1, i, hi => by
    rw [mWh_eq tm_X2_firstWithFoe_2]
    have e : B_X2_firstWithFoe_2 c s (nI i) = if wf c s i then .inr (nI i) else .inl (nI (i + 1)) := by
      unfold B_X2_firstWithFoe_2 J_X2_firstWithFoe_30 wf mBd
      rw [hc, if_neg (nI_ge (by omega) (by omega))]
      simp only [inSet_eq (show i < 8 by omega), foesOf_in (show i < 8 by omega), nI_1, bI_0]
      cases bt s i
      · rfl
      · by_cases h2 : c 4 i &&& s = 0
        · simp [h2]
        · simp [h2]
    rw [e]
    unfold fsG
    cases wf c s i
    · exact fwf_go hc hn k (i + 1) (by omega)
    · rfl
theorem fwf_eq (hc : c 1 0 = nI n) (hn : n ≤ 8) {s : Int32} : P_X2_firstWithFoe c s = fsG (wf c s) n 0 := fwf_go hc hn n 0 (by omega)
theorem peace_go (h : Sim n B W d c m) {s : Int32} : ∀ (k i : Nat), i + k = n → mWh none (B_X6_isPeace_2 m s) (nI i) = some (bI (decide (fsG (wf c s) k i = -1)))
  | 0, i, hi => by
    have n8 := h.n8
    rw [mWh_eq tm_X6_isPeace_2]
    have e : B_X6_isPeace_2 m s (nI i) = .inr (some 1) := by
      unfold B_X6_isPeace_2
      simp only [of_0, mBo_s, h.s0]
      rw [if_pos (nI_le (by omega) (by omega))]
    rw [e]; rfl
  | k + 1, i, hi => by
    have n8 := h.n8
    rw [mWh_eq tm_X6_isPeace_2]
    have e : B_X6_isPeace_2 m s (nI i) = if wf c s i then .inr (some 0) else .inl (nI (i + 1)) := by
      unfold B_X6_isPeace_2 J_X6_isPeace_31 wf mBd
      simp only [of_0, mBo_s, h.s0, has_eq (show i < 32 by omega), q_foesOf h (show i < n by omega), nI_1, bI_0]
      rw [if_neg (nI_ge (by omega) (by omega))]
      cases bt s i
      · rfl
      · by_cases h2 : c 4 i &&& s = 0
        · simp [h2]
        · simp [h2]
    rw [e]
    unfold fsG
    cases hw : wf c s i
    · exact peace_go h k (i + 1) (by omega)
    · show some 0 = some (bI (decide (nI i = -1)))
      rw [decide_eq_false (nI_m1 (by omega))]; rfl
theorem q_isPeace (h : Sim n B W d c m) {s : Int32} : P_X6_isPeace m s = some (bI (decide (P_X2_firstWithFoe c s = -1))) := by
  rw [fwf_eq h.cN h.n8]
  exact peace_go h n 0 (by omega)
theorem called_bt {q : Nat} : bt (P_X0_calledSet c) q = (bt (c 0 7) q || bt (c 0 6) q || bt (c 1 9) q) := by
  unfold P_X0_calledSet
  rw [b_or, b_or]
theorem foot_bt {q : Nat} : bt (P_X0_onFootSet c) q = (bt (c 0 8) q && bt (c 1 11) q || bt (c 1 10) q) := by
  unfold P_X0_onFootSet
  rw [b_or, b_and]
theorem asked_bt {q : Nat} : bt (P_X0_askedSet c) q = (bt (P_X0_calledSet c) q || bt (P_X0_onFootSet c) q) := by
  unfold P_X0_askedSet mBd
  rw [b_or]
theorem q_called (h : Sim n B W d c m) {p : Nat} (hp : p < n) : P_X6_isCalled m (nI p) = some (bI (bt (P_X0_calledSet c) p)) := by
  have n8 := h.n8
  obtain ⟨-, -, a2, a3, a4, -⟩ := h.P p hp
  have k7 := a2 7 (by omega)
  unfold P_X6_isCalled J_X6_isCalled_31
  rw [called_bt, h.Q.2.2 p hp, (h.M p hp).1]
  simp only [op_13 (show p < 8 by omega), op_12 (show p < 8 by omega), mk_7 (show p < 8 by omega), mBo_s, a3, a4, k7, bI_1]
  by_cases e1 : bt (c 0 7) p = true
  · simp [e1, bI]
  · by_cases e2 : 0 < c 14 p
    · simp [e1, e2, bI]
    · by_cases e3 : c 5 (10 * p + 7) = 0
      · simp [e1, e2, e3, bI]
      · simp [e1, e2, e3, bI]
theorem q_foot (h : Sim n B W d c m) {p : Nat} (hp : p < n) : P_X6_isOnFoot m (nI p) = some (bI (bt (P_X0_onFootSet c) p)) := by
  have n8 := h.n8
  obtain ⟨-, -, a2, -, -, a5, -⟩ := h.P p hp
  have k7 := a2 7 (by omega)
  have k5 := a2 5 (by omega)
  unfold P_X6_isOnFoot J_X6_isOnFoot_31 J_X6_isOnFoot_35
  rw [foot_bt, (h.M p hp).2.1, (h.M p hp).2.2]
  simp only [op_14 (show p < 8 by omega), mk_5 (show p < 8 by omega), mk_7 (show p < 8 by omega), mBo_s, a5, k5, k7, bI_1]
  by_cases e1 : c 5 (10 * p + 5) ≤ 0
  · have e1' : ¬ 0 < c 5 (10 * p + 5) := Int32.not_lt.mpr e1
    sorry
  · have e1' : 0 < c 5 (10 * p + 5) := Int32.not_le.mp e1
    by_cases e2 : bt (c 0 8) p = true
    · simp [e1, e1', e2, bI]
    · by_cases e3 : c 5 (10 * p + 7) = 3
      · simp [e1, e1', e2, e3, bI]
      · simp [e1, e1', e2, e3, bI]
theorem q_asked (h : Sim n B W d c m) {p : Nat} (hp : p < n) : P_X6_isAsked m (nI p) = some (bI (bt (P_X0_askedSet c) p)) := by
  unfold P_X6_isAsked J_X6_isAsked_16
  rw [asked_bt]
  simp only [q_called h hp, q_foot h hp, mBo_s, bI_0]
  cases bt (P_X0_calledSet c) p
  · cases bt (P_X0_onFootSet c) p <;> rfl
  · rfl
end QU
