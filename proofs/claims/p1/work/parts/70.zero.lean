/-! the fresh objects: how a tick goes by -/
theorem zo_0 {m : mC} : P_X6_of m 0 = some (m 21 0) := rfl
theorem zp_0 {m : mC} {v : Int32} : P_X6_puts m 0 v = some (mP m 21 0 v) := rfl
theorem za_0 {m : mC} {v : Int32} : P_X6_adds m 0 v = some (mP m 21 0 (m 21 0 + v)) := rfl
theorem zo_1 {m : mC} : P_X6_of m 1 = some (m 21 1) := rfl
theorem zp_1 {m : mC} {v : Int32} : P_X6_puts m 1 v = some (mP m 21 1 v) := rfl
theorem za_1 {m : mC} {v : Int32} : P_X6_adds m 1 v = some (mP m 21 1 (m 21 1 + v)) := rfl
theorem zo_2 {m : mC} : P_X6_of m 2 = some (m 21 2) := rfl
theorem zp_2 {m : mC} {v : Int32} : P_X6_puts m 2 v = some (mP m 21 2 v) := rfl
theorem za_2 {m : mC} {v : Int32} : P_X6_adds m 2 v = some (mP m 21 2 (m 21 2 + v)) := rfl
theorem zo_3 {m : mC} : P_X6_of m 3 = some (m 21 3) := rfl
theorem zp_3 {m : mC} {v : Int32} : P_X6_puts m 3 v = some (mP m 21 3 v) := rfl
theorem za_3 {m : mC} {v : Int32} : P_X6_adds m 3 v = some (mP m 21 3 (m 21 3 + v)) := rfl
theorem zo_4 {m : mC} : P_X6_of m 4 = some (m 21 4) := rfl
theorem zp_4 {m : mC} {v : Int32} : P_X6_puts m 4 v = some (mP m 21 4 v) := rfl
theorem za_4 {m : mC} {v : Int32} : P_X6_adds m 4 v = some (mP m 21 4 (m 21 4 + v)) := rfl
theorem zo_5 {m : mC} : P_X6_of m 5 = some (m 21 5) := rfl
theorem zp_5 {m : mC} {v : Int32} : P_X6_puts m 5 v = some (mP m 21 5 v) := rfl
theorem za_5 {m : mC} {v : Int32} : P_X6_adds m 5 v = some (mP m 21 5 (m 21 5 + v)) := rfl
theorem zo_6 {m : mC} : P_X6_of m 6 = some (m 21 6) := rfl
theorem zp_6 {m : mC} {v : Int32} : P_X6_puts m 6 v = some (mP m 21 6 v) := rfl
theorem za_6 {m : mC} {v : Int32} : P_X6_adds m 6 v = some (mP m 21 6 (m 21 6 + v)) := rfl
theorem zo_7 {m : mC} : P_X6_of m 7 = some (m 21 7) := rfl
theorem zp_7 {m : mC} {v : Int32} : P_X6_puts m 7 v = some (mP m 21 7 v) := rfl
theorem za_7 {m : mC} {v : Int32} : P_X6_adds m 7 v = some (mP m 21 7 (m 21 7 + v)) := rfl
theorem zo_8 {m : mC} : P_X6_of m 8 = some (m 21 8) := rfl
theorem zp_8 {m : mC} {v : Int32} : P_X6_puts m 8 v = some (mP m 21 8 v) := rfl
theorem za_8 {m : mC} {v : Int32} : P_X6_adds m 8 v = some (mP m 21 8 (m 21 8 + v)) := rfl
theorem zo_9 {m : mC} : P_X6_of m 9 = some (m 21 9) := rfl
theorem zp_9 {m : mC} {v : Int32} : P_X6_puts m 9 v = some (mP m 21 9 v) := rfl
theorem za_9 {m : mC} {v : Int32} : P_X6_adds m 9 v = some (mP m 21 9 (m 21 9 + v)) := rfl
theorem zo_10 {m : mC} : P_X6_of m 10 = some (m 21 10) := rfl
theorem zp_10 {m : mC} {v : Int32} : P_X6_puts m 10 v = some (mP m 21 10 v) := rfl
theorem za_10 {m : mC} {v : Int32} : P_X6_adds m 10 v = some (mP m 21 10 (m 21 10 + v)) := rfl
theorem zo_11 {m : mC} : P_X6_of m 11 = some (m 21 11) := rfl
theorem zp_11 {m : mC} {v : Int32} : P_X6_puts m 11 v = some (mP m 21 11 v) := rfl
theorem za_11 {m : mC} {v : Int32} : P_X6_adds m 11 v = some (mP m 21 11 (m 21 11 + v)) := rfl
theorem zo_12 {m : mC} : P_X6_of m 12 = some (m 21 12) := rfl
theorem zp_12 {m : mC} {v : Int32} : P_X6_puts m 12 v = some (mP m 21 12 v) := rfl
theorem za_12 {m : mC} {v : Int32} : P_X6_adds m 12 v = some (mP m 21 12 (m 21 12 + v)) := rfl
theorem zr_00 {m : mC} : P_X6_ofRing m 0 0 = some (m 21 16) := rfl
theorem zq_00 {m : mC} {v : Int32} : P_X6_putsRing m 0 0 v = some (mP m 21 16 v) := rfl
theorem zr_01 {m : mC} : P_X6_ofRing m 0 1 = some (m 21 17) := rfl
theorem zq_01 {m : mC} {v : Int32} : P_X6_putsRing m 0 1 v = some (mP m 21 17 v) := rfl
theorem zr_02 {m : mC} : P_X6_ofRing m 0 2 = some (m 21 18) := rfl
theorem zq_02 {m : mC} {v : Int32} : P_X6_putsRing m 0 2 v = some (mP m 21 18 v) := rfl
theorem zr_03 {m : mC} : P_X6_ofRing m 0 3 = some (m 21 19) := rfl
theorem zq_03 {m : mC} {v : Int32} : P_X6_putsRing m 0 3 v = some (mP m 21 19 v) := rfl
theorem zr_04 {m : mC} : P_X6_ofRing m 0 4 = some (m 21 20) := rfl
theorem zq_04 {m : mC} {v : Int32} : P_X6_putsRing m 0 4 v = some (mP m 21 20 v) := rfl
theorem zr_05 {m : mC} : P_X6_ofRing m 0 5 = some (m 21 21) := rfl
theorem zq_05 {m : mC} {v : Int32} : P_X6_putsRing m 0 5 v = some (mP m 21 21 v) := rfl
theorem zr_06 {m : mC} : P_X6_ofRing m 0 6 = some (m 21 22) := rfl
theorem zq_06 {m : mC} {v : Int32} : P_X6_putsRing m 0 6 v = some (mP m 21 22 v) := rfl
theorem zr_07 {m : mC} : P_X6_ofRing m 0 7 = some (m 21 23) := rfl
theorem zq_07 {m : mC} {v : Int32} : P_X6_putsRing m 0 7 v = some (mP m 21 23 v) := rfl
theorem zr_10 {m : mC} : P_X6_ofRing m 1 0 = some (m 21 24) := rfl
theorem zq_10 {m : mC} {v : Int32} : P_X6_putsRing m 1 0 v = some (mP m 21 24 v) := rfl
theorem zr_11 {m : mC} : P_X6_ofRing m 1 1 = some (m 21 25) := rfl
theorem zq_11 {m : mC} {v : Int32} : P_X6_putsRing m 1 1 v = some (mP m 21 25 v) := rfl
theorem zr_12 {m : mC} : P_X6_ofRing m 1 2 = some (m 21 26) := rfl
theorem zq_12 {m : mC} {v : Int32} : P_X6_putsRing m 1 2 v = some (mP m 21 26 v) := rfl
theorem zr_13 {m : mC} : P_X6_ofRing m 1 3 = some (m 21 27) := rfl
theorem zq_13 {m : mC} {v : Int32} : P_X6_putsRing m 1 3 v = some (mP m 21 27 v) := rfl
theorem zr_14 {m : mC} : P_X6_ofRing m 1 4 = some (m 21 28) := rfl
theorem zq_14 {m : mC} {v : Int32} : P_X6_putsRing m 1 4 v = some (mP m 21 28 v) := rfl
theorem zr_15 {m : mC} : P_X6_ofRing m 1 5 = some (m 21 29) := rfl
theorem zq_15 {m : mC} {v : Int32} : P_X6_putsRing m 1 5 v = some (mP m 21 29 v) := rfl
theorem zr_16 {m : mC} : P_X6_ofRing m 1 6 = some (m 21 30) := rfl
theorem zq_16 {m : mC} {v : Int32} : P_X6_putsRing m 1 6 v = some (mP m 21 30 v) := rfl
theorem zr_17 {m : mC} : P_X6_ofRing m 1 7 = some (m 21 31) := rfl
theorem zq_17 {m : mC} {v : Int32} : P_X6_putsRing m 1 7 v = some (mP m 21 31 v) := rfl
def ZM (m : mC) : Prop := m 21 0 = 0 ∧ m 21 2 = 0 ∧ m 21 5 = 0 ∧ m 21 6 = 0 ∧ (m 21 16 = -1 ∧ m 21 17 = 3 ∧ m 21 19 = -1) ∧ (m 21 24 = -1 ∧ m 21 25 = 3 ∧ m 21 27 = -1)
theorem mP_rd (c : mC) (j k : Nat) (v : Int32) (j' k' : Nat) : mP c j k v j' k' = if j' = j ∧ k' = k then v else c j' k' := rfl
theorem zm_set {m : mC} {j k : Nat} {v : Int32} (h : ZM m) (hk : j ≠ 21 ∨ (k ≠ 0 ∧ k ≠ 2 ∧ k ≠ 5 ∧ k ≠ 6 ∧ k ≠ 16 ∧ k ≠ 17 ∧ k ≠ 19 ∧ k ≠ 24 ∧ k ≠ 25 ∧ k ≠ 27)) : ZM (mP m j k v) := by
  obtain ⟨h0, h2, h5, h6, ⟨a, b, c⟩, d, e, f⟩ := h
  unfold ZM
  simp only [mP_rd]
  refine ⟨?_, ?_, ?_, ?_, ⟨?_, ?_, ?_⟩, ?_, ?_, ?_⟩ <;> (rw [if_neg (by omega)]; assumption)
section Z
variable {m : mC} (h : ZM m)
theorem zx_hold0 (h : ZM m) : P_X6_isHolding m 0 = some 0 := by
  unfold P_X6_isHolding J_X6_isHolding_24
  rw [zr_00, h.2.2.2.2.1.1]; rfl
theorem zx_hold1 (h : ZM m) : P_X6_isHolding m 1 = some 0 := by
  unfold P_X6_isHolding J_X6_isHolding_24
  rw [zr_10, h.2.2.2.2.2.1]; rfl
theorem zx_green0 (h : ZM m) : P_X6_isGreen m 0 = some 0 := by
  unfold P_X6_isGreen J_X6_isGreen_23
  rw [zr_00, h.2.2.2.2.1.1]; rfl
theorem zx_green1 (h : ZM m) : P_X6_isGreen m 1 = some 0 := by
  unfold P_X6_isGreen J_X6_isGreen_23
  rw [zr_10, h.2.2.2.2.2.1]; rfl
theorem zx_clock (h : ZM m) : P_X6_clockGoes m = some m := by
  unfold P_X6_clockGoes
  rw [zo_2, h.2.1]; rfl
theorem zb_s {α γ : Type} {dz : γ} {x : α} {f : α → γ} : mBo dz (some x) f = f x := rfl
theorem zx_comers (h : ZM m) : P_X6_comers m = some m := by
  unfold P_X6_comers
  rw [mWh_eq tm_X6_comers_2]
  have e : B_X6_comers_2 (0, m) = .inr (some m) := by
    unfold B_X6_comers_2
    dsimp only
    rw [zo_0, h.1]; rfl
  rw [e]
theorem zx_rg0 (h : ZM m) : P_X6_ringGoes m 0 = some m := by
  unfold P_X6_ringGoes
  rw [zx_hold0 h]; rfl
theorem zx_rg1 (h : ZM m) : P_X6_ringGoes m 1 = some m := by
  unfold P_X6_ringGoes
  rw [zx_hold1 h]; rfl
theorem zx_goesOn (h : ZM m) : P_X6_goesOn m = some m := by
  unfold P_X6_goesOn
  rw [mWh_eq tm_X6_goesOn_12]
  have e1 : B_X6_goesOn_12 (0, 0, 1, 0, 0, m) = .inl (0, 0, 1, 0, 1, m) := by
    unfold B_X6_goesOn_12
    dsimp only
    rw [if_neg (by decide), zx_hold0 h]; rfl
  rw [e1]
  dsimp only
  rw [mWh_eq tm_X6_goesOn_12]
  have e2 : B_X6_goesOn_12 (0, 0, 1, 0, 1, m) = .inl (0, 0, 1, 0, 2, m) := by
    unfold B_X6_goesOn_12
    dsimp only
    rw [if_neg (by decide), zx_hold1 h]; rfl
  rw [e2]
  dsimp only
  rw [mWh_eq tm_X6_goesOn_12]
  rfl
theorem zx_becomes (h : ZM m) : P_X6_becomes m = some m := by
  unfold P_X6_becomes
  rw [mWh_eq tm_X6_becomes_2]
  have e1 : B_X6_becomes_2 (0, m) = .inl (1, m) := by
    unfold B_X6_becomes_2
    dsimp only
    rw [if_neg (by decide), zr_03, zr_01, h.2.2.2.2.1.2.1, h.2.2.2.2.1.2.2]; rfl
  rw [e1]
  dsimp only
  rw [mWh_eq tm_X6_becomes_2]
  have e2 : B_X6_becomes_2 (1, m) = .inl (2, m) := by
    unfold B_X6_becomes_2
    dsimp only
    rw [if_neg (by decide), zr_13, zr_11, h.2.2.2.2.2.2.1, h.2.2.2.2.2.2.2]; rfl
  rw [e2]
  dsimp only
  rw [mWh_eq tm_X6_becomes_2]
  rfl
theorem zx_shown (h : ZM m) : P_X6_shown m = some 0 := by
  unfold P_X6_shown
  rw [zo_6, h.2.2.2.1]
  show mWh none (B_X6_shown_9 m) (0, 0) = _
  rw [mWh_eq tm_X6_shown_9]
  have e1 : B_X6_shown_9 m (0, 0) = .inl (0, 1) := by
    unfold B_X6_shown_9
    dsimp only
    rw [if_neg (by decide), zx_hold0 h]; rfl
  rw [e1]
  dsimp only
  rw [mWh_eq tm_X6_shown_9]
  have e2 : B_X6_shown_9 m (0, 1) = .inl (0, 2) := by
    unfold B_X6_shown_9
    dsimp only
    rw [if_neg (by decide), zx_hold1 h]; rfl
  rw [e2]
  dsimp only
  rw [mWh_eq tm_X6_shown_9]
  rfl
theorem zx_peace {s : Int32} (h : ZM m) : P_X6_isPeace m s = some 1 := by
  unfold P_X6_isPeace
  rw [mWh_eq tm_X6_isPeace_2]
  unfold B_X6_isPeace_2
  rw [zo_0, h.1]; rfl
theorem zx_watches (h : ZM m) : P_X6_watches m = some m := by
  unfold P_X6_watches
  rw [zx_shown h, zo_5, h.2.2.1]
  show mBo none (P_X6_isPeace m 0) _ = _
  rw [zx_peace h]; rfl
theorem zx_queues (h : ZM m) : P_X6_queues m = some 0 := by
  unfold P_X6_queues
  rw [mWh_eq tm_X6_queues_4]
  unfold B_X6_queues_4
  dsimp only
  rw [zo_0, h.1]; rfl
theorem zx_bumps (h : ZM m) : mWh none B_X6_ticks_78 (0, m) = some m := by
  rw [mWh_eq tm_X6_ticks_78]
  unfold B_X6_ticks_78
  dsimp only
  rw [zo_0, h.1]; rfl
theorem zx_62 (h : ZM m) : J_X6_ticks_62 m = some (mP m 21 11 (m 21 11 + 0)) := by
  unfold J_X6_ticks_62
  rw [zx_watches h, zb_s, zx_queues h, zb_s, za_11, zb_s]
  exact zx_bumps (zm_set h (Or.inr (by decide)))
theorem zx_staged (h5 : (m 20 5 &&& 1) = 0) : P_X6_staged m = some m := by
  unfold P_X6_staged
  rw [if_pos h5]
/-- a tick without a break that is wanted or has begun -/
theorem zx_tick {x : Int32} (h : ZM m) (h7 : m 21 7 = -1) (h10 : m 21 10 = 0) : ∃ m', P_X6_ticks m x = some m' ∧ ZM m' ∧ m' 21 7 = -1 ∧ m' 21 10 = 0 ∧ m' 21 1 = m 21 1 + 1 ∧ m' 21 11 = m 21 11 ∧ m' 20 4 = m 20 4 ∧ (∀ k, 288 ≤ k → m' 21 k = m 21 k) := by
  have h1 : ZM (mP m 21 1 (m 21 1 + 1)) := zm_set h (Or.inr (by decide))
  have h2 : ZM (mP (mP m 21 1 (m 21 1 + 1)) 20 5 0) := zm_set h1 (Or.inl (by decide))
  have e : P_X6_ticks m x = J_X6_ticks_14 (mP m 21 1 (m 21 1 + 1)) := by
    unfold P_X6_ticks
    rw [za_1, zb_s, zx_comers h1, zb_s]
    split <;> rfl
  have h7' : (mP (mP m 21 1 (m 21 1 + 1)) 20 5 0) 21 7 = -1 := h7
  have h10' : (mP (mP m 21 1 (m 21 1 + 1)) 20 5 0) 21 10 = 0 := h10
  have eb : P_X6_breaks (mP m 21 1 (m 21 1 + 1)) = some (mP (mP m 21 1 (m 21 1 + 1)) 20 5 0) := by
    unfold P_X6_breaks
    rw [zo_7, zb_s, h7', if_neg (by decide)]
    unfold J_X6_breaks_32
    rw [zo_7, zb_s, h7', if_pos rfl, zo_10, zb_s, h10', if_pos rfl]
    unfold J_X6_breaks_73
    rw [zo_7, zb_s, h7', if_pos rfl]
  refine ⟨mP (mP (mP m 21 1 (m 21 1 + 1)) 20 5 0) 21 11 ((mP (mP m 21 1 (m 21 1 + 1)) 20 5 0) 21 11 + 0), ?_, zm_set h2 (Or.inr (by decide)), h7, h10, rfl, ?_, rfl, fun k hk => ?_⟩
  · rw [e]
    unfold J_X6_ticks_14
    rw [zx_clock h1, zb_s, zo_5, zb_s, h1.2.2.1, if_pos rfl, zx_rg0 h1, zb_s, zx_rg1 h1, zb_s, eb, zb_s, zo_7, zb_s, h7', if_pos rfl, zx_goesOn h2, zb_s]
    unfold J_X6_ticks_54
    rw [zx_becomes h2, zb_s, zx_staged (show (0 : Int32) &&& 1 = 0 by decide), zb_s]
    exact zx_62 h2
  · show m 21 11 + 0 = m 21 11
    exact Int32.add_zero _
  · show (if 21 = 21 ∧ k = 11 then _ else (if 21 = 20 ∧ k = 5 then _ else (if 21 = 21 ∧ k = 1 then _ else m 21 k))) = _
    rw [if_neg (by omega), if_neg (by omega), if_neg (by omega)]
end Z
