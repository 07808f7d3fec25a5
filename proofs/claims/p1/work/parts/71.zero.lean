/-! the fresh objects: the class's crossing -/
def ZC (c : mC) : Prop := c 1 0 = 0 ∧ c 1 1 = 0 ∧ c 0 15 = 0 ∧ c 0 10 = 0 ∧ (c 8 1 = -1 ∧ c 8 2 = 3 ∧ c 8 4 = -1) ∧ (c 9 1 = -1 ∧ c 9 2 = 3 ∧ c 9 4 = -1)
theorem zc_set {c : mC} {j k : Nat} {v : Int32} (h : ZC c) (hk : ¬ (j = 1 ∧ k ≤ 1) ∧ ¬ (j = 0 ∧ (k = 15 ∨ k = 10)) ∧ ¬ ((j = 8 ∨ j = 9) ∧ (k = 1 ∨ k = 2 ∨ k = 4))) : ZC (mP c j k v) := by
  obtain ⟨h0, h1, h2, h3, ⟨a, b, d⟩, e, f, g⟩ := h
  unfold ZC
  simp only [mP_rd]
  refine ⟨?_, ?_, ?_, ?_, ⟨?_, ?_, ?_⟩, ?_, ?_, ?_⟩ <;> (rw [if_neg (by omega)]; assumption)
theorem zb_d {α β : Type} {x : α} {f : α → β} : mBd x f = f x := rfl
section ZCS
variable {c : mC}
theorem zd_clock (h : ZC c) : P_X0_moveClock c = c := by
  unfold P_X0_moveClock
  rw [h.2.1, if_neg (by decide)]
theorem zd_age8 (h : ZC c) : P_X0_ageRing 8 c = c := by
  unfold P_X0_ageRing P_X4_holds
  rw [h.2.2.2.2.1.1]; rfl
theorem zd_age9 (h : ZC c) : P_X0_ageRing 9 c = c := by
  unfold P_X0_ageRing P_X4_holds
  rw [h.2.2.2.2.2.1]; rfl
theorem zd_done8 (h : ZC c) : P_X0_isDone 8 c = 0 := by
  unfold P_X0_isDone P_X4_isGreen
  rw [h.2.2.2.2.1.1]; rfl
theorem zd_done9 (h : ZC c) : P_X0_isDone 9 c = 0 := by
  unfold P_X0_isDone P_X4_isGreen
  rw [h.2.2.2.2.2.1]; rfl
theorem zd_hold8 (h : ZC c) : P_X4_holds 8 c = 0 := by
  unfold P_X4_holds
  rw [h.2.2.2.2.1.1, if_pos rfl]
theorem zd_hold9 (h : ZC c) : P_X4_holds 9 c = 0 := by
  unfold P_X4_holds
  rw [h.2.2.2.2.2.1, if_pos rfl]
theorem zd_moveOn (h : ZC c) : P_X0_moveOn c = c := by
  unfold P_X0_moveOn
  simp only [zb_d, zd_done8 h, zd_done9 h]
  rw [if_pos trivial]
  unfold J_X0_moveOn_43 J_X0_moveOn_44
  rw [if_pos rfl]
  unfold J_X0_moveOn_66 J_X0_moveOn_67
  rw [if_pos rfl, if_pos rfl]
  simp only [zb_d, zd_hold8 h, zd_hold9 h]
  rfl
theorem zd_green8 (h : ZC c) : P_X0_turnGreen 8 9 c = c := by
  unfold P_X0_turnGreen
  rw [h.2.2.2.2.1.2.1, if_pos rfl, h.2.2.2.2.1.2.2, if_pos rfl]
theorem zd_green9 (h : ZC c) : P_X0_turnGreen 9 8 c = c := by
  unfold P_X0_turnGreen
  rw [h.2.2.2.2.2.2.1, if_pos rfl, h.2.2.2.2.2.2.2, if_pos rfl]
theorem zd_by8 (h : ZC c) : P_X0_shownBy 8 c = 0 := by
  unfold P_X0_shownBy
  rw [h.2.2.2.2.1.2.1]; rfl
theorem zd_by9 (h : ZC c) : P_X0_shownBy 9 c = 0 := by
  unfold P_X0_shownBy
  rw [h.2.2.2.2.2.2.1]; rfl
theorem zd_shown (h : ZC c) : P_X0_shownSet c = 0 := by
  unfold P_X0_shownSet
  simp only [zb_d, zd_by8 h, zd_by9 h, h.2.2.2.1]
  rfl
theorem zd_foe {s : Int32} (h : ZC c) : P_X2_firstWithFoe c s = -1 := by
  unfold P_X2_firstWithFoe
  rw [mWh_eq tm_X2_firstWithFoe_2]
  unfold B_X2_firstWithFoe_2
  rw [h.1]; rfl
theorem zd_watch (h : ZC c) : P_X0_watch c = c := by
  unfold P_X0_watch
  rw [h.2.2.1, if_pos (by decide)]
  simp only [zb_d, zd_foe h]
  rfl
theorem zd_82 (h : ZC c) : J_X0_passTick_82 c = mP c 0 14 (c 0 14 + mTt 8 (c 14)) := by
  unfold J_X0_passTick_82
  simp only [zb_d, zd_watch h]
theorem zd_58 (h : ZC c) : J_X0_passTick_58 c = mP c 0 14 (c 0 14 + mTt 8 (c 14)) := by
  unfold J_X0_passTick_58
  simp only [zb_d, zd_green8 h, zd_green9 h]
  exact zd_82 h
theorem zd_want (h11 : c 0 11 = 0) : P_X0_beginWanted c = c := by
  unfold P_X0_beginWanted
  rw [h11]
  rfl
theorem zd_breaks (h16 : c 0 16 = -1) (h17 : c 0 17 = 0) (h11 : c 0 11 = 0) : P_X0_moveBreaks c = c := by
  unfold P_X0_moveBreaks
  rw [h16, if_pos rfl, zd_want h11, zb_d]
  unfold J_X0_moveBreaks_52
  rw [h17]; rfl
theorem zd_tick (h : ZC c) (h16 : c 0 16 = -1) (h17 : c 0 17 = 0) (h11 : c 0 11 = 0) : P_X0_passTick c = mP (mP (mP c 0 12 (c 0 12 + 1)) 0 9 0) 0 14 (c 0 14 + mTt 8 (c 14)) := by
  have h1 : ZC (mP c 0 12 (c 0 12 + 1)) := zc_set h (by omega)
  have h2 : ZC (mP (mP c 0 12 (c 0 12 + 1)) 0 9 0) := zc_set h1 (by omega)
  have hb := zd_breaks (c := mP (mP c 0 12 (c 0 12 + 1)) 0 9 0) h16 h17 h11
  unfold P_X0_passTick
  rw [zd_clock h1, zb_d, show (mP c 0 12 (c 0 12 + 1)) 0 15 = 0 from h.2.2.1, if_pos (by decide), zd_age8 h1, zb_d, zd_age9 h1, zb_d, hb, zb_d, show (mP (mP c 0 12 (c 0 12 + 1)) 0 9 0) 0 16 = -1 from h16, if_pos rfl, zd_moveOn h2, zb_d, zd_58 h2]
  rfl
/-- what a quiet crossing is, and after ticks -/
def ZQ (c : mC) : Prop := ZC c ∧ c 0 16 = -1 ∧ c 0 17 = 0 ∧ c 0 11 = 0 ∧ mTt 8 (c 14) = 0 ∧ mTt 8 (c 15) = 0
theorem zq_tick (h : ZQ c) : ZQ (P_X0_passTick c) ∧ P_X0_passTick c 0 12 = c 0 12 + 1 ∧ P_X0_passTick c 0 14 = c 0 14 := by
  obtain ⟨h1, h2, h3, h4, h5, h6⟩ := h
  rw [zd_tick h1 h2 h3 h4, h5]
  refine ⟨⟨zc_set (zc_set (zc_set h1 (by omega)) (by omega)) (by omega), h2, h3, h4, h5, h6⟩, rfl, ?_⟩
  show c 0 14 + 0 = c 0 14
  exact Int32.add_zero _
theorem zq_ticks {n : Int32} (h : ZQ c) : ∀ (k : Nat) (j : Nat), n = nI (j + k) → j + k < 2 ^ 31 → ∀ c, ZQ c → ∃ c', mWh (fun _ _ => 0) (B_X0_passTicks_2 n) (nI j, c) = c' ∧ ZQ c' ∧ c' 0 12 = c 0 12 + nI k ∧ c' 0 14 = c 0 14 := by
  intro k
  induction k with
  | zero =>
    intro j hn hj c hc
    refine ⟨c, ?_, hc, ?_, rfl⟩
    · rw [mWh_eq tm_X0_passTicks_2]
      unfold B_X0_passTicks_2
      dsimp only
      rw [hn, if_pos (show nI (j + 0) ≤ nI j from Int32.le_refl _)]
    · exact (Int32.add_zero _).symm
  | succ k ih =>
    intro j hn hj c hc
    obtain ⟨q1, q2, q3⟩ := zq_tick hc
    obtain ⟨c', e1, e2, e3, e4⟩ := ih (j + 1) (by rw [hn]; congr 1; omega) (by omega) (P_X0_passTick c) q1
    refine ⟨c', ?_, e2, ?_, by rw [e4, q3]⟩
    · rw [mWh_eq tm_X0_passTicks_2]
      have hB : B_X0_passTicks_2 n (nI j, c) = .inl (nI (j + 1), P_X0_passTick c) := by
        unfold B_X0_passTicks_2
        dsimp only
        rw [if_neg (by rw [hn]; exact nI_ge (by omega) (by omega)), zb_d, nI_1]
      rw [hB]
      exact e1
    · rw [e3, q2, Int32.add_assoc]
      congr 1
      have : (1 : Int32) + nI k = nI (1 + k) := nI_add 1 k
      rw [this]
      congr 1
      omega
end ZCS
