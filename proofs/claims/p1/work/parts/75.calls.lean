/-! the fresh objects: a break on paper; an empty text -/
theorem note_o {c : mC} {a b d : Int32} {j : Nat} (h : j ≠ 10 ∧ j ≠ 11 ∧ j ≠ 12 ∧ j ≠ 13) : P_X1_note c a b d j = c j := by
  unfold P_X1_note J_X1_note_46
  simp only [zb_d]
  (repeat' split) <;> simp only [mP_other _ _ _ _ _ h.1, mP_other _ _ _ _ _ h.2.1, mP_other _ _ _ _ _ h.2.2.1, mP_other _ _ _ _ _ h.2.2.2]
theorem zc_note {c : mC} {a b d : Int32} (h : ZC c) : ZC (P_X1_note c a b d) := by
  unfold ZC
  rw [note_o (by decide), note_o (by decide), note_o (by decide), note_o (by decide)]
  exact h
theorem firstIn0 : P_X5_firstIn 0 = -1 := mWh_of (n := 9) (by decide)
theorem and0 (x : Int32) : (0 : Int32) &&& x = 0 := by
  apply Int32.toBitVec_inj.mp
  rw [Int32.toBitVec_and]
  exact BitVec.zero_and
theorem zd_steer8 {c : mC} {x : Int32} (h : ZC c) : P_X0_steer 8 c x = mP c 8 4 x := by
  unfold P_X0_steer P_X4_isGreen J_X4_isGreen_19
  rw [h.2.2.2.2.1.1, if_pos rfl]; rfl
theorem zd_steer9 {c : mC} {x : Int32} (h : ZC c) : P_X0_steer 9 c x = mP c 9 4 x := by
  unfold P_X0_steer P_X4_isGreen J_X4_isGreen_19
  rw [h.2.2.2.2.2.1, if_pos rfl]; rfl
theorem zc_set4 {c : mC} {r : Nat} (h : ZC c) : ZC (mP c r 4 (-1)) := by
  obtain ⟨h0, h1, h2, h3, ⟨a, b, d⟩, e, f, g⟩ := h
  unfold ZC
  simp only [mP_rd]
  refine ⟨?_, ?_, ?_, ?_, ⟨?_, ?_, ?_⟩, ?_, ?_, ?_⟩ <;> (split <;> first | rfl | assumption | omega)
theorem zd_seek {c : mC} (h : ZC c) : ∃ c', P_X0_seek c 0 = c' ∧ ZC c' ∧ c' 0 16 = c 0 16 ∧ c' 0 17 = c 0 17 + 1 := by
  have h1 : ZC (mP c 8 4 (-1)) := zc_set4 h
  have h2 : ZC (mP (mP c 8 4 (-1)) 9 4 (-1)) := zc_set4 h1
  refine ⟨mP (mP (mP (mP c 8 4 (-1)) 9 4 (-1)) 0 17 ((mP (mP c 8 4 (-1)) 9 4 (-1)) 0 17 + 1)) 0 18 0, ?_, zc_set (zc_set h2 (by omega)) (by omega), rfl, rfl⟩
  unfold P_X0_seek
  simp only [zb_d, and0, firstIn0, zd_steer8 h, zd_steer9 h1, zd_green8 h2, zd_green9 h2]
  have i8 : P_X0_isThere 8 (mP (mP c 8 4 (-1)) 9 4 (-1)) (-1) = 1 := by
    unfold P_X0_isThere J_X0_isThere_20
    rw [h2.2.2.2.2.1.1]; rfl
  have i9 : P_X0_isThere 9 (mP (mP c 8 4 (-1)) 9 4 (-1)) (-1) = 1 := by
    unfold P_X0_isThere J_X0_isThere_20
    rw [h2.2.2.2.2.2.1]; rfl
  rw [i8, i9, if_neg (by decide), if_neg (by decide)]
theorem zd_begin {c : mC} {x : Int32} (h : ZC c) (hb : ∀ k, c 6 k = 0) : ∃ c', P_X0_beginBreak c x = c' ∧ ZC c' ∧ c' 0 16 = x ∧ c' 0 17 = 3 ∧ (∀ k, c' 6 k = 0) := by
  have e : P_X2_breakOf (mP c 0 16 x) x 0 = 0 := by
    unfold P_X2_breakOf cl
    rw [zb_d]
    split
    · rfl
    · exact hb _
  refine ⟨P_X1_note (mP (mP (mP c 0 16 x) 0 17 3) 0 18 0) 2 ((mP (mP (mP c 0 16 x) 0 17 3) 0 18 0) 0 12) x, ?_, zc_note (zc_set (zc_set (zc_set h (by omega)) (by omega)) (by omega)), ?_, ?_, fun k => ?_⟩
  · unfold P_X0_beginBreak J_X0_beginBreak_23
    rw [e, zb_d, if_pos rfl]
    rfl
  · rw [note_o (by decide)]; rfl
  · rw [note_o (by decide)]; rfl
  · rw [note_o (by decide)]; exact hb k
theorem zd_tickB {c : mC} {x : Int32} (h : ZC c) (h16 : c 0 16 = -1) (hb : ∀ k, c 6 k = 0) (hx : (x = 0 ∧ c 0 11 = 1) ∨ (x = 1 ∧ c 0 11 = 2)) : P_X0_passTick c 0 16 = x ∧ P_X0_passTick c 0 17 = 4 := by
  have h1 : ZC (mP c 0 12 (c 0 12 + 1)) := zc_set h (by omega)
  have h2 : ZC (mP (mP c 0 12 (c 0 12 + 1)) 0 9 0) := zc_set h1 (by omega)
  have hm : ∃ c', P_X0_moveBreaks (mP (mP c 0 12 (c 0 12 + 1)) 0 9 0) = c' ∧ ZC c' ∧ c' 0 16 = x ∧ c' 0 17 = 4 := by
    obtain ⟨c3, e3, z3, b3, s3, k3⟩ := zd_begin (x := x) h2 hb
    obtain ⟨c4, e4, z4, b4, s4⟩ := zd_seek z3
    refine ⟨c4, ?_, z4, b4.trans b3, by rw [s4, s3]; decide⟩
    have ew : P_X0_beginWanted (mP (mP c 0 12 (c 0 12 + 1)) 0 9 0) = c3 := by
      unfold P_X0_beginWanted
      rcases hx with ⟨rfl, hw⟩ | ⟨rfl, hw⟩
      · rw [show (mP (mP c 0 12 (c 0 12 + 1)) 0 9 0) 0 11 = 1 from hw, show P_X5_inSet 1 0 = 1 from by decide, zb_d, if_neg (by decide), zb_d]
        exact e3
      · rw [show (mP (mP c 0 12 (c 0 12 + 1)) 0 9 0) 0 11 = 2 from hw, show P_X5_inSet 2 0 = 0 from by decide, zb_d, if_pos rfl, show P_X5_inSet 2 1 = 1 from by decide, zb_d, if_neg (by decide), zb_d]
        exact e3
    unfold P_X0_moveBreaks
    rw [show (mP (mP c 0 12 (c 0 12 + 1)) 0 9 0) 0 16 = -1 from h16, if_pos rfl, ew, zb_d]
    unfold J_X0_moveBreaks_52
    have eb : P_X2_breakOf c3 (c3 0 16) 2 = 0 := by
      unfold P_X2_breakOf cl
      rw [zb_d]
      split
      · rfl
      · exact k3 _
    rw [s3, if_neg (by decide), if_neg (by decide), if_pos rfl, eb, zb_d, zb_d]
    exact e4
  obtain ⟨c5, e5, z5, b5, s5⟩ := hm
  have ht : P_X0_passTick c = mP c5 0 14 (c5 0 14 + mTt 8 (c5 14)) := by
    unfold P_X0_passTick
    rw [zd_clock h1, zb_d, show (mP c 0 12 (c 0 12 + 1)) 0 15 = 0 from h.2.2.1, if_pos (by decide), zd_age8 h1, zb_d, zd_age9 h1, zb_d, e5, zb_d, b5, if_neg (by rcases hx with ⟨rfl, _⟩ | ⟨rfl, _⟩ <;> decide)]
    exact zd_58 z5
  rw [ht]
  exact ⟨b5, s5⟩
theorem zd_broken {x : Int32} (hx : x = 0 ∨ x = 1) : (P_X5_broken g1 x).1 = 1 ∧ (P_X5_broken g1 x).2 7 = zM2 := by
  have hb : P_X5_isBreak x = 1 := by rcases hx with rfl | rfl <;> rfl
  unfold P_X5_broken
  rw [hb, zb_d, if_neg (by decide), zb_d, zb_d]
  generalize hc : mP ((mU g1 1 (P_X0_takeFrom (g1 1) (g1 0))) 1) 0 11 ((mU g1 1 (P_X0_takeFrom (g1 1) (g1 0))) 1 0 11 ||| P_X5_bit x) = c
  have hz : ZC c := by rw [← hc]; exact zc_set sp0_Q.1 (by omega)
  have h16 : c 0 16 = -1 := by rw [← hc]; rfl
  have h17 : c 0 17 = 0 := by rw [← hc]; rfl
  have h6 : ∀ k, c 6 k = 0 := fun k => by
    rw [← hc]
    show P_X0_takeFrom (g1 1) (g1 0) 6 k = 0
    show (if k < 10 then (0 : Int32) else 0) = 0
    split <;> rfl
  have hw : (x = 0 ∧ c 0 11 = 1) ∨ (x = 1 ∧ c 0 11 = 2) := by
    rcases hx with rfl | rfl
    · exact Or.inl ⟨rfl, by rw [← hc]; rfl⟩
    · exact Or.inr ⟨rfl, by rw [← hc]; rfl⟩
  obtain ⟨t1, t2⟩ := zd_tickB hz h16 h6 hw
  generalize hg : mU g1 1 (P_X0_takeFrom (g1 1) (g1 0)) = g
  have hg7 : g 7 = zM2 := by rw [← hg]; rfl
  have e : P_X5_ticksUntil (mU g 1 c) 4 x = (1, (P_X5_answer (mU (mU g 1 c) 1 (P_X0_passTick c)) 1).2) := by
    unfold P_X5_ticksUntil
    rw [mWh_eq tm_X5_ticksUntil_2]
    have hB : B_X5_ticksUntil_2 4 x (0, mU g 1 c) = .inl (1, mU (mU g 1 c) 1 (P_X0_passTick c)) := by
      unfold B_X5_ticksUntil_2 P_X0_hasReached J_X0_hasReached_85 J_X5_ticksUntil_40
      dsimp only
      rw [if_neg (by decide), mU_same, h16]
      simp only [zb_d, if_true, if_neg (show ¬ (4 : Int32) = 2 by decide), if_neg (show ¬ (4 : Int32) = 3 by decide), if_neg (show ¬ (-1 : Int32) = x by rcases hx with rfl | rfl <;> decide), if_neg (show ¬ (4 : Int32) = 1 by decide)]
      rfl
    rw [hB]
    dsimp only
    rw [mWh_eq tm_X5_ticksUntil_2]
    have hB2 : B_X5_ticksUntil_2 4 x (1, mU (mU g 1 c) 1 (P_X0_passTick c)) = .inr (1, (P_X5_answer (mU (mU g 1 c) 1 (P_X0_passTick c)) 1).2) := by
      unfold B_X5_ticksUntil_2 P_X0_hasReached J_X0_hasReached_81
      dsimp only
      rw [if_neg (by decide), mU_same, t1, t2]
      simp only [zb_d, if_true, if_neg (show ¬ (4 : Int32) = 2 by decide), if_neg (show ¬ (4 : Int32) = 3 by decide), if_neg (show ¬ (1 : Int32) = 0 by decide)]
      rfl
    rw [hB2]
  rw [e]
  exact ⟨rfl, hg7⟩
/-! the reference's break on paper -/
theorem zx_goal {m : mC} {r : Int32} (h : ZM m) (h7 : m 21 7 = 0 ∨ m 21 7 = 1) (h8 : m 21 8 = 3) (hb : ∀ k, 176 ≤ k → k < 186 → m 21 k = 0) : P_X6_goal m r = some (-1) := by
  unfold P_X6_goal J_X6_goal_22
  rw [zo_7, zb_s, zo_8, zb_s, h8, if_pos (by decide)]
  have e : P_X6_ofBreak m (m 21 7) 2 = some 0 := by
    rcases h7 with h7 | h7
    · rw [h7]
      show some (m 21 178) = _
      rw [hb 178 (by decide) (by decide)]
    · rw [h7]
      show some (m 21 183) = _
      rw [hb 183 (by decide) (by decide)]
  rw [e, zb_s, mWh_eq tm_X6_goal_28]
  have e2 : B_X6_goal_28 m r 0 0 = .inr (some (-1)) := by
    unfold B_X6_goal_28
    rw [zo_0, zb_s, h.1, if_pos (by decide)]
  rw [e2]
theorem zm_set4 {m : mC} (h : ZM m) : ZM (mP m 21 19 (-1)) ∧ ZM (mP m 21 27 (-1)) := by
  obtain ⟨h0, h2, h5, h6, ⟨a, b, c⟩, d, e, f⟩ := h
  exact ⟨⟨h0, h2, h5, h6, ⟨a, b, rfl⟩, d, e, f⟩, ⟨h0, h2, h5, h6, ⟨a, b, c⟩, d, e, rfl⟩⟩
theorem zx_goesTo0 {m : mC} (h : ZM m) (h7 : m 21 7 = 0 ∨ m 21 7 = 1) (h8 : m 21 8 = 3) (hb : ∀ k, 176 ≤ k → k < 186 → m 21 k = 0) : P_X6_goesTo m 0 = some (mP m 21 19 (-1)) := by
  unfold P_X6_goesTo
  rw [zx_goal h h7 h8 hb, zb_s, zx_green0 h, zb_s, if_pos rfl, zq_03]
  rfl
theorem zx_goesTo1 {m : mC} (h : ZM m) (h7 : m 21 7 = 0 ∨ m 21 7 = 1) (h8 : m 21 8 = 3) (hb : ∀ k, 176 ≤ k → k < 186 → m 21 k = 0) : P_X6_goesTo m 1 = some (mP m 21 27 (-1)) := by
  unfold P_X6_goesTo
  rw [zx_goal h h7 h8 hb, zb_s, zx_green1 h, zb_s, if_pos rfl, zq_13]
  rfl
def hp47 (c : mC) (a b : Int32) : mC := mP (mP (mP (mP c 21 192 a) 21 193 (c 21 1)) 21 194 b) 21 12 1
theorem zx_happens {c : mC} {a b : Int32} (h : c 21 12 = 0) : P_X6_happens c a b = some (hp47 c a b) := by
  unfold P_X6_happens J_X6_happens_47
  simp only [zo_12, zb_s, h]
  rw [if_neg (by decide)]
  show mBo none (some (mP c 21 192 a)) _ = _
  rw [zb_s]
  show mBo none (some ((mP c 21 192 a) 21 1)) _ = _
  rw [zb_s]
  show mBo none (some (mP (mP c 21 192 a) 21 193 (c 21 1))) _ = _
  rw [zb_s]
  show mBo none (some (mP (mP (mP c 21 192 a) 21 193 (c 21 1)) 21 194 b)) _ = _
  rw [zb_s]
  show mBo none (some (mP (mP (mP (mP c 21 192 a) 21 193 (c 21 1)) 21 194 b) 21 12 (c 21 12 + 1))) _ = _
  rw [zb_s, h]
  rfl
def bkB (m : mC) (x : Int32) : mC := hp47 (mP (mP (mP m 21 7 x) 21 8 3) 21 9 0) 2 x
theorem zx_tickB {m : mC} {x : Int32} (h : ZM m) (h7 : m 21 7 = -1) (h12 : m 21 12 = 0) (hb : ∀ k, 176 ≤ k → k < 186 → m 21 k = 0) (hx : (x = 0 ∧ m 21 10 = 1) ∨ (x = 1 ∧ m 21 10 = 2)) : ∃ m', P_X6_ticks m 0 = some m' ∧ m' 21 7 = x ∧ m' 21 8 = 4 ∧ (∀ k, 288 ≤ k → m' 21 k = m 21 k) := by
  have hx2 : x = 0 ∨ x = 1 := by rcases hx with ⟨h, _⟩ | ⟨h, _⟩ <;> simp [h]
  have h1 : ZM (mP m 21 1 (m 21 1 + 1)) := zm_set h (Or.inr (by decide))
  generalize hm1 : mP m 21 1 (m 21 1 + 1) = m1 at h1
  have a7 : m1 21 7 = -1 := by rw [← hm1]; exact h7
  have a12 : m1 21 12 = 0 := by rw [← hm1]; exact h12
  have ab : ∀ k, 176 ≤ k → k < 186 → m1 21 k = 0 := fun k k1 k2 => by
    rw [← hm1]
    show (if 21 = 21 ∧ k = 1 then _ else m 21 k) = 0
    rw [if_neg (by omega)]
    exact hb k k1 k2
  have ax : (x = 0 ∧ m1 21 10 = 1) ∨ (x = 1 ∧ m1 21 10 = 2) := by rw [← hm1]; exact hx
  have hb9 : ∀ k, 288 ≤ k → m1 21 k = m 21 k := fun k hk => by
    rw [← hm1]
    show (if 21 = 21 ∧ k = 1 then _ else m 21 k) = _
    rw [if_neg (by omega)]
  -- the break begins
  have h2 : ZM (mP m1 20 5 0) := zm_set h1 (Or.inl (by decide))
  generalize hm2 : mP m1 20 5 0 = m2 at h2
  have b7 : m2 21 7 = -1 := by rw [← hm2]; exact a7
  have b12 : m2 21 12 = 0 := by rw [← hm2]; exact a12
  have bb : ∀ k, 176 ≤ k → k < 186 → m2 21 k = 0 := fun k k1 k2 => by rw [← hm2]; exact ab k k1 k2
  have bx : (x = 0 ∧ m2 21 10 = 1) ∨ (x = 1 ∧ m2 21 10 = 2) := by rw [← hm2]; exact ax
  have b9 : ∀ k, 288 ≤ k → m2 21 k = m1 21 k := fun k hk => by rw [← hm2]; rfl
  have h3 : ZM (bkB m2 x) := by
    unfold bkB hp47
    exact zm_set (zm_set (zm_set (zm_set (zm_set (zm_set (zm_set h2 (Or.inr (by decide))) (Or.inr (by decide))) (Or.inr (by decide))) (Or.inr (by decide))) (Or.inr (by decide))) (Or.inr (by decide))) (Or.inr (by decide))
  have eb : P_X6_breakBegins m2 x = some (bkB m2 x) := by
    unfold P_X6_breakBegins J_X6_breakBegins_22 P_X6_isStage
    rw [zp_7, zb_s]
    have e : P_X6_ofBreak (mP m2 21 7 x) x 0 = some 0 := by
      rcases hx2 with rfl | rfl
      · show some (m2 21 176) = _
        rw [bb 176 (by decide) (by decide)]
      · show some (m2 21 181) = _
        rw [bb 181 (by decide) (by decide)]
    rw [e, zb_s, if_pos rfl, zp_8, zb_s, zp_9, zb_s, zb_s, zx_happens (show (mP (mP (mP m2 21 7 x) 21 8 3) 21 9 0) 21 12 = 0 from b12), zb_s]
    rfl
  generalize hm3 : bkB m2 x = m3 at h3 eb
  have c7 : m3 21 7 = x := by rw [← hm3]; rfl
  have c8 : m3 21 8 = 3 := by rw [← hm3]; rfl
  have cb : ∀ k, 176 ≤ k → k < 186 → m3 21 k = 0 := fun k k1 k2 => by
    rw [← hm3]
    unfold bkB hp47
    simp only [mP_rd]
    rw [if_neg (by omega), if_neg (by omega), if_neg (by omega), if_neg (by omega), if_neg (by omega), if_neg (by omega), if_neg (by omega)]
    exact bb k k1 k2
  have c9 : ∀ k, 288 ≤ k → m3 21 k = m2 21 k := fun k hk => by
    rw [← hm3]
    unfold bkB hp47
    simp only [mP_rd]
    rw [if_neg (by omega), if_neg (by omega), if_neg (by omega), if_neg (by omega), if_neg (by omega), if_neg (by omega), if_neg (by omega)]
  -- it is gone to
  have h4 : ZM (mP m3 20 5 1) := zm_set h3 (Or.inl (by decide))
  have d7 : (mP m3 20 5 1) 21 7 = 0 ∨ (mP m3 20 5 1) 21 7 = 1 := by
    rw [show (mP m3 20 5 1) 21 7 = x from c7]; exact hx2
  have d8 : (mP m3 20 5 1) 21 8 = 3 := c8
  have db : ∀ k, 176 ≤ k → k < 186 → (mP m3 20 5 1) 21 k = 0 := cb
  have g0 := zx_goesTo0 h4 d7 d8 db
  have h5 := (zm_set4 h4).1
  have g1' := zx_goesTo1 (m := mP (mP m3 20 5 1) 21 19 (-1)) h5 d7 d8 (fun k k1 k2 => by
    show (if 21 = 21 ∧ k = 19 then _ else _) = (0 : Int32)
    rw [if_neg (by omega)]
    exact db k k1 k2)
  have h6 := (zm_set4 h5).2
  generalize hm6 : mP (mP (mP m3 20 5 1) 21 19 (-1)) 21 27 (-1) = m6 at h6 g1'
  have f7 : m6 21 7 = x := by rw [← hm6]; exact c7
  have f8 : m6 21 8 = 3 := by rw [← hm6]; exact c8
  have f5 : m6 20 5 = 1 := by rw [← hm6]; rfl
  have fb : ∀ k, 176 ≤ k → k < 186 → m6 21 k = 0 := fun k k1 k2 => by
    rw [← hm6]
    simp only [mP_rd]
    rw [if_neg (by omega), if_neg (by omega), if_neg (by omega)]
    exact cb k k1 k2
  have f9 : ∀ k, 288 ≤ k → m6 21 k = m3 21 k := fun k hk => by
    rw [← hm6]
    simp only [mP_rd]
    rw [if_neg (by omega), if_neg (by omega), if_neg (by omega)]
  have xm1 : ¬ x = -1 := by rcases hx2 with rfl | rfl <;> decide
  have ebr : P_X6_breaks m1 = some m6 := by
    unfold P_X6_breaks
    rw [hm2, zo_7, zb_s, b7, if_neg (by decide)]
    unfold J_X6_breaks_32
    have ex : P_X6_breakBegins m2 (if P_X6_has (m2 21 10) 0 = 0 then 1 else 0) = some m3 := by
      rcases bx with ⟨rfl, hw⟩ | ⟨rfl, hw⟩
      · rw [hw, show (if P_X6_has 1 0 = 0 then (1 : Int32) else 0) = 0 from by decide]; exact eb
      · rw [hw, show (if P_X6_has 2 0 = 0 then (1 : Int32) else 0) = 1 from by decide]; exact eb
    have hn : ¬ m2 21 10 = 0 := by rcases bx with ⟨_, hw⟩ | ⟨_, hw⟩ <;> (rw [hw]; decide)
    rw [zo_7, zb_s, b7, if_pos rfl, zo_10, zb_s, if_neg hn, zb_s, zb_d]
    have e70 : (if P_X6_has (m2 21 10) 0 = 0 then J_X6_breaks_70 m2 1 else J_X6_breaks_70 m2 0) = J_X6_breaks_70 m2 (if P_X6_has (m2 21 10) 0 = 0 then 1 else 0) := by
      split <;> rfl
    rw [e70]
    unfold J_X6_breaks_70
    rw [ex, zb_s]
    unfold J_X6_breaks_73
    rw [zo_7, zb_s, c7, if_neg xm1, zo_8, zb_s, c8, if_neg (by decide), zb_s, if_pos rfl]
    unfold J_X6_breaks_105 J_X6_breaks_110
    rw [if_pos (by decide), show ((mP m3 20 5 1) 20 5 &&& 1) = 1 from by show (1 : Int32) &&& 1 = 1; decide, if_neg (by decide), g0, zb_s, g1', zb_s]
  have est : P_X6_staged m6 = some (mP (mP m6 21 8 (3 + 1)) 21 9 0) := by
    unfold P_X6_staged
    rw [f5, if_neg (by decide), zo_7, zb_s, f7, if_neg xm1]
    have gg : ∀ r, P_X6_goal m6 r = some (-1) := fun r => zx_goal h6 (by rw [f7]; exact hx2) f8 fb
    rw [mWh_eq tm_X6_staged_20]
    have e1 : B_X6_staged_20 m6 0 = .inl 1 := by
      unfold B_X6_staged_20 J_X6_staged_68
      rw [if_neg (by decide), gg, zb_s, if_pos rfl, zr_00, zb_s, h6.2.2.2.2.1.1, if_pos rfl]
      rfl
    rw [e1]
    dsimp only
    rw [mWh_eq tm_X6_staged_20]
    have e2 : B_X6_staged_20 m6 1 = .inl 2 := by
      unfold B_X6_staged_20 J_X6_staged_68
      rw [if_neg (by decide), gg, zb_s, if_pos rfl, zr_10, zb_s, h6.2.2.2.2.2.1, if_pos rfl]
      rfl
    rw [e2]
    dsimp only
    rw [mWh_eq tm_X6_staged_20]
    have e3 : B_X6_staged_20 m6 2 = .inr (some (mP (mP m6 21 8 (3 + 1)) 21 9 0)) := by
      unfold B_X6_staged_20 P_X6_isStage
      rw [if_pos (by decide), zo_8, zb_s, f8, zp_8, zb_s, zp_9, zb_s, zb_s]
    rw [e3]
  have h7' : ZM (mP (mP m6 21 8 (3 + 1)) 21 9 0) := zm_set (zm_set h6 (Or.inr (by decide))) (Or.inr (by decide))
  refine ⟨mP (mP (mP m6 21 8 (3 + 1)) 21 9 0) 21 11 ((mP (mP m6 21 8 (3 + 1)) 21 9 0) 21 11 + 0), ?_, f7, by show (3 : Int32) + 1 = 4; decide, fun k hk => ?_⟩
  · unfold P_X6_ticks
    rw [za_1, hm1, zb_s, if_pos rfl]
    unfold J_X6_ticks_14
    rw [zx_clock h1, zb_s, zo_5, zb_s, h1.2.2.1, if_pos rfl, zx_rg0 h1, zb_s, zx_rg1 h1, zb_s, ebr, zb_s, zo_7, zb_s, f7, if_neg xm1]
    unfold J_X6_ticks_54
    rw [zx_becomes h6, zb_s, est, zb_s]
    exact zx_62 h7'
  · simp only [mP_rd]
    rw [if_neg (by omega), if_neg (by omega), if_neg (by omega), f9 k hk, c9 k hk, b9 k hk, hb9 k hk]
theorem zx_broken {x : Int32} (hx : x = 0 ∨ x = 1) : ∃ c', P_X6_broken zM2 x = some (1, c') := by
  have hf : P_X6_isFrom x 0 1 = 1 := by rcases hx with rfl | rfl <;> rfl
  unfold P_X6_broken P_X6_reaches
  rw [hf, zb_d, if_neg (by decide), show P_X6_copies zM2 0 288 = some (cpC zM2 0 288 288) from copies_eq zM2 (a := 0) (b := 288) (by decide) (by decide) (by decide), zb_s, if_neg (by decide)]
  unfold J_X6_reaches_26 J_X6_reaches_47
  rw [if_pos rfl, zo_10, zb_s, zp_10, zb_s]
  generalize hc : mP (cpC zM2 0 288 288) 21 10 (cpC zM2 0 288 288 21 10 ||| (1 : Int32) <<< (x &&& 31)) = m
  have hz : ZM m := by
    rw [← hc]
    exact zm_set (⟨rfl, rfl, rfl, rfl, ⟨rfl, rfl, rfl⟩, rfl, rfl, rfl⟩ : ZM (cpC zM2 0 288 288)) (Or.inr (by decide))
  have h7 : m 21 7 = -1 := by rw [← hc]; rfl
  have h12 : m 21 12 = 0 := by rw [← hc]; rfl
  have hb : ∀ k, 176 ≤ k → k < 186 → m 21 k = 0 := fun k k1 k2 => by
    rw [← hc]
    simp only [mP_rd]
    rw [if_neg (by omega)]
    unfold cpC
    rw [if_neg (by omega)]
    unfold zM2 st0 clR clK zM1 zC
    simp only [mP_rd]
    repeat (first | rw [if_neg (by omega)] | rw [if_pos (by omega)])
    rw [if_pos ⟨trivial, by omega⟩]
  have hw : (x = 0 ∧ m 21 10 = 1) ∨ (x = 1 ∧ m 21 10 = 2) := by
    rcases hx with rfl | rfl
    · exact Or.inl ⟨rfl, by rw [← hc]; rfl⟩
    · exact Or.inr ⟨rfl, by rw [← hc]; rfl⟩
  obtain ⟨m', e1, e2, e3, e4⟩ := zx_tickB hz h7 h12 hb hw
  have xm1 : ¬ (-1 : Int32) = x := by rcases hx with rfl | rfl <;> decide
  have r0 : P_X6_isReached m 4 x = some 0 := by
    unfold P_X6_isReached J_X6_isReached_103
    rw [if_neg (by decide), if_neg (by decide), if_neg (by decide), if_neg (by decide), zo_7, zb_s, h7, if_neg xm1]
  have r1 : P_X6_isReached m' 4 x = some 1 := by
    unfold P_X6_isReached J_X6_isReached_99
    rw [if_neg (by decide), if_neg (by decide), if_neg (by decide), if_neg (by decide), zo_7, zb_s, e2, if_pos rfl, zo_8, zb_s, e3, if_neg (by decide), zb_s, if_pos rfl]
  rw [mWh_eq tm_X6_reaches_49]
  have hB : B_X6_reaches_49 4 x (0, m) = .inl (1, m') := by
    unfold B_X6_reaches_49 J_X6_reaches_75
    dsimp only
    rw [if_neg (by decide), r0, zb_s, if_pos rfl, if_neg (by decide), e1, zb_s]
    rfl
  rw [hB]
  dsimp only
  rw [mWh_eq tm_X6_reaches_49]
  have hB2 : ∃ c', B_X6_reaches_49 4 x (1, m') = .inr (some (1, c')) := by
    unfold B_X6_reaches_49 J_X6_reaches_86
    dsimp only
    rw [if_neg (by decide), r1, zb_s, if_neg (by decide), zb_s, show P_X6_copies m' 288 0 = some (cpC m' 288 0 288) from copies_eq _ (a := 288) (b := 0) (by decide) (by decide) (by decide), zb_s, if_neg (by decide)]
    exact ⟨_, rfl⟩
  obtain ⟨c', e⟩ := hB2
  rw [e]
  exact ⟨_, rfl⟩
theorem zk_30 (a : Nat → Int32) : ∃ w g2, lwR_30 g1 a = some ((w, w), g2) := by
  unfold lwR_30
  generalize a 1 = x
  rcases rng_n (x := x) (n := 1) (by decide) with ⟨k, hk, rfl⟩ | h
  · have hx : nI k = 0 ∨ nI k = 1 := by
      have : k = 0 ∨ k = 1 := by omega
      rcases this with rfl | rfl
      · exact Or.inl rfl
      · exact Or.inr rfl
    exact zk_of2 (p := P_X5_broken g1 (nI k)) (f := fun c => P_X6_broken c (nI k)) (zd_broken hx) (zx_broken hx)
  · refine zk_of2 (p := P_X5_broken g1 x) (f := fun c => P_X6_broken c x) (V := -1) ?_ ?_
    · unfold P_X5_broken
      rw [isBreak_out h]
      exact ⟨rfl, rfl⟩
    · show ∃ c', P_X6_broken zM2 x = _
      unfold P_X6_broken
      rw [isFrom_out (n := 1) h]
      exact ⟨_, rfl⟩
