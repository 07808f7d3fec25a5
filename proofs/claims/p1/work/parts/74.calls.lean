/-! the fresh objects: ticks, runs, paper -/
theorem zx_tloop {n : Int32} : ∀ (k j : Nat), n = nI (j + k) → j + k < 2 ^ 31 → ∀ c : mC, ZM c → c 21 7 = -1 → c 21 10 = 0 → ∃ c', mWh none (B_X6_tick_19 n) (nI j, c) = some (c 21 1 + nI k, c') := by
  intro k
  induction k with
  | zero =>
    intro j hn hj c h h7 h10
    rw [mWh_eq tm_X6_tick_19]
    have hB : B_X6_tick_19 n (nI j, c) = .inr (some (c 21 1, mP c 20 1 0)) := by
      unfold B_X6_tick_19
      dsimp only
      rw [hn, if_pos (show nI (j + 0) ≤ nI j from Int32.le_refl _), zo_1]
      rfl
    rw [hB]
    exact ⟨_, congrArg some (Prod.ext (Int32.add_zero _).symm rfl)⟩
  | succ k ih =>
    intro j hn hj c h h7 h10
    obtain ⟨c1, e1, e2, e3, e4, e5, -⟩ := zx_tick (x := 0) h h7 h10
    obtain ⟨c', e⟩ := ih (j + 1) (by rw [hn]; congr 1; omega) (by omega) c1 e2 e3 e4
    refine ⟨c', ?_⟩
    rw [mWh_eq tm_X6_tick_19]
    have hB : B_X6_tick_19 n (nI j, c) = .inl (nI (j + 1), c1) := by
      unfold B_X6_tick_19
      dsimp only
      rw [if_neg (by rw [hn]; exact nI_ge (by omega) (by omega)), e1, zb_s, nI_1]
    rw [hB]
    dsimp only
    rw [e, e5, Int32.add_assoc]
    have : (1 : Int32) + nI k = nI (k + 1) := by rw [show (1 : Int32) = nI 1 from rfl, nI_add, Nat.add_comm]
    rw [this]
theorem isFrom_1 {x n : Int32} : P_X6_isFrom x 1 n = if x < 1 then 0 else if n < x then 0 else 1 := rfl
theorem zk_20 (a : Nat → Int32) : ∃ w g2, lwR_20 g1 a = some ((w, w), g2) := by
  unfold lwR_20
  generalize a 1 = x
  by_cases h1 : x < 1
  · refine zk_of2 (p := P_X5_tick g1 x) (f := fun c => P_X6_tick c x) (V := -1) ?_ ?_
    · unfold P_X5_tick J_X5_tick_12
      rw [if_pos h1]; exact ⟨rfl, rfl⟩
    · show ∃ c', P_X6_tick zM2 x = _
      unfold P_X6_tick
      rw [isFrom_1, if_pos h1, zb_d, if_pos rfl]; exact ⟨_, rfl⟩
  · by_cases h2 : x ≤ 300
    · obtain ⟨N, hN, rfl⟩ := nI_of (fun z => h1 (Int32.lt_trans z (by decide)))
      refine zk_of2 (p := P_X5_tick g1 (nI N)) (f := fun c => P_X6_tick c (nI N)) (V := 0 + nI N) ?_ ?_
      · unfold P_X5_tick
        rw [if_neg h1, if_pos h2]
        obtain ⟨c', e1, e2, e3, e4⟩ := zq_ticks (n := nI N) g1_Q N 0 (by rw [Nat.zero_add]) (by omega) (g1 0) g1_Q
        have e : P_X0_passTicks (g1 0) (nI N) = c' := e1
        rw [e]
        exact ⟨e3, rfl⟩
      · show ∃ c', P_X6_tick zM2 (nI N) = _
        unfold P_X6_tick
        rw [isFrom_1, if_neg h1, if_neg (Int32.not_lt.mpr h2), zb_d, if_neg (by decide)]
        exact zx_tloop N 0 (by rw [Nat.zero_add]) (by omega) zM2 zM2_Z rfl rfl
    · refine zk_of2 (p := P_X5_tick g1 x) (f := fun c => P_X6_tick c x) (V := -1) ?_ ?_
      · unfold P_X5_tick J_X5_tick_12
        rw [if_neg h1, if_neg h2]; exact ⟨rfl, rfl⟩
      · show ∃ c', P_X6_tick zM2 x = _
        unfold P_X6_tick
        rw [isFrom_1, if_neg h1, if_pos (Int32.not_le.mp h2), zb_d, if_pos rfl]; exact ⟨_, rfl⟩
theorem zx_rloop {n : Int32} : ∀ (k j : Nat), n = nI (j + k) → j + k < 2 ^ 31 → ∀ c : mC, ZM c → c 21 7 = -1 → c 21 10 = 0 → ∃ c', mWh none (B_X6_run_40 n) (nI j, c) = some (c 20 4, c') := by
  intro k
  induction k with
  | zero =>
    intro j hn hj c h h7 h10
    rw [mWh_eq tm_X6_run_40]
    have hB : B_X6_run_40 n (nI j, c) = .inr (some (c 20 4, mP c 20 1 0)) := by
      unfold B_X6_run_40
      dsimp only
      rw [hn, if_pos (show nI (j + 0) ≤ nI j from Int32.le_refl _)]
      rfl
    rw [hB]
    exact ⟨_, rfl⟩
  | succ k ih =>
    intro j hn hj c h h7 h10
    obtain ⟨c1, e1, e2, e3, e4, e5, e6, e7, -⟩ := zx_tick (x := 1) h h7 h10
    obtain ⟨c', e⟩ := ih (j + 1) (by rw [hn]; congr 1; omega) (by omega) c1 e2 e3 e4
    refine ⟨c', ?_⟩
    rw [mWh_eq tm_X6_run_40]
    have hB : B_X6_run_40 n (nI j, c) = .inl (nI (j + 1), c1) := by
      unfold B_X6_run_40
      dsimp only
      rw [if_neg (by rw [hn]; exact nI_ge (by omega) (by omega)), e1, zb_s, nI_1]
    rw [hB]
    dsimp only
    rw [e, e7]
theorem zd_comers {c : mC} {s : Int32} (h : c 1 0 = 0) : ∃ t, P_X0_takeComers c s = (t, c) := by
  unfold P_X0_takeComers
  rw [mWh_eq tm_X0_takeComers_6]
  have e : B_X0_takeComers_6 (s.toInt64, 0, c) = .inr (s.toInt64.toInt32, c) := by
    unfold B_X0_takeComers_6
    dsimp only
    rw [h, if_pos (by decide)]
  rw [e]
  exact ⟨_, rfl⟩
theorem zd_rloop {n : Int32} : ∀ (k j : Nat), n = nI (j + k) → j + k < 2 ^ 31 → ∀ (s : Int32) (g : mG), ZQ (g 0) → ∃ g', mWh (0, fun _ _ _ => 0) (B_X5_run_46 n 0) (s, nI j, g) = (0, g') ∧ g' 7 = g 7 := by
  intro k
  induction k with
  | zero =>
    intro j hn hj s g h
    rw [mWh_eq tm_X5_run_46]
    have hB : B_X5_run_46 n 0 (s, nI j, g) = .inr (0, (P_X5_answer g 0).2) := by
      unfold B_X5_run_46
      dsimp only
      rw [hn, if_pos (show nI (j + 0) ≤ nI j from Int32.le_refl _), zb_d, h.2.2.2.2.2]
      rfl
    rw [hB]
    exact ⟨_, rfl, rfl⟩
  | succ k ih =>
    intro j hn hj s g h
    obtain ⟨t, ht⟩ := zd_comers (c := g 0) (s := s) h.1.1
    obtain ⟨q1, q2, q3⟩ := zq_tick h
    obtain ⟨g', e, e7⟩ := ih (j + 1) (by rw [hn]; congr 1; omega) (by omega) t (mU g 0 (P_X0_passTick (g 0))) q1
    refine ⟨g', ?_, e7⟩
    rw [mWh_eq tm_X5_run_46]
    have hB : B_X5_run_46 n 0 (s, nI j, g) = .inl (t, nI (j + 1), mU g 0 (P_X0_passTick (g 0))) := by
      unfold B_X5_run_46
      dsimp only
      rw [if_neg (by rw [hn]; exact nI_ge (by omega) (by omega)), ht, zb_d, zb_d, nI_1]
      dsimp only
      rw [mU_same, mU_mU]
    rw [hB]
    exact e
theorem isFrom_0 {x n : Int32} : P_X6_isFrom x 0 n = if x < 0 then 0 else if n < x then 0 else 1 := rfl
theorem zk_21 (a : Nat → Int32) : ∃ w g2, lwR_21 g1 a = some ((w, w), g2) := by
  unfold lwR_21
  generalize a 1 = x
  generalize a 2 = y
  have key : ∃ V, ((P_X5_run g1 x y).1 = V ∧ (P_X5_run g1 x y).2 7 = zM2) ∧ ∃ c', P_X6_run zM2 x y = some (V, c') := by
    unfold P_X5_run P_X6_run J_X5_run_23 J_X6_run_22
    have z0 : (0 : Int32) = 0 := rfl
    rw [isFrom_1, isFrom_0]
    simp only [zb_d]
    by_cases h1 : x < 1
    · rw [if_pos h1, if_pos h1, if_pos z0]; exact ⟨-1, ⟨rfl, rfl⟩, _, rfl⟩
    · rw [if_neg h1, if_neg h1]
      by_cases h2 : 300 < x
      · rw [if_pos h2, if_pos h2, if_pos z0]; exact ⟨-1, ⟨rfl, rfl⟩, _, rfl⟩
      · rw [if_neg h2, if_neg h2, if_neg (show ¬ (1 : Int32) = 0 by decide)]
        by_cases h3 : y < 0
        · rw [if_pos h3, if_pos h3, if_pos z0]; exact ⟨-1, ⟨rfl, rfl⟩, _, rfl⟩
        · rw [if_neg h3, if_neg h3]
          by_cases h4 : y ≤ 9999
          · rw [if_pos h4, if_neg (Int32.not_lt.mpr h4), if_neg (show ¬ (1 : Int32) = 0 by decide)]
            obtain ⟨N, hN, rfl⟩ := nI_of (fun z => h1 (Int32.lt_trans z (show (0 : Int32) < 1 by decide)))
            obtain ⟨g', e1, e2⟩ := zd_rloop (n := nI N) N 0 (by rw [Nat.zero_add]) (by omega) y g1 g1_Q
            obtain ⟨c', e3⟩ := zx_rloop (n := nI N) N 0 (by rw [Nat.zero_add]) (by omega) (mP (mP zM2 20 3 y) 20 4 0) (zm_set (zm_set zM2_Z (Or.inl (by decide))) (Or.inl (by decide))) rfl rfl
            refine ⟨0, ?_, c', e3⟩
            have e1' : mWh (0, fun _ _ _ => 0) (B_X5_run_46 (nI N) (mTt 8 (g1 0 15))) (y, 0, g1) = (0, g') := e1
            rw [e1']
            exact ⟨rfl, e2⟩
          · rw [if_neg h4, if_pos (Int32.not_le.mp h4), if_pos z0]; exact ⟨-1, ⟨rfl, rfl⟩, _, rfl⟩
  obtain ⟨V, hV, hR⟩ := key
  exact zk_of2 (p := P_X5_run g1 x y) (f := fun c => P_X6_run c x y) hV hR
/-! paper -/
noncomputable def sp0 : mC := P_X0_takeFrom (g1 1) (g1 0)
theorem sp0_Q : ZQ sp0 := ⟨⟨rfl, rfl, rfl, rfl, ⟨rfl, rfl, rfl⟩, rfl, rfl, rfl⟩, rfl, rfl, rfl, rfl, rfl⟩
theorem zk_28 (a : Nat → Int32) : ∃ w g2, lwR_28 g1 a = some ((w, w), g2) := by
  unfold lwR_28
  refine zk_of2 (p := P_X5_cleared g1) (f := fun c => P_X6_cleared c) (V := 0) ?_ ?_
  · unfold P_X5_cleared
    simp only [zb_d]
    have e : P_X5_ticksUntil (mU g1 1 (P_X0_takeFrom (g1 1) (g1 0))) 2 (-1) = (0, (P_X5_answer (mU g1 1 sp0) 0).2) := by
      show P_X5_ticksUntil (mU g1 1 sp0) 2 (-1) = _
      unfold P_X5_ticksUntil
      rw [mWh_eq tm_X5_ticksUntil_2]
      have hB : B_X5_ticksUntil_2 2 (-1) (0, mU g1 1 sp0) = .inr (0, (P_X5_answer (mU g1 1 sp0) 0).2) := by
        unfold B_X5_ticksUntil_2 P_X0_hasReached
        dsimp only
        rw [if_neg (by decide), mU_same, if_pos rfl, sp0_Q.2.2.2.2.1]
        rfl
      rw [hB]
    rw [e]
    exact ⟨rfl, rfl⟩
  · show ∃ c', P_X6_cleared zM2 = _
    unfold P_X6_cleared P_X6_reaches
    rw [show P_X6_copies zM2 0 288 = some (cpC zM2 0 288 288) from copies_eq zM2 (a := 0) (b := 288) (by decide) (by decide) (by decide), zb_s, if_neg (by decide)]
    unfold J_X6_reaches_26 J_X6_reaches_47
    rw [if_neg (by decide), mWh_eq tm_X6_reaches_49]
    have hz : ZM (cpC zM2 0 288 288) := ⟨rfl, rfl, rfl, rfl, ⟨rfl, rfl, rfl⟩, rfl, rfl, rfl⟩
    have hr : P_X6_isReached (cpC zM2 0 288 288) 2 (-1) = some 1 := by
      unfold P_X6_isReached
      rw [if_neg (by decide), if_neg (by decide), if_pos rfl, zx_queues hz]
      rfl
    have hB : ∃ c', B_X6_reaches_49 2 (-1) (0, cpC zM2 0 288 288) = .inr (some (0, c')) := by
      unfold B_X6_reaches_49 J_X6_reaches_86
      dsimp only
      rw [if_neg (by decide), hr, zb_s, if_neg (by decide), zb_s, show P_X6_copies (cpC zM2 0 288 288) 288 0 = some (cpC (cpC zM2 0 288 288) 288 0 288) from copies_eq _ (a := 288) (b := 0) (by decide) (by decide) (by decide), zb_s, if_neg (by decide)]
      exact ⟨_, rfl⟩
    obtain ⟨c', e⟩ := hB
    rw [e]
    exact ⟨_, rfl⟩
theorem zx_wloop {n w : Int32} : ∀ (k j : Nat), n = nI (j + k) → j + k < 2 ^ 31 → ∀ c : mC, ZM c → c 21 7 = -1 → c 21 10 = 0 → ∃ c', mWh none (B_X6_waitsIn_14 n w) (nI j, c) = some (c 21 11 - w, c') ∧ c' 20 4 = c 20 4 := by
  intro k
  induction k with
  | zero =>
    intro j hn hj c h h7 h10
    rw [mWh_eq tm_X6_waitsIn_14]
    have hB : B_X6_waitsIn_14 n w (nI j, c) = .inr (some (c 21 11 - w, cpC c 288 0 288)) := by
      unfold B_X6_waitsIn_14
      dsimp only
      rw [hn, if_pos (show nI (j + 0) ≤ nI j from Int32.le_refl _), zo_11, zb_s, show P_X6_copies c 288 0 = some (cpC c 288 0 288) from copies_eq c (a := 288) (b := 0) (by decide) (by decide) (by decide)]
      rfl
    rw [hB]
    exact ⟨_, rfl, rfl⟩
  | succ k ih =>
    intro j hn hj c h h7 h10
    obtain ⟨c1, e1, e2, e3, e4, e5, e6, e7, -⟩ := zx_tick (x := 0) h h7 h10
    obtain ⟨c', e, e8⟩ := ih (j + 1) (by rw [hn]; congr 1; omega) (by omega) c1 e2 e3 e4
    refine ⟨c', ?_, by rw [e8, e7]⟩
    rw [mWh_eq tm_X6_waitsIn_14]
    have hB : B_X6_waitsIn_14 n w (nI j, c) = .inl (nI (j + 1), c1) := by
      unfold B_X6_waitsIn_14
      dsimp only
      rw [if_neg (by rw [hn]; exact nI_ge (by omega) (by omega)), e1, zb_s, nI_1]
    rw [hB]
    dsimp only
    rw [e, e6]
theorem zq_letgo {c : mC} (h : ZQ c) : P_X0_passTick c 15 = c 15 := by
  rw [zd_tick h.1 h.2.1 h.2.2.1 h.2.2.2.1]
  rfl
theorem zk_31 (a : Nat → Int32) : ∃ w g2, lwR_31 g1 a = some ((w, w), g2) := by
  unfold lwR_31
  generalize a 1 = x
  generalize a 2 = y
  have key : ∃ V, ((P_X5_paper g1 x y).1 = V ∧ (P_X5_paper g1 x y).2 7 = zM2) ∧ ∃ c', P_X6_paper zM2 x y = some (V, c') := by
    unfold P_X5_paper P_X6_paper J_X5_paper_21 J_X6_paper_20
    have z0 : (0 : Int32) = 0 := rfl
    rw [isFrom_1, isFrom_0]
    simp only [zb_d]
    by_cases h1 : x < 1
    · rw [if_pos h1, if_pos h1, if_pos z0]; exact ⟨-1, ⟨rfl, rfl⟩, _, rfl⟩
    · rw [if_neg h1, if_neg h1]
      by_cases h2 : 300 < x
      · rw [if_pos h2, if_pos h2, if_pos z0]; exact ⟨-1, ⟨rfl, rfl⟩, _, rfl⟩
      · rw [if_neg h2, if_neg h2, if_neg (show ¬ (1 : Int32) = 0 by decide)]
        by_cases h3 : y < 0
        · rw [if_pos h3, if_pos h3, if_pos z0]; exact ⟨-1, ⟨rfl, rfl⟩, _, rfl⟩
        · rw [if_neg h3, if_neg h3]
          by_cases h4 : y ≤ 1
          · rw [if_pos h4, if_neg (Int32.not_lt.mpr h4), if_neg (show ¬ (1 : Int32) = 0 by decide)]
            obtain ⟨N, hN, rfl⟩ := nI_of (fun z => h1 (Int32.lt_trans z (show (0 : Int32) < 1 by decide)))
            obtain ⟨c', e1, e2, e3, e4⟩ := zq_ticks (n := nI N) sp0_Q N 0 (by rw [Nat.zero_add]) (by omega) sp0 sp0_Q
            have hz : ZM (mP (cpC zM2 0 288 288) 20 4 0) := ⟨rfl, rfl, rfl, rfl, ⟨rfl, rfl, rfl⟩, rfl, rfl, rfl⟩
            obtain ⟨c2, e5, e6⟩ := zx_wloop (n := nI N) (w := 0) N 0 (by rw [Nat.zero_add]) (by omega) (mP (cpC zM2 0 288 288) 20 4 0) hz rfl rfl
            have hw : P_X6_waitsIn (cpC zM2 0 288 288) (nI N) = some (0, c2) := by
              unfold P_X6_waitsIn
              rw [zo_11, zb_s]
              exact e5
            have h6 : c2 20 4 = 0 := e6
            rw [show P_X6_copies zM2 0 288 = some (cpC zM2 0 288 288) from copies_eq zM2 (a := 0) (b := 288) (by decide) (by decide) (by decide), zb_s, hw, zb_s]
            have e1' : P_X0_passTicks ((mU g1 1 (P_X0_takeFrom (g1 1) (g1 0))) 1) (nI N) = c' := e1
            rw [e1']
            by_cases h5 : y = 0
            · rw [if_pos h5, if_pos h5]
              unfold J_X6_paper_53
              rw [show ((0 : Int32), c2).2 20 4 = 0 from h6]
              refine ⟨0, ⟨?_, rfl⟩, _, rfl⟩
              show mTt 8 (c' 15) - mTt 8 (g1 0 15) = 0
              rw [e2.2.2.2.2.2]
              decide
            · rw [if_neg h5, if_neg h5]
              unfold J_X6_paper_53
              refine ⟨0, ⟨?_, rfl⟩, _, rfl⟩
              show c' 0 14 - g1 0 0 14 = 0
              rw [e4]
              decide
          · rw [if_neg h4, if_pos (Int32.not_le.mp h4), if_pos z0]; exact ⟨-1, ⟨rfl, rfl⟩, _, rfl⟩
  obtain ⟨V, hV, hR⟩ := key
  exact zk_of2 (p := P_X5_paper g1 x y) (f := fun c => P_X6_paper c x y) hV hR
