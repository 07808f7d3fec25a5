/-! the fresh objects: further calls -/
theorem t4_7 (g : mG) (x : Int32) : P_X5_tapeFour g x 6 18 7 = g 6 18 7 + 1 + 1 + 1 + 1 := rfl
theorem t4_o7 (g : mG) (x : Int32) : P_X5_tapeFour g x 7 = g 7 := rfl
theorem zk_1 (a : Nat → Int32) : ∃ w g2, lwR_1 g1 a = some ((w, w), g2) := by
  unfold lwR_1
  refine zk_of2 (p := P_X5_feed g1 (a 1) (a 2) (a 3) (a 4) (a 5)) (f := fun c => P_X6_feed c (a 1) (a 2) (a 3) (a 4) (a 5)) (V := 20) ?_ ?_
  · unfold P_X5_feed
    rw [if_pos (show g1 6 18 7 + 20 ≤ 700 by decide)]
    refine ⟨?_, rfl⟩
    dsimp only
    rw [t4_7, t4_7, t4_7, t4_7, t4_7, show g1 6 18 7 = 0 from rfl]
    decide
  · show ∃ c', P_X6_feed zM2 _ _ _ _ _ = _
    rw [feed_eq (t := 0) rfl (by decide), if_pos (by decide)]
    exact ⟨_, rfl⟩
theorem out2 {x : Int32} {n : Nat} (h : x < 0 ∨ nI n < x) (hn : n < 2 ^ 31) : ∀ k : Nat, k ≤ n → x ≠ nI k := by
  rintro k hk rfl
  rcases h with h | h
  · exact nI_pos (by omega) h
  · exact Int32.lt_irrefl (Int32.lt_of_le_of_lt ((nI_leI (a := k) (b := n) (by omega) hn).mpr hk) h)
theorem isFrom_out {x : Int32} {n : Int32} (h : x < 0 ∨ n < x) : P_X6_isFrom x 0 n = 0 := by
  unfold P_X6_isFrom J_X6_isFrom_14
  rcases h with h | h
  · rw [if_pos h]
  · rw [if_pos h]
    split <;> rfl
theorem isBreak_out {x : Int32} (h : x < 0 ∨ nI 1 < x) : P_X5_isBreak x = 0 := by
  have n := out2 h (by decide)
  unfold P_X5_isBreak
  rw [if_neg (show ¬ x = 0 from n 0 (by decide)), if_neg (show ¬ x = 1 from n 1 (by decide))]
theorem zk_8 (a : Nat → Int32) : ∃ w g2, lwR_8 g1 a = some ((w, w), g2) := by
  unfold lwR_8
  generalize a 1 = x
  generalize a 2 = y
  rcases rng_n (x := y) (n := 5) (by decide) with ⟨k, hk, rfl⟩ | h
  · rcases rng_n (x := x) (n := 1) (by decide) with ⟨j, hj, rfl⟩ | h2
    · have h1 : j = 0 ∨ j = 1 := by omega
      have h3 : k = 0 ∨ k = 1 ∨ k = 2 ∨ k = 3 ∨ k = 4 ∨ k = 5 := by omega
      rcases h1 with rfl | rfl <;> rcases h3 with rfl | rfl | rfl | rfl | rfl | rfl <;> exact ⟨_, _, rfl⟩
    · refine zk_of2 (p := P_X5_brake g1 x (nI k)) (f := fun c => P_X6_brake c x (nI k)) (V := -1) ?_ ?_
      · unfold P_X5_brake J_X5_brake_9
        simp only [zb_d, isBreak_out h2, if_true]
        (repeat' split) <;> exact ⟨rfl, rfl⟩
      · show ∃ c', P_X6_brake zM2 x (nI k) = _
        unfold P_X6_brake
        simp only [zb_d, isFrom_out (n := 1) h2, if_true]
        (repeat' split) <;> exact ⟨_, rfl⟩
  · have h' : y < 0 ∨ (5 : Int32) < y := h
    refine zk_of2 (p := P_X5_brake g1 x y) (f := fun c => P_X6_brake c x y) (V := -1) ?_ ?_
    · unfold P_X5_brake J_X5_brake_9
      rcases h' with h | h
      · rw [if_pos h]; exact ⟨rfl, rfl⟩
      · rw [if_neg (fun z => Int32.lt_irrefl (Int32.lt_trans (Int32.lt_trans z (show (0 : Int32) < 5 by decide)) h)), if_neg (Int32.not_le.mpr h)]; exact ⟨rfl, rfl⟩
    · show ∃ c', P_X6_brake zM2 x y = _
      unfold P_X6_brake
      rw [isFrom_out (n := 5) h', zb_d, if_pos rfl]
      exact ⟨_, rfl⟩
theorem zx_gone : P_X6_goneAll zM2 = some 0 := by
  unfold P_X6_goneAll
  rw [mWh_eq tm_X6_goneAll_4]
  have e : B_X6_goneAll_4 zM2 (0, 0) = .inr (some 0) := by
    unfold B_X6_goneAll_4
    dsimp only
    rw [zo_0]; rfl
  rw [e]
theorem zx_great : P_X6_greatest zM2 = some (-1) := by
  unfold P_X6_greatest
  rw [mWh_eq tm_X6_greatest_4]
  have e : B_X6_greatest_4 zM2 (-1, 0) = .inr (some (-1)) := by
    unfold B_X6_greatest_4
    dsimp only
    rw [zo_0]; rfl
  rw [e]
theorem zd_long : P_X0_longestQueue (g1 0) = 0 := by
  unfold P_X0_longestQueue
  rw [mWh_eq tm_X0_longestQueue_4]
  rfl
theorem zd_first : P_X0_firstLongest (g1 0) = -1 := by
  unfold P_X0_firstLongest
  rw [zd_long, zb_d, mWh_eq tm_X0_firstLongest_7]
  rfl
theorem zk_9 (a : Nat → Int32) : ∃ w g2, lwR_9 g1 a = some ((w, w), g2) := by
  unfold lwR_9
  generalize a 1 = x
  rcases rng_n (x := x) (n := 5) (by decide) with ⟨k, hk, rfl⟩ | h
  · have h3 : k = 0 ∨ k = 1 ∨ k = 2 ∨ k = 3 ∨ k = 4 ∨ k = 5 := by omega
    rcases h3 with rfl | rfl | rfl | rfl | rfl | rfl
    · refine zk_of2 (p := P_X5_sum g1 (nI 0)) (f := fun c => P_X6_sum c (nI 0)) (V := 0) ⟨rfl, rfl⟩ ?_
      show ∃ c', P_X6_sum zM2 0 = _
      unfold P_X6_sum
      rw [if_pos rfl, zx_gone]
      exact ⟨_, rfl⟩
    · exact ⟨_, _, rfl⟩
    · refine zk_of2 (p := P_X5_sum g1 (nI 2)) (f := fun c => P_X6_sum c (nI 2)) (V := 0) ⟨rfl, rfl⟩ ?_
      show ∃ c', P_X6_sum zM2 2 = _
      unfold P_X6_sum
      rw [if_neg (by decide), if_neg (by decide), if_pos rfl, zx_queues zM2_Z]
      exact ⟨_, rfl⟩
    · refine zk_of2 (p := P_X5_sum g1 (nI 3)) (f := fun c => P_X6_sum c (nI 3)) (V := 0) ?_ ?_
      · show (P_X5_sum g1 3).1 = _ ∧ (P_X5_sum g1 3).2 7 = _
        unfold P_X5_sum
        rw [if_neg (by decide), if_neg (by decide), if_neg (by decide), if_pos rfl, zd_long]
        exact ⟨rfl, rfl⟩
      · show ∃ c', P_X6_sum zM2 3 = _
        unfold P_X6_sum
        rw [if_neg (by decide), if_neg (by decide), if_neg (by decide), if_pos rfl, zx_great]
        exact ⟨_, rfl⟩
    · refine zk_of2 (p := P_X5_sum g1 (nI 4)) (f := fun c => P_X6_sum c (nI 4)) (V := -1) ?_ ?_
      · show (P_X5_sum g1 4).1 = _ ∧ (P_X5_sum g1 4).2 7 = _
        unfold P_X5_sum
        rw [if_neg (by decide), if_neg (by decide), if_neg (by decide), if_neg (by decide), if_pos rfl, zd_first]
        exact ⟨rfl, rfl⟩
      · show ∃ c', P_X6_sum zM2 4 = _
        unfold P_X6_sum
        rw [if_neg (by decide), if_neg (by decide), if_neg (by decide), if_neg (by decide), if_pos rfl, zx_great]
        exact ⟨_, rfl⟩
    · refine zk_of2 (p := P_X5_sum g1 (nI 5)) (f := fun c => P_X6_sum c (nI 5)) (V := 0) ?_ ?_
      · show (P_X5_sum g1 5).1 = _ ∧ (P_X5_sum g1 5).2 7 = _
        unfold P_X5_sum
        rw [if_neg (by decide), if_neg (by decide), if_neg (by decide), if_neg (by decide), if_neg (by decide), if_pos rfl, zd_shown g1_Z]
        exact ⟨rfl, rfl⟩
      · show ∃ c', P_X6_sum zM2 5 = _
        unfold P_X6_sum
        rw [if_neg (by decide), if_neg (by decide), if_neg (by decide), if_neg (by decide), if_neg (by decide), if_pos rfl, zx_shown zM2_Z]
        exact ⟨_, rfl⟩
  · have n := out2 h (by decide)
    refine zk_of2 (p := P_X5_sum g1 x) (f := fun c => P_X6_sum c x) (V := -1) ?_ ?_
    · unfold P_X5_sum
      rw [if_neg (show ¬ x = 0 from n 0 (by decide)), if_neg (show ¬ x = 1 from n 1 (by decide)), if_neg (show ¬ x = 2 from n 2 (by decide)), if_neg (show ¬ x = 3 from n 3 (by decide)), if_neg (show ¬ x = 4 from n 4 (by decide)), if_neg (show ¬ x = 5 from n 5 (by decide))]
      exact ⟨rfl, rfl⟩
    · show ∃ c', P_X6_sum zM2 x = _
      unfold P_X6_sum
      rw [if_neg (show ¬ x = 0 from n 0 (by decide)), if_neg (show ¬ x = 1 from n 1 (by decide)), if_neg (show ¬ x = 2 from n 2 (by decide)), if_neg (show ¬ x = 3 from n 3 (by decide)), if_neg (show ¬ x = 4 from n 4 (by decide)), if_neg (show ¬ x = 5 from n 5 (by decide))]
      exact ⟨_, rfl⟩
theorem zk_15 (a : Nat → Int32) : ∃ w g2, lwR_15 g1 a = some ((w, w), g2) := by
  unfold lwR_15
  generalize a 1 = x
  rcases rng_n (x := x) (n := 1) (by decide) with ⟨k, hk, rfl⟩ | h
  · have h3 : k = 0 ∨ k = 1 := by omega
    rcases h3 with rfl | rfl <;> exact ⟨_, _, rfl⟩
  · refine zk_of2 (p := P_X5_ask g1 x) (f := fun c => P_X6_ask c x) (V := 0) ?_ ?_
    · unfold P_X5_ask
      rw [isBreak_out h]
      exact ⟨rfl, rfl⟩
    · show ∃ c', P_X6_ask zM2 x = _
      unfold P_X6_ask P_X6_isWanted
      rw [isFrom_out (n := 1) h]
      exact ⟨_, rfl⟩
theorem zk_16 (a : Nat → Int32) : ∃ w g2, lwR_16 g1 a = some ((w, w), g2) := by
  unfold lwR_16
  generalize a 1 = x
  rcases rng_n (x := x) (n := 1) (by decide) with ⟨k, hk, rfl⟩ | h
  · have h3 : k = 0 ∨ k = 1 := by omega
    rcases h3 with rfl | rfl <;> exact ⟨_, _, rfl⟩
  · refine zk_of2 (p := P_X5_let g1 x) (f := fun c => P_X6_let c x) (V := 0) ?_ ?_
    · unfold P_X5_let
      rw [isBreak_out h]
      exact ⟨rfl, rfl⟩
    · show ∃ c', P_X6_let zM2 x = _
      unfold P_X6_let P_X6_isWanted
      rw [isFrom_out (n := 1) h]
      exact ⟨_, rfl⟩
theorem cyc_eq (x : Int32) : P_X5_isCycle x = P_X6_isCycle x := by
  unfold P_X5_isCycle P_X6_isCycle P_X6_isFrom J_X5_isCycle_17 J_X5_isCycle_21 J_X6_isCycle_16 J_X6_isFrom_14
  split
  · rfl
  · rw [zb_d]
    split
    · rfl
    · split <;> rfl
theorem ofs_eq (x : Int32) : P_X5_isOffset x = P_X6_isFrom x 0 239 := by
  unfold P_X5_isOffset P_X6_isFrom J_X5_isOffset_15 J_X6_isFrom_14
  rfl
theorem zk_12 (a : Nat → Int32) : ∃ w g2, lwR_12 g1 a = some ((w, w), g2) := by
  unfold lwR_12
  generalize a 1 = x
  generalize a 2 = y
  rcases rng_n (x := x) (n := 1) (by decide) with ⟨k, hk, rfl⟩ | h
  · have h3 : k = 0 ∨ k = 1 := by omega
    rcases h3 with rfl | rfl
    · refine zk_of2 (p := P_X5_clock g1 (nI 0) y) (f := fun c => P_X6_clock c (nI 0) y) (V := if P_X6_isCycle y = 0 then -1 else if 0 = y then -1 else 0) ?_ ?_
      · show (P_X5_clock g1 0 y).1 = _ ∧ (P_X5_clock g1 0 y).2 7 = _
        unfold P_X5_clock J_X5_clock_30 J_X5_clock_36 J_X5_clock_63 J_X5_clock_101
        rw [if_neg (by decide), if_neg (by decide), if_pos rfl, zb_d, cyc_eq]
        by_cases h1 : P_X6_isCycle y = 0
        · rw [if_pos h1, if_pos h1]; exact ⟨rfl, rfl⟩
        · rw [if_neg h1, if_neg h1, if_pos rfl]
          rw [show g1 0 1 1 = 0 from rfl]
          by_cases h2 : 0 = y
          · rw [if_pos h2, if_pos h2]; exact ⟨rfl, rfl⟩
          · rw [if_neg h2, if_neg h2]; exact ⟨rfl, rfl⟩
      · show ∃ c', P_X6_clock zM2 0 y = _
        unfold P_X6_clock J_X6_clock_30 J_X6_clock_36 J_X6_clock_84 J_X6_clock_87
        rw [if_pos rfl, zb_d]
        by_cases h1 : P_X6_isCycle y = 0
        · rw [if_pos h1, if_pos h1]; exact ⟨_, rfl⟩
        · rw [if_neg h1, if_neg h1, show P_X6_of zM2 (2 + 0) = some 0 from rfl, zb_s]
          by_cases h2 : 0 = y
          · rw [if_pos h2, if_pos h2]; exact ⟨_, rfl⟩
          · rw [if_neg h2, if_neg h2, show P_X6_puts zM2 (2 + 0) y = some (mP zM2 21 2 y) from rfl, zb_s, if_pos rfl, if_neg (fun z => h2 z.symm), zo_4, zb_s, if_neg (fun z => h2 z.symm), zp_4]
            exact ⟨_, rfl⟩
    · refine zk_of2 (p := P_X5_clock g1 (nI 1) y) (f := fun c => P_X6_clock c (nI 1) y) (V := if P_X6_isFrom y 0 239 = 0 then -1 else if 0 = y then -1 else 0) ?_ ?_
      · show (P_X5_clock g1 1 y).1 = _ ∧ (P_X5_clock g1 1 y).2 7 = _
        unfold P_X5_clock J_X5_clock_30 J_X5_clock_36 J_X5_clock_63 J_X5_clock_101
        rw [if_neg (by decide), if_neg (by decide), if_neg (by decide), zb_d, ofs_eq]
        by_cases h1 : P_X6_isFrom y 0 239 = 0
        · rw [if_pos h1, if_pos h1]; exact ⟨rfl, rfl⟩
        · rw [if_neg h1, if_neg h1, if_neg (by decide)]
          rw [show g1 0 1 2 = 0 from rfl]
          by_cases h2 : 0 = y
          · rw [if_pos h2, if_pos h2]; exact ⟨rfl, rfl⟩
          · rw [if_neg h2, if_neg h2]; exact ⟨rfl, rfl⟩
      · show ∃ c', P_X6_clock zM2 1 y = _
        unfold P_X6_clock J_X6_clock_30 J_X6_clock_36 J_X6_clock_84 J_X6_clock_87
        rw [if_neg (by decide), if_pos rfl, zb_d]
        by_cases h1 : P_X6_isFrom y 0 239 = 0
        · rw [if_pos h1, if_pos h1]; exact ⟨_, rfl⟩
        · rw [if_neg h1, if_neg h1, show P_X6_of zM2 (2 + 1) = some 0 from rfl, zb_s]
          by_cases h2 : 0 = y
          · rw [if_pos h2, if_pos h2]; exact ⟨_, rfl⟩
          · rw [if_neg h2, if_neg h2, show P_X6_puts zM2 (2 + 1) y = some (mP zM2 21 3 y) from rfl, zb_s, if_neg (by decide)]
            exact ⟨_, rfl⟩
  · have n := out2 h (by decide)
    have h' : x < 0 ∨ (1 : Int32) < x := h
    refine zk_of2 (p := P_X5_clock g1 x y) (f := fun c => P_X6_clock c x y) (V := -1) ?_ ?_
    · unfold P_X5_clock J_X5_clock_30
      rcases h' with h | h
      · rw [if_pos h]; exact ⟨rfl, rfl⟩
      · rw [if_neg (fun z => Int32.lt_irrefl (Int32.lt_trans (Int32.lt_trans z (show (0 : Int32) < 1 by decide)) h)), if_pos h]; exact ⟨rfl, rfl⟩
    · show ∃ c', P_X6_clock zM2 x y = _
      unfold P_X6_clock
      rw [if_neg (show ¬ x = 0 from n 0 (by decide)), if_neg (show ¬ x = 1 from n 1 (by decide))]
      exact ⟨_, rfl⟩
theorem hasAll0 (x : Int32) : P_X2_hasAll (g1 0) x = if x = 0 then 1 else 0 := by
  unfold P_X2_hasAll J_X2_hasAll_16
  rw [show P_X2_allSet (g1 0) = 0 from by decide, zb_d]
  by_cases h : x < 0
  · rw [if_pos h, if_neg (fun e => Int32.lt_irrefl (e ▸ h))]
  · rw [if_neg h]
    by_cases h2 : 0 < x
    · rw [if_pos h2, if_neg (fun e => Int32.lt_irrefl (e ▸ h2))]
    · rw [if_neg h2, if_pos (Int32.le_antisymm (Int32.not_lt.mp h2) (Int32.not_lt.mp h))]
theorem shr0 (x : Int32) : x >>> ((0 : Int32) &&& 31) = x := by
  apply Int32.toBitVec_inj.mp
  rw [Int32.toBitVec_shiftRight]
  show x.toBitVec.sshiftRight 0 = _
  exact BitVec.sshiftRight_zero
theorem isSet0 (x : Int32) : P_X6_isSet zM2 x = some (if x = 0 then 1 else 0) := by
  unfold P_X6_isSet J_X6_isSet_18
  by_cases h : x < 0
  · rw [if_pos h, if_neg (fun e => Int32.lt_irrefl (e ▸ h))]
  · rw [if_neg h, zo_0, zb_s, show zM2 21 0 = 0 from rfl, shr0]
    split <;> rfl
theorem dwell_eq (x : Int32) : P_X5_isDwell x = P_X6_isFrom x 0 30 := rfl
theorem brk_eq {x : Int32} : P_X5_isBreak x = P_X6_isFrom x 0 1 := by
  rcases rng_n (x := x) (n := 1) (by decide) with ⟨k, hk, rfl⟩ | h
  · have h3 : k = 0 ∨ k = 1 := by omega
    rcases h3 with rfl | rfl <;> rfl
  · rw [isBreak_out h, isFrom_out (n := 1) h]
theorem zk_17 (a : Nat → Int32) : ∃ w g2, lwR_17 g1 a = some ((w, w), g2) := by
  unfold lwR_17
  generalize a 1 = x1
  generalize a 2 = x2
  generalize a 3 = x3
  generalize a 4 = x4
  generalize a 5 = x5
  generalize a 6 = x6
  have key : ∃ V, ((P_X5_brakes g1 x1 x2 x3 x4 x5 x6).1 = V ∧ (P_X5_brakes g1 x1 x2 x3 x4 x5 x6).2 7 = zM2) ∧ ∃ c', P_X6_brakes zM2 x1 x2 x3 x4 x5 x6 = some (V, c') := by
    unfold P_X5_brakes P_X6_brakes J_X5_brakes_56 J_X6_brakes_49 J_X5_brakes_121 J_X6_brakes_103
    simp only [zb_d, hasAll0, isSet0, zb_s, dwell_eq, brk_eq]
    have n1 : ¬ (1 : Int32) = 0 := by decide
    have z0 : (0 : Int32) = 0 := rfl
    by_cases h2 : x2 = 0
    · rw [if_pos h2, if_neg n1, if_neg n1]
      by_cases h4 : x4 = 0
      · rw [if_pos h4, if_neg n1, if_neg n1]
        by_cases h3 : P_X6_isFrom x3 0 30 = 0
        · rw [if_pos h3, if_pos h3]; exact ⟨0, ⟨rfl, rfl⟩, _, rfl⟩
        · rw [if_neg h3, if_neg h3]
          by_cases h5 : P_X6_isFrom x5 0 30 = 0
          · rw [if_pos h5, if_pos h5]; exact ⟨0, ⟨rfl, rfl⟩, _, rfl⟩
          · rw [if_neg h5, if_neg h5]
            by_cases h6 : x6 < 0
            · rw [if_pos h6, isFrom_out (n := 20) (Or.inl h6), if_pos z0]; exact ⟨0, ⟨rfl, rfl⟩, _, rfl⟩
            · rw [if_neg h6]
              by_cases h7 : x6 ≤ 20
              · have e6 : P_X6_isFrom x6 0 20 = 1 := by
                  unfold P_X6_isFrom
                  rw [if_neg h6, if_neg (Int32.not_lt.mpr h7)]
                rw [if_pos h7, e6, if_neg n1]
                by_cases h1 : P_X6_isFrom x1 0 1 = 0
                · rw [if_pos h1, if_pos h1]; exact ⟨0, ⟨rfl, rfl⟩, _, rfl⟩
                · rw [if_neg h1, if_neg h1]
                  rcases rng_n (x := x1) (n := 1) (by decide) with ⟨k, hk, rfl⟩ | h
                  · have hn : g1 0 0 16 = -1 := rfl
                    have hm : P_X6_of zM2 7 = some (-1) := zo_7
                    have hz : ∀ s, P_X2_holdsFoes (g1 0) s = 0 := fun s => by
                      unfold P_X2_holdsFoes
                      rw [zd_foe g1_Z]; rfl
                    have hp : ∀ s, P_X6_isPeace zM2 s = some 1 := fun s => zx_peace zM2_Z
                    have h3 : k = 0 ∨ k = 1 := by omega
                    rcases h3 with rfl | rfl
                    · simp only [hn, hm, zb_s, hz, hp, if_pos z0, if_neg n1, if_neg (show ¬ (-1 : Int32) = nI 0 by decide), if_neg (show ¬ (-1 : Int32) = nI 1 by decide)]
                      exact ⟨1, ⟨rfl, rfl⟩, _, rfl⟩
                    · simp only [hn, hm, zb_s, hz, hp, if_pos z0, if_neg n1, if_neg (show ¬ (-1 : Int32) = nI 0 by decide), if_neg (show ¬ (-1 : Int32) = nI 1 by decide)]
                      exact ⟨1, ⟨rfl, rfl⟩, _, rfl⟩
                  · exact absurd (isFrom_out (n := 1) h) h1
              · rw [if_neg h7, isFrom_out (n := 20) (Or.inr (Int32.not_le.mp h7)), if_pos z0]; exact ⟨0, ⟨rfl, rfl⟩, _, rfl⟩
      · rw [if_neg h4, if_pos z0, if_pos z0]; exact ⟨0, ⟨rfl, rfl⟩, _, rfl⟩
    · rw [if_neg h2, if_pos z0, if_pos z0]; exact ⟨0, ⟨rfl, rfl⟩, _, rfl⟩
  obtain ⟨V, hV, hR⟩ := key
  exact zk_of2 (p := P_X5_brakes g1 x1 x2 x3 x4 x5 x6) (f := fun c => P_X6_brakes c x1 x2 x3 x4 x5 x6) hV hR
