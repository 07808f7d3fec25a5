/-! the fresh objects: an empty text; the end -/
theorem start_1 (c : mC) : P_X0_startRings c 1 = c 1 := by
  have w : ∀ (r : Nat) (c : mC) (x : Int32), r ≠ 1 → P_X4_waitFor r c x 1 = c 1 := fun r c x hr => by
    unfold P_X4_waitFor
    rw [mP_other _ _ _ _ _ hr.symm, mP_other _ _ _ _ _ hr.symm, mP_other _ _ _ _ _ hr.symm, mP_other _ _ _ _ _ hr.symm]
  have j : ∀ s, J_X0_startRings_27 c s 1 = c 1 := fun s => by
    unfold J_X0_startRings_27
    simp only [zb_d]
    rw [w 9 _ _ (by decide), w 8 _ _ (by decide)]
  unfold P_X0_startRings
  simp only [zb_d]
  split <;> exact j _
theorem begin_1 (c : mC) : P_X0_beginAnew c 1 = c 1 := by
  unfold P_X0_beginAnew
  simp only [zb_d]
  rw [start_1]
  rfl
/-- the reader over nothing -/
theorem read_0 {c : mC} (h : c 16 9 = 0) : P_X3_readText c 0 16 9 = 0 ∧ P_X3_readText c 0 1 0 = 0 := by
  have key : ∃ d : mC, P_X3_readText c 0 = d ∧ d 16 9 = 0 ∧ d 1 0 = 0 := by
    unfold P_X3_readText
    simp only [zb_d]
    rw [show P_J9_min_7cf53 0 700 = 0 from by decide]
    generalize hw : P_X2_wipe c = w
    have w0 : w 1 0 = 0 := by rw [← hw]; rfl
    generalize hd : mP (mP (mP (mP (mP (mP (mP w 16 2 0) 16 3 0) 16 7 0) 16 8 0) 16 9 0) 16 10 (-1)) 16 11 (-1) = d
    have d2 : d 16 2 = 0 := by rw [← hd]; rfl
    have d3 : d 16 3 = 0 := by rw [← hd]; rfl
    have d9 : d 16 9 = 0 := by rw [← hd]; rfl
    have d1 : d 1 0 = 0 := by rw [← hd]; exact w0
    have e1 : P_X3_behind d (d 16 3) 4 = 0 := by
      unfold P_X3_behind
      rw [mWh_eq tm_X3_behind_2]
      have e : B_X3_behind_2 d 4 (d 16 3) = .inr 0 := by
        unfold B_X3_behind_2 J_X3_behind_25
        rw [d2, d3, if_pos (by decide)]
      rw [e]
    have e2 : P_X3_kindAt (mP d 16 4 0) ((mP d 16 4 0) 16 4) = 0 := by
      unfold P_X3_kindAt J_X3_kindAt_21
      rw [show (mP d 16 4 0) 16 4 = 0 from rfl, show (mP d 16 4 0) 16 2 = 0 from d2]
      rfl
    have e3 : P_X3_step d = mP (mP (mP (mP d 16 4 0) 16 5 0) 16 3 (0 + 1)) 16 6 0 := by
      unfold P_X3_step
      rw [e1, zb_d, e2, zb_d, show (mP (mP d 16 4 0) 16 5 0) 16 5 = 0 from rfl, if_neg (by decide), if_neg (by decide)]
      unfold J_X3_step_63
      rw [show (mP (mP (mP d 16 4 0) 16 5 0) 16 3 ((mP (mP d 16 4 0) 16 5 0) 16 4 + 1)) 16 5 = 0 from rfl, if_neg (by decide), if_neg (by decide)]
      unfold J_X3_step_100
      rw [mWh_eq tm_X3_step_110]
      rfl
    rw [e3, mWh_eq tm_X3_readText_56]
    refine ⟨mP (mP (mP (mP d 16 4 0) 16 5 0) 16 3 (0 + 1)) 16 6 0, ?_, d9, d1⟩
    have e4 : B_X3_readText_56 (0, mP (mP (mP (mP d 16 4 0) 16 5 0) 16 3 (0 + 1)) 16 6 0) = .inr (mP (mP (mP (mP d 16 4 0) 16 5 0) 16 3 (0 + 1)) 16 6 0) := by
      unfold B_X3_readText_56
      dsimp only
      rw [if_neg (by decide), show (mP (mP (mP (mP d 16 4 0) 16 5 0) 16 3 (0 + 1)) 16 6 0) 16 9 = 0 from d9, if_pos rfl, show (mP (mP (mP (mP d 16 4 0) 16 5 0) 16 3 (0 + 1)) 16 6 0) 16 5 = 0 from rfl, if_pos rfl]
    rw [e4]
  obtain ⟨d, h1, h2, h3⟩ := key
  rw [h1]
  exact ⟨h2, h3⟩
theorem zd_load0 : (P_X5_load g1 0).1 = 0 ∧ (P_X5_load g1 0).2 7 = zM2 := by
  have hr := read_0 (c := g1 5) rfl
  have h56 : (5 : Nat) ≠ 6 := by decide
  unfold P_X5_load
  rw [if_neg (by decide), if_pos (show (0 : Int32) ≤ g1 6 18 7 by decide)]
  simp only [zb_d, mU_same, mU_mU, mU_ne _ _ h56]
  rw [if_pos hr.1]
  refine ⟨?_, rfl⟩
  show P_X0_beginAnew (P_X2_takeFrom (g1 0) (P_X3_readText (g1 5) 0)) 1 0 = 0
  rw [begin_1]
  exact hr.2
theorem zx_load0 : ∃ c', P_X6_load zM2 0 = some (0, c') := by
  unfold P_X6_load
  rw [show P_X6_isFrom 0 0 (zM2 20 8) = 1 from by decide, zb_d, if_neg (by decide), mWh_eq tm_X6_load_25]
  have e : ∃ c', B_X6_load_25 0 (0, mP zM2 20 9 0) = .inr (some (0, c')) := by
    unfold B_X6_load_25
    dsimp only
    rw [if_pos (by decide)]
    generalize hc : mP (mP (mP (mP (mP (mP (mP (mP zM2 20 9 0) 20 8 0) 20 14 0) 20 15 (-1)) 20 16 (-1)) 20 18 0) 20 19 0) 20 12 0 = c
    have c9 : c 20 9 = 0 := by rw [← hc]; rfl
    have c12 : c 20 12 = 0 := by rw [← hc]; rfl
    have c14 : c 20 14 = 0 := by rw [← hc]; rfl
    rw [show P_X6_copies c 0 288 = some (cpC c 0 288 288) from copies_eq c (a := 0) (b := 288) (by decide) (by decide) (by decide), zb_s, begins_eq, zb_s]
    generalize hd : mP (zC (cpC c 0 288 288) 288) 21 7 (-1) = d
    have d9 : d 20 9 = 0 := by rw [← hd]; exact c9
    have d12 : d 20 12 = 0 := by rw [← hd]; exact c12
    have d14 : d 20 14 = 0 := by rw [← hd]; exact c14
    have d0 : d 21 0 = 0 := by rw [← hd]; rfl
    have ba : ∀ m : mC, m 20 9 = 0 → P_X6_byteAt m 0 = some (-1) := fun m hm => by
      unfold P_X6_byteAt
      rw [hm, if_pos (by decide)]
    have ea : P_X6_ahead d = some (mP (mP d 20 11 0) 20 10 0) := by
      unfold P_X6_ahead
      rw [mWh_eq tm_X6_ahead_0]
      have eB : B_X6_ahead_0 d = .inr (some (mP (mP d 20 11 0) 20 10 0)) := by
        unfold B_X6_ahead_0
        rw [d12, ba d d9, zb_s, if_neg (by decide), zb_s, if_neg (by decide), show (mP d 20 11 0) 20 12 = 0 from d12, ba _ (show (mP d 20 11 0) 20 9 = 0 from d9), zb_s, if_pos rfl]
      rw [eB]
    rw [ea, zb_s, mWh_eq tm_X6_load_101]
    have eL : ∃ c', B_X6_load_101 (1, mP (mP d 20 11 0) 20 10 0) = .inr (some (0, c')) := by
      unfold B_X6_load_101 J_X6_load_120
      dsimp only
      rw [if_neg (by decide), show (mP (mP d 20 11 0) 20 10 0) 20 10 = 0 from rfl, if_pos rfl, show (mP (mP (mP d 20 11 0) 20 10 0) 20 17 ((mP (mP d 20 11 0) 20 10 0) 20 14)) 20 14 = 0 from d14, if_pos (by decide), starts_0 (show (mP (mP (mP d 20 11 0) 20 10 0) 20 17 ((mP (mP d 20 11 0) 20 10 0) 20 14)) 21 0 = 0 from d0), zb_s, zo_0, zb_s]
      refine ⟨_, congrArg Sum.inr (congrArg some (Prod.ext ?_ rfl))⟩
      exact d0
    obtain ⟨c', eL⟩ := eL
    rw [eL]
    exact ⟨_, rfl⟩
  obtain ⟨c', e⟩ := e
  rw [e]
  exact ⟨_, rfl⟩
theorem zk_2 (a : Nat → Int32) : ∃ w g2, lwR_2 g1 a = some ((w, w), g2) := by
  unfold lwR_2
  generalize a 1 = x
  by_cases h0 : x < 0
  · refine zk_of2 (p := P_X5_load g1 x) (f := fun c => P_X6_load c x) (V := -1) ?_ ?_
    · unfold P_X5_load J_X5_load_12
      rw [if_pos h0]
      exact ⟨rfl, rfl⟩
    · show ∃ c', P_X6_load zM2 x = _
      unfold P_X6_load
      rw [isFrom_0, if_pos h0, zb_d, if_pos rfl]
      exact ⟨_, rfl⟩
  · by_cases h1 : x ≤ 0
    · have : x = 0 := Int32.le_antisymm h1 (Int32.not_lt.mp h0)
      subst this
      exact zk_of2 (p := P_X5_load g1 0) (f := fun c => P_X6_load c 0) zd_load0 zx_load0
    · refine zk_of2 (p := P_X5_load g1 x) (f := fun c => P_X6_load c x) (V := -1) ?_ ?_
      · unfold P_X5_load J_X5_load_12
        rw [if_neg h0, if_neg (show ¬ x ≤ g1 6 18 7 from h1)]
        exact ⟨rfl, rfl⟩
      · show ∃ c', P_X6_load zM2 x = _
        unfold P_X6_load
        rw [isFrom_0, if_neg h0, if_pos (show zM2 20 8 < x from Int32.not_le.mp h1), zb_d, if_pos rfl]
        exact ⟨_, rfl⟩
theorem z_step (x : Int32) (a : Nat → Int32) : ∃ w g2, lwS x g1 a = some ((w, w), g2) := by
  unfold lwS
  by_cases h0 : x = 0
  · rw [if_pos h0]; exact zk_0 a
  rw [if_neg h0]
  by_cases h1 : x = 1
  · rw [if_pos h1]; exact zk_1 a
  rw [if_neg h1]
  by_cases h2 : x = 2
  · rw [if_pos h2]; exact zk_2 a
  rw [if_neg h2]
  by_cases h3 : x = 3
  · rw [if_pos h3]; exact zk_3 a
  rw [if_neg h3]
  by_cases h4 : x = 4
  · rw [if_pos h4]; exact zk_4 a
  rw [if_neg h4]
  by_cases h5 : x = 5
  · rw [if_pos h5]; exact zk_5 a
  rw [if_neg h5]
  by_cases h6 : x = 6
  · rw [if_pos h6]; exact zk_6 a
  rw [if_neg h6]
  by_cases h7 : x = 7
  · rw [if_pos h7]; exact zk_7 a
  rw [if_neg h7]
  by_cases h8 : x = 8
  · rw [if_pos h8]; exact zk_8 a
  rw [if_neg h8]
  by_cases h9 : x = 9
  · rw [if_pos h9]; exact zk_9 a
  rw [if_neg h9]
  by_cases h10 : x = 10
  · rw [if_pos h10]; exact zk_10 a
  rw [if_neg h10]
  by_cases h11 : x = 11
  · rw [if_pos h11]; exact zk_11 a
  rw [if_neg h11]
  by_cases h12 : x = 12
  · rw [if_pos h12]; exact zk_12 a
  rw [if_neg h12]
  by_cases h13 : x = 13
  · rw [if_pos h13]; exact zk_13 a
  rw [if_neg h13]
  by_cases h14 : x = 14
  · rw [if_pos h14]; exact zk_14 a
  rw [if_neg h14]
  by_cases h15 : x = 15
  · rw [if_pos h15]; exact zk_15 a
  rw [if_neg h15]
  by_cases h16 : x = 16
  · rw [if_pos h16]; exact zk_16 a
  rw [if_neg h16]
  by_cases h17 : x = 17
  · rw [if_pos h17]; exact zk_17 a
  rw [if_neg h17]
  by_cases h18 : x = 18
  · rw [if_pos h18]; exact zk_18 a
  rw [if_neg h18]
  by_cases h19 : x = 19
  · rw [if_pos h19]; exact zk_19 a
  rw [if_neg h19]
  by_cases h20 : x = 20
  · rw [if_pos h20]; exact zk_20 a
  rw [if_neg h20]
  by_cases h21 : x = 21
  · rw [if_pos h21]; exact zk_21 a
  rw [if_neg h21]
  by_cases h22 : x = 22
  · rw [if_pos h22]; exact zk_22 a
  rw [if_neg h22]
  by_cases h23 : x = 23
  · rw [if_pos h23]; exact zk_23 a
  rw [if_neg h23]
  by_cases h24 : x = 24
  · rw [if_pos h24]; exact zk_24 a
  rw [if_neg h24]
  by_cases h25 : x = 25
  · rw [if_pos h25]; exact zk_25 a
  rw [if_neg h25]
  by_cases h26 : x = 26
  · rw [if_pos h26]; exact zk_26 a
  rw [if_neg h26]
  by_cases h27 : x = 27
  · rw [if_pos h27]; exact zk_27 a
  rw [if_neg h27]
  by_cases h28 : x = 28
  · rw [if_pos h28]; exact zk_28 a
  rw [if_neg h28]
  by_cases h29 : x = 29
  · rw [if_pos h29]; exact zk_29 a
  rw [if_neg h29]
  by_cases h30 : x = 30
  · rw [if_pos h30]; exact zk_30 a
  rw [if_neg h30]
  by_cases h31 : x = 31
  · rw [if_pos h31]; exact zk_31 a
  rw [if_neg h31]
  by_cases h32 : x = 32
  · rw [if_pos h32]; exact zk_32 a
  rw [if_neg h32]
  by_cases h33 : x = 33
  · rw [if_pos h33]; exact zk_33 a
  rw [if_neg h33]
  exact ⟨0, _, rfl⟩
theorem z_law {L : Nat} {xs : Nat → Int32} (hL : L ≤ 7) : ∃ g', mEv (xs, L) (mCall mD (xs, L) 12) 2 t_L_law (mDrop t_L_law 16) [some (mr 8 26), some (mr 6 18), some (mr 7 20), none] [] (mU g0 7 zM2) = some (some (mi 1), g') := by
  refine l_ev (X := (xs, L)) (Inv := fun i g => i = 0 → g = g1) (by show L ≤ 3584; omega) (fun i g hi hg => ?_) (fun _ => rfl)
  have hi : i + 7 ≤ L := hi
  have i0 : i = 0 := by omega
  have := hg i0
  subst this
  subst i0
  obtain ⟨w, g2, e⟩ := z_step (xs 0 &&& 63) (fun k => xs (0 + k))
  exact ⟨w, w, g2, e, fun _ _ _ => rfl, fun _ => by decide, fun h => by omega⟩

