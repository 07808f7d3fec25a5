/-! The two readers side by side: lines -/
theorem TS.tok {n : Nat} {b : Nat → Int32} {c r : mC} (h : TS n b c r) (h0 : c 16 9 = 0) : Tok n b c r := by
  rcases h.2.2.2.2 with ⟨_, T⟩ | B
  · exact T
  · exact absurd (B.1.symm.trans h0) (by decide)
theorem phase_eq {n : Nat} {b : Nat → Int32} {c r : mC} (h : TS n b c r) (h0 : c 16 9 = 0) (k1 : c 16 5 = 1) (hz : PZ c (r 21)) : ∃ c1, P_X3_readPhase c = P_X3_endLine c1 ∧ ok (Ln n b c1) (P_X6_aPhase r) := by
  obtain ⟨N, hx, n1, n2, hzz⟩ := id hz
  have hN8 := hx.1
  obtain ⟨X, h14, h7, h8, ht⟩ := id h
  have T := h.tok h0
  have e0 : ∀ m : mC, P_X6_of m 0 = some (m 21 0) := fun m => of_n (k := 0) (by decide)
  by_cases h8N : N = 8
  · have hf : ¬ (P_X3_fail c 6) 16 9 = 0 := by rw [fail_0 h0]; exact (by decide : ¬ (6 : Int32) = 0)
    refine ⟨P_X3_fail c 6, ?_, ?_⟩
    · rw [endLine_f hf]
      unfold P_X3_readPhase mBd
      rw [n1, if_neg (by rw [h8N]; decide)]
    · unfold P_X6_aPhase
      rw [e0, n2]
      simp only [mBo]
      rw [if_pos (show nI N = 8 by rw [h8N]; rfl)]
      exact ok_bo (fl_t (x := 6) h14 h7 h0 T.1 T.k.2.2.2.2 (by decide)) (fun p z => ok_s (Or.inr ⟨z.1, z.2⟩))
  · have hN : N < 8 := by omega
    obtain ⟨e, he, p3, p12⟩ := T.p (by rw [k1]; decide)
    obtain ⟨r1, a1, a2, a3⟩ := ts_step X h14 h7 h8 h0 he p3 p12
    obtain ⟨p5, e5, g5⟩ := num_eq a2 0 1
    -- the class's rest
    have eC : P_X3_readPhase c = (if ((P_X3_takeNumber (P_X3_takeNumber (P_X3_step c) 0 1).2 0 1).2 16 9) = 0 then P_X3_endLine (P_X3_readMarks (P_X2_addPhase (P_X3_takeNumber (P_X3_takeNumber (P_X3_step c) 0 1).2 0 1).2 (P_X3_takeNumber (P_X3_step c) 0 1).1 (P_X3_takeNumber (P_X3_takeNumber (P_X3_step c) 0 1).2 0 1).1) ((P_X2_addPhase (P_X3_takeNumber (P_X3_takeNumber (P_X3_step c) 0 1).2 0 1).2 (P_X3_takeNumber (P_X3_step c) 0 1).1 (P_X3_takeNumber (P_X3_takeNumber (P_X3_step c) 0 1).2 0 1).1 1 0) - 1)) else P_X3_endLine (P_X3_takeNumber (P_X3_takeNumber (P_X3_step c) 0 1).2 0 1).2) := by
      unfold P_X3_readPhase J_X3_readPhase_66 mBd
      rw [n1, if_pos (show nI N < 8 from (nI_ltI (b := 8) (by omega) (by decide)).mpr hN)]
    have s6a : Kp s6 c (P_X3_step c) := k6_P_X3_step (c0 := c) Kp.rf
    have s6b : Kp s6 c (P_X3_takeNumber (P_X3_step c) 0 1).2 := k6_P_X3_takeNumber s6a
    have s6c : Kp s6 c (P_X3_takeNumber (P_X3_takeNumber (P_X3_step c) 0 1).2 0 1).2 := k6_P_X3_takeNumber s6b
    have kf2 : ∀ m : mC, ¬ m 16 9 = 0 → Kp sF m (P_X3_takeNumber m 0 1).2 := fun m hm => kf_P_X3_takeNumber hm Kp.rf
    generalize hw1 : P_X3_takeNumber (P_X3_step c) 0 1 = w1 at *
    generalize hw2 : P_X3_takeNumber w1.2 0 1 = w2 at *
    have o1 : r1 21 = r 21 := sR_o a3 21 (by decide)
    have eR : P_X6_aPhase r = (mBo (α := Int32) none (P_X6_of r1 0) (fun v4 => (mBo (α := Int32 × mC) none (P_X6_takesNumber r1 0 1) (fun p5 => (if p5.1 = 0 then (some (0, p5.2)) else (mBo (α := mC) none (P_X6_putsPhase p5.2 v4 0 (p5.2 20 20)) (fun c6 => (mBo (α := Int32 × mC) none (P_X6_takesNumber c6 0 1) (fun p7 => (if p7.1 = 0 then (some (0, p7.2)) else (mBo (α := mC) none (P_X6_putsPhase p7.2 v4 1 (p7.2 20 20)) (fun c8 => (mBo (α := mC) none (P_X6_putsPhase c8 v4 2 5) (fun c9 => (mBo (α := mC) none (P_X6_putsPhase c9 v4 3 2) (fun c10 => (mBo (α := mC) none (P_X6_putsPhase c10 v4 4 20) (fun c11 => (mBo (α := mC) none (P_X6_putsPhase c11 v4 5 3) (fun c12 => (mBo (α := mC) none (P_X6_putsPhase c12 v4 6 1) (fun c13 => (mWh none (B_X6_aPhase_108 v4) (0, c13)))))))))))))))))))))))) := by
      unfold P_X6_aPhase
      rw [e0, n2]
      simp only [mBo]
      rw [if_neg (show ¬ nI N = 8 from fun z => h8N (nI_j (b := 8) (by omega) (by decide) z)), a1]
    rw [e0, o1, n2, e5] at eR
    simp only [mBo] at eR
    rcases g5 with ⟨b1, b2, b3, b4, b5⟩ | ⟨b1, b2⟩
    · rw [if_neg (by rw [b1]; decide), show P_X6_putsPhase p5.2 (nI N) 0 (p5.2 20 20) = some (mP p5.2 21 (32 + 18 * N + 0) (p5.2 20 20)) from putsP_n (w := 0) hN (by decide)] at eR
      dsimp only at eR
      have b2' : TS n b w1.2 (mP p5.2 21 (32 + 18 * N + 0) (p5.2 20 20)) := b2.pl rfl rfl rfl rfl
      obtain ⟨p7, e7, g7⟩ := num_eq b2' 0 1
      rw [hw2] at g7
      rw [e7] at eR
      dsimp only at eR
      rcases g7 with ⟨d1, d2, d3, d4, d5⟩ | ⟨d1, d2⟩
      · rw [if_neg (by rw [d1]; decide), show P_X6_putsPhase p7.2 (nI N) 1 (p7.2 20 20) = some (mP p7.2 21 (32 + 18 * N + 1) (p7.2 20 20)) from putsP_n (w := 1) hN (by decide)] at eR
        dsimp only at eR
        rw [show ∀ m : mC, P_X6_putsPhase m (nI N) 2 5 = some (mP m 21 (32 + 18 * N + 2) 5) from fun m => putsP_n (w := 2) hN (by decide)] at eR
        dsimp only at eR
        rw [show ∀ m : mC, P_X6_putsPhase m (nI N) 3 2 = some (mP m 21 (32 + 18 * N + 3) 2) from fun m => putsP_n (w := 3) hN (by decide)] at eR
        dsimp only at eR
        rw [show ∀ m : mC, P_X6_putsPhase m (nI N) 4 20 = some (mP m 21 (32 + 18 * N + 4) 20) from fun m => putsP_n (w := 4) hN (by decide)] at eR
        dsimp only at eR
        rw [show ∀ m : mC, P_X6_putsPhase m (nI N) 5 3 = some (mP m 21 (32 + 18 * N + 5) 3) from fun m => putsP_n (w := 5) hN (by decide)] at eR
        dsimp only at eR
        rw [show ∀ m : mC, P_X6_putsPhase m (nI N) 6 1 = some (mP m 21 (32 + 18 * N + 6) 1) from fun m => putsP_n (w := 6) hN (by decide)] at eR
        dsimp only at eR
        generalize hc13 : mP (mP (mP (mP (mP (mP p7.2 21 (32 + 18 * N + 1) (p7.2 20 20)) 21 (32 + 18 * N + 2) 5) 21 (32 + 18 * N + 3) 2) 21 (32 + 18 * N + 4) 20) 21 (32 + 18 * N + 5) 3) 21 (32 + 18 * N + 6) 1 = c13 at eR
        have hf : ∀ q, c13 21 q = if q = 32 + 18 * N then w1.1 else if q = 32 + 18 * N + 1 then w2.1 else if 32 + 18 * N + 2 ≤ q ∧ q < 32 + 18 * N + 7 then us (q - (32 + 18 * N + 2)) else r 21 q := by
          intro q
          rw [← hc13, rd21, rd21, rd21, rd21, rd21, rd21, d4, d3 21 (by decide), rd21, b4, b3 21 (by decide), o1]
          by_cases z6 : q = 32 + 18 * N + 6
          · rw [if_pos z6, if_neg (by omega), if_neg (by omega), if_pos (by omega), show q - (32 + 18 * N + 2) = 4 from by omega]; rfl
          rw [if_neg z6]
          by_cases z5 : q = 32 + 18 * N + 5
          · rw [if_pos z5, if_neg (by omega), if_neg (by omega), if_pos (by omega), show q - (32 + 18 * N + 2) = 3 from by omega]; rfl
          rw [if_neg z5]
          by_cases z4 : q = 32 + 18 * N + 4
          · rw [if_pos z4, if_neg (by omega), if_neg (by omega), if_pos (by omega), show q - (32 + 18 * N + 2) = 2 from by omega]; rfl
          rw [if_neg z4]
          by_cases z3 : q = 32 + 18 * N + 3
          · rw [if_pos z3, if_neg (by omega), if_neg (by omega), if_pos (by omega), show q - (32 + 18 * N + 2) = 1 from by omega]; rfl
          rw [if_neg z3]
          by_cases z2 : q = 32 + 18 * N + 2
          · rw [if_pos z2, if_neg (by omega), if_neg (by omega), if_pos (by omega), show q - (32 + 18 * N + 2) = 0 from by omega]; rfl
          rw [if_neg z2]
          by_cases z1 : q = 32 + 18 * N + 1
          · rw [if_pos z1, if_neg (by omega), if_pos z1]
          rw [if_neg z1]
          by_cases z0 : q = 32 + 18 * N + 0
          · rw [if_pos z0, if_pos (by omega)]
          rw [if_neg z0, if_neg (by omega), if_neg (by omega), if_neg (by omega)]
        have hT13 : TS n b w2.2 c13 := by rw [← hc13]; exact d2.pl rfl rfl rfl rfl
        have hx2 : PX N w2.2 (r 21) := hx.c (fun j hj => s6_o s6c j (by omega))
        have n12 : w2.2 1 0 = nI N := by rw [s6_o s6c 1 (by decide)]; exact n1
        rcases hT13.2.2.2.2 with ⟨q0, _⟩ | B
        · -- the marks
          have hg := addPhase_eq (x1 := w1.1) (x2 := w2.1) hN n12 hx2.2.2.1 hx2.2.2.2.1
          have hM := PM.i hN hx2 n2 hzz hg hf
          generalize P_X2_addPhase w2.2 w1.1 w2.1 = c4 at *
          obtain ⟨c1, k2, k3⟩ := marks_eq (n := n) (b := b) hN 10 0 c4 c13 (by decide) (by decide) (hT13.pl (hg.2.2.2.2.2.2.2.2.2 16 (by decide)) (hg.2.2.2.2.2.2.2.2.2 19 (by decide)) rfl rfl) hM
          refine ⟨c1, ?_, ?_⟩
          · rw [eC, if_pos q0, hM.2.1, show nI (N + 1) - 1 = nI N from by rw [← nI_1, Int32.add_sub_cancel]]
            exact k2
          · rw [eR]
            exact k3
        · -- a bad token behind the second number
          have q0 : ¬ w2.2 16 9 = 0 := by rw [B.1]; decide
          refine ⟨w2.2, by rw [eC, if_neg q0], ?_⟩
          rw [eR]
          have ek : P_X6_key c13 = some (-1) := by
            unfold P_X6_key
            rw [if_neg (by rw [B.2.2.2]; decide)]
          have eB : B_X6_aPhase_108 (nI N) (0, c13) = .inr (some (1, mP c13 21 0 (c13 21 0 + 1))) := by
            unfold B_X6_aPhase_108 mBd
            dsimp only
            rw [ek]
            simp only [mBo]
            rw [if_pos (by decide)]
            rfl
          rw [mWh_eq tm_X6_aPhase_108, eB]
          exact ok_s (Or.inl ⟨rfl, hT13.pl rfl rfl rfl rfl, fun z => absurd z q0⟩)
      · rw [if_pos d1] at eR
        refine ⟨w2.2, by rw [eC, if_neg d2.1], ?_⟩
        rw [eR]
        exact ok_s (Or.inr ⟨rfl, d2⟩)
    · rw [if_pos b1] at eR
      have f2 := kf2 w1.2 b2.1
      rw [hw2] at f2
      have d2 := b2.k f2
      refine ⟨w2.2, by rw [eC, if_neg d2.1], ?_⟩
      rw [eR]
      exact ok_s (Or.inr ⟨rfl, d2⟩)
theorem cyc_same (x : Int32) : P_X5_isCycle x = P_X6_isCycle x := by
  unfold P_X5_isCycle P_X6_isCycle P_X6_isFrom J_X5_isCycle_17 J_X5_isCycle_21 J_X6_isCycle_16 J_X6_isFrom_14 mBd
  by_cases z : x = 0
  · rw [if_pos z, if_pos z]
  · rw [if_neg z, if_neg z]
    by_cases z2 : x < 20
    · simp only [if_pos z2]; rfl
    · simp only [if_neg z2]
      by_cases z3 : 240 < x
      · simp only [if_pos z3]; rfl
      · simp only [if_neg z3]; rfl
theorem key_19 (r : mC) (x : Int32) : P_X6_key (mP r 20 19 x) = P_X6_key r := rfl
/-- the class's told cell, the reference's: a clock's line begins -/
theorem told_eq {n : Nat} {b : Nat → Int32} {c r : mC} (h : TS n b c r) (h0 : c 16 9 = 0) {v : Int32} (ev : P_X6_key r = some v) {i k : Nat} (hi : i < 17) (hkk : wd i = k) (hv : v = nI i) {t u : Int32} (hu : P_X6_has (r 20 19) u = 0) (ht : c 16 8 &&& t = 0) (hup : Td (c 16 8 ||| t) (r 20 19 ||| ((1 : Int32) <<< (u &&& 31)))) : ∃ r2, P_X6_ahead (mP r 20 19 (r 20 19 ||| ((1 : Int32) <<< (u &&& 31)))) = some r2 ∧ TS n b (P_X3_takeWord k (P_X3_tellOnce c t)) r2 ∧ r2 21 = r 21 := by
  subst hkk
  obtain ⟨X, h14, h7, h8, ht'⟩ := id h
  have T := h.tok h0
  have e1 : P_X3_tellOnce c t = mP c 16 8 (c 16 8 ||| t) := by
    unfold P_X3_tellOnce J_X3_tellOnce_21
    rw [if_pos h0, if_pos ht]
  have X1 : CX n b (mP c 16 8 (c 16 8 ||| t)) (mP r 20 19 (r 20 19 ||| ((1 : Int32) <<< (u &&& 31)))) := (X.c rfl rfl).r rfl rfl
  have T1 : Tok n b (mP c 16 8 (c 16 8 ||| t)) (mP r 20 19 (r 20 19 ||| ((1 : Int32) <<< (u &&& 31)))) := T
  obtain ⟨v', ev', hv', hk', hw'⟩ := key_eq X1 T1
  rw [key_19, ev] at ev'
  have evv : v' = nI i := (Option.some.inj ev').symm.trans hv
  have k1 : c 16 5 = 1 := hk'.resolve_left (fun z => by
    rw [evv] at z
    have : ¬ nI i < 0 := nI_pos (by omega)
    rw [z] at this; exact this (by decide))
  obtain ⟨e, he, p3, p12⟩ := T.p (by rw [k1]; decide)
  obtain ⟨r2, a1, a2, a3⟩ := ts_step (c := mP c 16 8 (c 16 8 ||| t)) (r := mP r 20 19 (r 20 19 ||| ((1 : Int32) <<< (u &&& 31)))) X1 h14 h7 hup h0 he p3 p12
  refine ⟨r2, a1, ?_, sR_o a3 21 (by decide)⟩
  rw [e1]
  unfold P_X3_takeWord mBd
  rw [if_pos (show (mP c 16 8 (c 16 8 ||| t)) 16 9 = 0 from h0), hw' i hi, if_pos evv]
  exact a2
theorem PX.y {N : Nat} {c : mC} {f : Nat → Int32} {v : Int32} (h : PX N c f) : PX N (mP c 1 1 v) (upF f 2 v) := by
  obtain ⟨h1, h2, h3, h4, h5, h6, h7⟩ := h
  refine ⟨h1, fun p hp => ⟨?_, ?_, fun q hq => ?_⟩, h3, h4, rfl, ?_, fun w hw => ?_⟩
  · rw [upF_n (by omega)]; exact (h2 p hp).1
  · rw [upF_n (by omega)]; exact (h2 p hp).2.1
  · rw [upF_n (by omega)]; exact (h2 p hp).2.2 q hq
  · rw [upF_n (by decide)]; exact h6
  · rw [upF_n (by omega)]; exact h7 w hw
theorem PX.o {N : Nat} {c : mC} {f : Nat → Int32} {v : Int32} (h : PX N c f) : PX N (mP c 1 2 v) (upF f 3 v) := by
  obtain ⟨h1, h2, h3, h4, h5, h6, h7⟩ := h
  refine ⟨h1, fun p hp => ⟨?_, ?_, fun q hq => ?_⟩, h3, h4, ?_, rfl, fun w hw => ?_⟩
  · rw [upF_n (by omega)]; exact (h2 p hp).1
  · rw [upF_n (by omega)]; exact (h2 p hp).2.1
  · rw [upF_n (by omega)]; exact (h2 p hp).2.2 q hq
  · rw [upF_n (by decide)]; exact h5
  · rw [upF_n (by omega)]; exact h7 w hw
theorem up21 (r : mC) (k : Nat) (v : Int32) : (mP r 21 k v) 21 = upF (r 21) k v := by
  funext q
  rw [rd21]; rfl
theorem PZ.y {c : mC} {f : Nat → Int32} {v : Int32} (h : PZ c f) : PZ (mP c 1 1 v) (upF f 2 v) := by
  obtain ⟨N, h1, h2, h3, h4⟩ := h
  exact ⟨N, h1.y, h2, by rw [upF_n (by decide)]; exact h3, fun p k a b d => by rw [upF_n (by omega)]; exact h4 p k a b d⟩
theorem PZ.o {c : mC} {f : Nat → Int32} {v : Int32} (h : PZ c f) : PZ (mP c 1 2 v) (upF f 3 v) := by
  obtain ⟨N, h1, h2, h3, h4⟩ := h
  exact ⟨N, h1.o, h2, by rw [upF_n (by decide)]; exact h3, fun p k a b d => by rw [upF_n (by omega)]; exact h4 p k a b d⟩
/-- told already: the class goes on behind its fault -/
theorem told_f {c r : mC} (h14 : Z14 r) (h7 : c 16 7 = r 20 18) (h0 : c 16 9 = 0) (h4 : c 16 4 = r 20 11) (h10 : ¬ r 20 10 = 1) {t : Int32} (ht : ¬ c 16 8 &&& t = 0) : ok (fun p : Int32 × mC => p.1 = 0 ∧ Fa (P_X3_tellOnce c t) p.2) (P_X6_fails r 5) := by
  have e1 : P_X3_tellOnce c t = mP (P_X3_fail c 5) 16 8 ((P_X3_fail c 5) 16 8 ||| t) := by
    unfold P_X3_tellOnce J_X3_tellOnce_21 mBd
    rw [if_pos h0, if_neg ht]
  refine ok_mo (fl_t (x := 5) h14 h7 h0 h4 h10 (by decide)) (fun p z => ⟨z.1, ?_⟩)
  rw [e1]
  exact z.2
theorem cycle_eq {n : Nat} {b : Nat → Int32} {c r : mC} (h : TS n b c r) (h0 : c 16 9 = 0) (ev : P_X6_key r = some (nI 11)) (hz : PZ c (r 21)) : ∃ c1, P_X3_readCycle c = P_X3_endLine c1 ∧ ok (Ln n b c1) (P_X6_aClock r 11) := by
  obtain ⟨X, h14, h7, h8, ht⟩ := id h
  have T := h.tok h0
  obtain ⟨a, ha, t1, t2⟩ := id h8
  have tA := (td_all a ha).1
  have tU := (td_up a ha).1
  rw [← t1, ← t2] at tA
  -- the class's rest as one row
  have eC : P_X3_readCycle c = (if ((P_X3_takeWord 1 (P_X3_tellOnce c 4)) 16 9) = 0 then (if ((P_X3_takeWord 1 (P_X3_tellOnce c 4)) 16 5) = 2 then (if P_X5_isCycle ((P_X3_takeWord 1 (P_X3_tellOnce c 4)) 16 6) = 0 then J_X3_readCycle_41 (P_X3_fail (P_X3_takeWord 1 (P_X3_tellOnce c 4)) 4) else J_X3_readCycle_41 (P_X3_takeWord 1 (P_X3_tellOnce c 4))) else J_X3_readCycle_41 (P_X3_takeWord 1 (P_X3_tellOnce c 4))) else J_X3_readCycle_41 (P_X3_takeWord 1 (P_X3_tellOnce c 4))) := by
    unfold P_X3_readCycle mBd
    rfl
  -- behind a fault
  have fj : ∀ m : mC, ¬ m 16 9 = 0 → J_X3_readCycle_41 m = P_X3_endLine (mP m 1 1 0) := fun m hm => by
    unfold J_X3_readCycle_41 P_X3_takeNumber mBd
    rw [if_neg hm]
  have s6a : Kp s6 c (P_X3_takeWord 1 (P_X3_tellOnce c 4)) := k6_P_X3_takeWord (k6_P_X3_tellOnce (c0 := c) Kp.rf)
  by_cases hb : P_X6_has (r 20 19) 11 = 0
  · obtain ⟨r2, a1, a2, a3⟩ := told_eq (t := 4) (u := 11) h h0 ev (i := 11) (k := 1) (by decide) rfl rfl hb (tA.mpr hb) (by rw [t1, t2]; exact tU)
    generalize P_X3_takeWord 1 (P_X3_tellOnce c 4) = c2 at *
    have eR : P_X6_aClock r 11 = (if (r2 20 10) = 3 then (mBd (α := Int32) (P_X6_isCycle (r2 20 13)) (fun v3 => (if v3 = 0 then (J_X6_aClock_76 r2) else (J_X6_aClock_94 r2 2)))) else (mBo (α := Int32 × mC) none (P_X6_fails r2 2) (fun p7 => (some (p7.1, p7.2))))) := by
      unfold P_X6_aClock mBd
      dsimp only
      rw [if_pos hb, a1]
      rfl
    rw [eR]
    obtain ⟨X2, i14, i7, i8, it⟩ := id a2
    rcases it with ⟨i0, T2⟩ | B2
    · rw [eC, if_pos i0]
      by_cases k : c2 16 5 = 2
      · obtain ⟨m, hm, e6, e13⟩ := T2.n k
        obtain ⟨e, he, p3, p12⟩ := T2.p (by rw [k]; decide)
        rw [if_pos k, if_pos (T2.k.1.mp k), e6, e13, cyc_same]
        unfold mBd
        dsimp only
        by_cases w : P_X6_isCycle (nI m) = 0
        · rw [if_pos w, if_pos w]
          have hf : ¬ (P_X3_fail c2 4) 16 9 = 0 := by rw [fail_0 i0]; exact (by decide : ¬ (4 : Int32) = 0)
          refine ⟨_, fj _ hf, ?_⟩
          exact ok_bo (fl_t (x := 4) i14 i7 i0 T2.1 T2.k.2.2.2.2 (by decide)) (fun p z => ok_s (Or.inr ⟨z.1, z.2.k (Kp.rf.w rfl)⟩))
        · rw [if_neg w, if_neg w]
          have hm240 : m ≤ 240 := by
            have : ¬ 240 < m := fun z => w (by
              unfold P_X6_isCycle P_X6_isFrom mBd
              dsimp only
              rw [if_neg (show ¬ nI m = 0 from fun y => by have := nI_j (a := m) (b := 0) (by omega) (by decide) y; omega), if_neg (show ¬ nI m < 20 from fun y => by have := (nI_ltI (b := 20) (by omega) (by decide)).mp y; omega), if_pos (show (240 : Int32) < nI m from (nI_ltI (a := 240) (by decide) (by omega)).mpr z)]
              rfl)
            omega
          have ej : J_X3_readCycle_41 c2 = P_X3_endLine (mP (P_X3_step c2) 1 1 (nI m)) := by
            unfold J_X3_readCycle_41 P_X3_takeNumber mBd
            rw [if_pos i0, if_pos k, e6, if_neg (nI_pos (by omega)), if_pos (show nI m ≤ 240 from (nI_leI (b := 240) (by omega) (by decide)).mpr hm240)]
          obtain ⟨r', b1, b2, b3⟩ := ts_step (c := c2) (r := mP r2 21 2 (nI m)) (X2.r rfl rfl) i14 i7 i8 i0 he p3 p12
          refine ⟨_, ej, ?_⟩
          unfold J_X6_aClock_94 P_X6_takes
          rw [e13, show P_X6_puts r2 2 (nI m) = some (mP r2 21 2 (nI m)) from rfl]
          simp only [mBo]
          rw [b1]
          refine ok_s (Or.inl ⟨rfl, b2.pl rfl rfl rfl rfl, fun _ => ?_⟩)
          show PZ _ (r' 21)
          rw [sR_o b3 21 (by decide), up21, a3]
          exact PZ.y ((hz.k s6a).k (k6_P_X3_step (c0 := c2) Kp.rf))
      · rw [if_neg k, if_neg (fun z => k (T2.k.1.mpr z))]
        have ej : J_X3_readCycle_41 c2 = P_X3_endLine (mP (P_X3_fail c2 2) 1 1 0) := by
          unfold J_X3_readCycle_41 P_X3_takeNumber mBd
          rw [if_pos i0, if_neg k]
        refine ⟨_, ej, ?_⟩
        exact ok_bo (fl_t (x := 2) i14 i7 i0 T2.1 T2.k.2.2.2.2 (by decide)) (fun p z => ok_s (Or.inr ⟨z.1, z.2.k (Kp.rf.w rfl)⟩))
    · have hn : ¬ c2 16 9 = 0 := by rw [B2.1]; decide
      refine ⟨mP c2 1 1 0, by rw [eC, if_neg hn]; exact fj _ hn, ?_⟩
      rw [if_neg (by rw [B2.2.2.2]; decide)]
      exact ok_bo (fl_b (x := 2) i14 i7 B2) (fun p z => ok_s (Or.inr ⟨z.1, z.2.k (Kp.rf.w rfl)⟩))
  · obtain ⟨p, ep, f1, f2⟩ := told_f h14 h7 h0 T.1 T.k.2.2.2.2 (t := 4) (fun z => hb (tA.mp z))
    have f3 := f2.k (kf_P_X3_takeWord f2.1 Kp.rf (n := 1))
    generalize P_X3_takeWord 1 (P_X3_tellOnce c 4) = c2 at *
    refine ⟨mP c2 1 1 0, by rw [eC, if_neg f3.1]; exact fj _ f3.1, ?_⟩
    unfold P_X6_aClock mBd
    dsimp only
    rw [if_neg hb, ep]
    exact ok_s (Or.inr ⟨f1, f3.k (Kp.rf.w rfl)⟩)
theorem offset_eq {n : Nat} {b : Nat → Int32} {c r : mC} (h : TS n b c r) (h0 : c 16 9 = 0) (ev : P_X6_key r = some (nI 12)) (hz : PZ c (r 21)) : ∃ c1, P_X3_readOffset c = P_X3_endLine c1 ∧ ok (Ln n b c1) (P_X6_aClock r 12) := by
  obtain ⟨X, h14, h7, h8, ht⟩ := id h
  have T := h.tok h0
  obtain ⟨a, ha, t1, t2⟩ := id h8
  have tA := (td_all a ha).2.1
  have tU := (td_up a ha).2.1
  rw [← t1, ← t2] at tA
  have eC : P_X3_readOffset c = P_X3_endLine (mP (P_X3_takeNumber (P_X3_takeWord 2 (P_X3_tellOnce c 8)) 0 239).2 1 2 (P_X3_takeNumber (P_X3_takeWord 2 (P_X3_tellOnce c 8)) 0 239).1) := by
    unfold P_X3_readOffset mBd
    rfl
  have s6a : Kp s6 c (P_X3_takeWord 2 (P_X3_tellOnce c 8)) := k6_P_X3_takeWord (k6_P_X3_tellOnce (c0 := c) Kp.rf)
  by_cases hb : P_X6_has (r 20 19) 12 = 0
  · obtain ⟨r2, a1, a2, a3⟩ := told_eq (t := 8) (u := 12) h h0 ev (i := 12) (k := 2) (by decide) rfl rfl hb (tA.mpr hb) (by rw [t1, t2]; exact tU)
    generalize P_X3_takeWord 2 (P_X3_tellOnce c 8) = c2 at *
    refine ⟨_, eC, ?_⟩
    have eR : P_X6_aClock r 12 = (if (r2 20 10) = 3 then (if (r2 20 13) ≤ 239 then (J_X6_aClock_94 r2 3) else (J_X6_aClock_76 r2)) else (mBo (α := Int32 × mC) none (P_X6_fails r2 2) (fun p7 => (some (p7.1, p7.2))))) := by
      unfold P_X6_aClock mBd
      dsimp only
      rw [if_pos hb, a1]
      rfl
    rw [eR]
    obtain ⟨X2, i14, i7, i8, it⟩ := id a2
    rcases it with ⟨i0, T2⟩ | B2
    · by_cases k : c2 16 5 = 2
      · obtain ⟨m, hm, e6, e13⟩ := T2.n k
        obtain ⟨e, he, p3, p12⟩ := T2.p (by rw [k]; decide)
        rw [if_pos (T2.k.1.mp k), e13]
        by_cases w : nI m ≤ 239
        · have ej : P_X3_takeNumber c2 0 239 = (nI m, P_X3_step c2) := by
            unfold P_X3_takeNumber mBd
            rw [if_pos i0, if_pos k, e6, if_neg (nI_pos (by omega)), if_pos w]
          obtain ⟨r', b1, b2, b3⟩ := ts_step (c := c2) (r := mP r2 21 3 (nI m)) (X2.r rfl rfl) i14 i7 i8 i0 he p3 p12
          rw [if_pos w, ej]
          unfold J_X6_aClock_94 P_X6_takes
          rw [e13, show P_X6_puts r2 3 (nI m) = some (mP r2 21 3 (nI m)) from rfl]
          simp only [mBo]
          rw [b1]
          refine ok_s (Or.inl ⟨rfl, b2.pl rfl rfl rfl rfl, fun _ => ?_⟩)
          show PZ _ (r' 21)
          rw [sR_o b3 21 (by decide), up21, a3]
          exact PZ.o ((hz.k s6a).k (k6_P_X3_step (c0 := c2) Kp.rf))
        · have ej : P_X3_takeNumber c2 0 239 = (0, P_X3_fail c2 4) := by
            unfold P_X3_takeNumber J_X3_takeNumber_39 mBd
            rw [if_pos i0, if_pos k, e6, if_neg (nI_pos (by omega)), if_neg w]
          rw [if_neg w, ej]
          exact ok_bo (fl_t (x := 4) i14 i7 i0 T2.1 T2.k.2.2.2.2 (by decide)) (fun p z => ok_s (Or.inr ⟨z.1, z.2.k (Kp.rf.w rfl)⟩))
      · rw [if_neg (fun z => k (T2.k.1.mpr z))]
        have ej : P_X3_takeNumber c2 0 239 = (0, P_X3_fail c2 2) := by
          unfold P_X3_takeNumber mBd
          rw [if_pos i0, if_neg k]
        rw [ej]
        exact ok_bo (fl_t (x := 2) i14 i7 i0 T2.1 T2.k.2.2.2.2 (by decide)) (fun p z => ok_s (Or.inr ⟨z.1, z.2.k (Kp.rf.w rfl)⟩))
    · have hn : ¬ c2 16 9 = 0 := by rw [B2.1]; decide
      have ej : P_X3_takeNumber c2 0 239 = (0, c2) := by
        unfold P_X3_takeNumber mBd
        rw [if_neg hn]
      rw [if_neg (by rw [B2.2.2.2]; decide), ej]
      exact ok_bo (fl_b (x := 2) i14 i7 B2) (fun p z => ok_s (Or.inr ⟨z.1, z.2.k (Kp.rf.w rfl)⟩))
  · obtain ⟨p, ep, f1, f2⟩ := told_f h14 h7 h0 T.1 T.k.2.2.2.2 (t := 8) (fun z => hb (tA.mp z))
    have f3 := f2.k (kf_P_X3_takeWord f2.1 Kp.rf (n := 2))
    generalize P_X3_takeWord 2 (P_X3_tellOnce c 8) = c2 at *
    have f4 := f3.k (kf_P_X3_takeNumber f3.1 Kp.rf (x1 := 0) (x2 := 239))
    refine ⟨_, eC, ?_⟩
    unfold P_X6_aClock mBd
    dsimp only
    rw [if_neg hb, ep]
    exact ok_s (Or.inr ⟨f1, f4.k (Kp.rf.w rfl)⟩)
