/-! The clocks alike: reading, ticks, the clock's call, what is on paper -/
theorem cy_readText {c : mC} {x1 : Int32} : pp (fun p : mC => CYr c p) (P_X3_readText c x1) := by
  refine pp_bo (P := fun c1 : mC => c1 1 1 = 0) (show (P_X2_wipe c) 1 1 = 0 from rfl) (fun c1 h1 => pp_bd (fun v2 => pp_bo (cy_P_X3_step (c0 := c) (fun _ => show P_X5_isCycle (c1 1 1) = 1 by rw [h1]; rfl)) (fun c3 h3 => ?_)))
  refine pp_wh (fun s : Int32 × mC => CYr c s.2) tm_X3_readText_56 ?_ h3
  rintro ⟨x2, d⟩ h
  have h : CYr c d := h
  show pp2 _ _ (if 700 < x2 then _ else _)
  exact pp2_if (fun _ => pp2_r h) (fun _ => pp2_if (fun _ => pp2_if (fun _ => pp2_r h) (fun _ => pp2_bd (fun v1 => pp2_if (fun _ => pp2_bd (fun v2 => pp2_if (fun _ => pp2_bd (fun v3 => pp2_if (fun _ => pp2_bd (fun v4 => pp2_if (fun _ => pp2_bo (cy_P_X3_fail h (by decide)) (fun c5 h5 => pp2_l h5)) (fun _ => pp2_bo (cy_P_X3_readBreak h) (fun c6 h6 => pp2_l h6)))) (fun _ => pp2_bo (cy_P_X3_readOffset h) (fun c8 h8 => pp2_l h8)))) (fun _ => pp2_bo (cy_P_X3_readCycle h) (fun c10 h10 => pp2_l h10)))) (fun _ => pp2_bo (cy_P_X3_readPhase h) (fun c12 h12 => pp2_l h12))))) (fun _ => pp2_r h))
theorem isCyc_n {x : Int32} (h : P_X5_isCycle x = 1) : x = 0 ∨ ∃ y, 20 ≤ y ∧ y ≤ 240 ∧ x = nI y := by
  unfold P_X5_isCycle J_X5_isCycle_17 J_X5_isCycle_21 at h
  by_cases z : x = 0
  · exact Or.inl z
  · rw [if_neg z] at h
    by_cases a : x < 20
    · rw [if_pos a] at h; exact absurd h (by decide)
    · rw [if_neg a] at h
      by_cases b : 240 < x
      · rw [if_pos b] at h; exact absurd h (by decide)
      · obtain ⟨y, hy, rfl⟩ := nI_of (x := x) (fun q => a (Int32.lt_trans q (by decide)))
        refine Or.inr ⟨y, ?_, ?_, rfl⟩
        · exact (nI_leI (a := 20) (by decide) (by omega)).mp (Int32.not_lt.mp a)
        · exact (nI_leI (b := 240) (by omega) (by decide)).mp (Int32.not_lt.mp b)
/-- one tick -/
theorem passD (c : mC) : Kp sD (P_X0_moveClock (mP c 0 12 (c 0 12 + 1))) (P_X0_passTick c) := by
  show pp (fun m : mC => Kp sD (P_X0_moveClock (mP c 0 12 (c 0 12 + 1))) m) _
  unfold P_X0_passTick
  exact pp_bo (P := fun m : mC => m = P_X0_moveClock (mP c 0 12 (c 0 12 + 1))) rfl (fun c1 h1 => by
    subst h1
    exact pp_if (fun _ => pp_bo (kd_P_X0_ageRing (show 8 ≤ 8 by decide) Kp.rf) (fun c2 h2 => pp_bo (kd_P_X0_ageRing (show 8 ≤ 9 by decide) h2) (fun c3 h3 => pp_bo (kd_P_X0_moveBreaks (h3.w rfl)) (fun c4 h4 => pp_if (fun _ => pp_bo (kd_P_X0_moveOn h4) (fun c5 h5 => kd_J_X0_passTick_58 h5)) (fun _ => kd_J_X0_passTick_58 h4))))) (fun _ => kd_J_X0_passTick_82 Kp.rf))
theorem CK.t1 {c c2 r r' : mC} (hR : CR c (r 21)) (h : CK c (r 21)) (kA : Kp sA c c2) (kD : Kp sD c c2) (z : Tk r r') : CK (P_X0_passTick c2) (r' 21) := by
  obtain ⟨c1, g1, r2, e2, kC, g2⟩ := z
  obtain ⟨N, ⟨_, _, _, e11, e12⟩, _, _, _, h10⟩ := id hR
  have f : ∀ q, q ≤ 4 → q ≠ 1 → c1 21 q = r 21 q := fun q hq h1 => by
    rw [g1.2.1 q (by
      have : q = 0 ∨ q = 1 ∨ q = 2 ∨ q = 3 ∨ q = 4 := by omega
      rcases this with rfl | rfl | rfl | rfl | rfl <;> rfl), rd21, if_neg h1]
  have f1 : c1 21 1 = r 21 1 + 1 := by rw [g1.2.1 1 rfl, rd21, if_pos rfl]
  obtain ⟨r3, e3, k3⟩ := clk_eq (c := mP c2 0 12 (c2 0 12 + 1)) (r := c1) (by
      show c2 0 12 + 1 = _
      rw [kA 0 12 rfl, f1, h10]) (by
      show c2 1 1 = _
      rw [kA 1 1 rfl, f 2 (by decide) (by decide), e11]) (by
      show c2 1 2 = _
      rw [kA 1 2 rfl, f 3 (by decide) (by decide), e12]) (h.k (c' := mP c2 0 12 (c2 0 12 + 1)) (f' := c1 21) (kD 1 1 rfl) (kD 0 13 rfl) (f 4 (by decide) (by decide)))
  have : r2 = r3 := Option.some.inj (e2.symm.trans e3)
  subst this
  have k := passD c2
  exact k3.k (k 1 1 rfl) (k 0 13 rfl) (g2.2.1 4 rfl)
theorem tick_k {n : Nat} (hn : n ≤ 300) : ∀ m q c r, q + m = n → St r → CR c (r 21) → CK c (r 21) → ∀ p, mWh none (B_X6_tick_19 (nI n)) (nI q, r) = some p → CK (mWh (fun _ _ => 0) (B_X0_passTicks_2 (nI n)) (nI q, c)) (p.2 21) := by
  intro m
  induction m with
  | zero =>
    intro q c r hq hs h hk p
    have e : q = n := by omega
    subst e
    rw [mWh_eq tm_X6_tick_19, mWh_eq tm_X0_passTicks_2]
    have eB : B_X6_tick_19 (nI q) (nI q, r) = .inr (some (r 21 1, mP r 20 1 0)) := by
      unfold B_X6_tick_19
      dsimp only
      rw [if_pos (Int32.le_refl _), show P_X6_of r 1 = some (r 21 1) from of_n (k := 1) (by decide)]
      rfl
    have eC : B_X0_passTicks_2 (nI q) (nI q, c) = .inr c := by
      unfold B_X0_passTicks_2
      dsimp only
      rw [if_pos (Int32.le_refl _)]
    rw [eB, eC]
    intro ep
    rw [← Option.some.inj ep]
    exact hk
  | succ m ih =>
    intro q c r hq hs h hk p
    have nl : ¬ nI n ≤ nI q := fun z => by have := (nI_leI (by omega) (by omega)).mp z; omega
    obtain ⟨r1, e1, z⟩ := t_ticks hs (x1 := 0)
    have eB : B_X6_tick_19 (nI n) (nI q, r) = .inl (nI (q + 1), r1) := by
      unfold B_X6_tick_19
      dsimp only
      rw [if_neg nl, e1, nI_1]
      rfl
    have eC : B_X0_passTicks_2 (nI n) (nI q, c) = .inl (nI (q + 1), P_X0_passTick c) := by
      unfold B_X0_passTicks_2 mBd
      dsimp only
      rw [if_neg nl, nI_1]
    rw [mWh_eq tm_X6_tick_19, mWh_eq tm_X0_passTicks_2, eB, eC]
    obtain ⟨k1, k2⟩ := tk_f z
    exact ih (q + 1) (P_X0_passTick c) r1 (by omega) z.st (h.t1 Kp.rf k1 k2) (CK.t1 h hk Kp.rf Kp.rf z) p
theorem tick_c {g : mG} (hs : St (g 7)) (h : CR (g 0) (g 7 21)) (hk : CK (g 0) (g 7 21)) (x1 : Int32) {p : Int32 × mC} (ep : P_X6_tick (g 7) x1 = some p) : CK ((P_X5_tick g x1).2 0) (p.2 21) := by
  have rf : ∀ {p : Int32 × mC}, P_X6_refuse (g 7) 1 = some p → p.2 21 = g 7 21 := fun {p} e => by
    rw [← Option.some.inj (show some ((-1 : Int32), mP (g 7) 20 1 1) = some p from e)]; rfl
  unfold P_X6_tick at ep
  unfold P_X5_tick J_X5_tick_12
  rw [mBd_eq] at ep
  by_cases z : P_X6_isFrom x1 1 300 = 0
  · rw [if_pos z] at ep
    have ep' := rf (show P_X6_refuse (g 7) 1 = some p from ep)
    rw [ep']
    rcases isF_300.mp z with w | w
    · rw [if_pos w]; exact hk
    · by_cases y : x1 < 1
      · rw [if_pos y]; exact hk
      · rw [if_neg y, if_neg w]; exact hk
  · have z2 := fun w => z (isF_300.mpr w)
    have y : ¬ x1 < 1 := fun w => z2 (Or.inl w)
    have y2 : x1 ≤ 300 := Decidable.byContradiction (fun w => z2 (Or.inr w))
    have y0 : ¬ x1 < 0 := fun w => y (Int32.lt_trans w (by decide))
    obtain ⟨n, hn, rfl⟩ := nI_of y0
    have hn3 := (nI_leI (b := 300) (by omega) (by decide)).mp y2
    rw [if_neg z] at ep
    rw [if_neg y, if_pos y2, mBd_eq]
    have hc := tick_k hn3 n 0 (g 0) (g 7) (Nat.zero_add n) hs h hk
    cases e : mWh none (B_X6_tick_19 (nI n)) (nI 0, g 7) with
    | none =>
      rw [show mWh none (B_X6_tick_19 (nI n)) (0, g 7) = none from e] at ep
      cases ep
    | some p' =>
      rw [show mWh none (B_X6_tick_19 (nI n)) (0, g 7) = some p' from e] at ep
      have pe : p' = p := Option.some.inj ep
      subst pe
      show CK ((P_X5_answer (mU g 0 (P_X0_passTicks (g 0) (nI n))) _).2 0) _
      rw [(ans_o _ _).2.2.1, mU_same]
      exact hc p' e
theorem run_k {n : Nat} (hn : n ≤ 300) {x3 : Int32} : ∀ m q x4 (g : mG) r, q + m = n → St r → CR (g 0) (r 21) → CK (g 0) (r 21) → ∀ p, mWh none (B_X6_run_40 (nI n)) (nI q, r) = some p → CK ((mWh (0, fun _ _ _ => 0) (B_X5_run_46 (nI n) x3) (x4, nI q, g)).2 0) (p.2 21) := by
  intro m
  induction m with
  | zero =>
    intro q x4 g r hq hs h hk p
    have e : q = n := by omega
    subst e
    rw [mWh_eq tm_X6_run_40, mWh_eq tm_X5_run_46]
    have eB : B_X6_run_40 (nI q) (nI q, r) = .inr (some (r 20 4, mP r 20 1 0)) := by
      unfold B_X6_run_40
      dsimp only
      rw [if_pos (Int32.le_refl _)]
      rfl
    have eC : B_X5_run_46 (nI q) x3 (x4, nI q, g) = .inr (P_X5_answer g (mTt 8 (g 0 15) - x3)) := by
      unfold B_X5_run_46
      dsimp only
      rw [if_pos (Int32.le_refl _)]
      rfl
    rw [eB, eC]
    intro ep
    rw [← Option.some.inj ep]
    show CK ((P_X5_answer g _).2 0) _
    rw [(ans_o _ _).2.2.1]
    exact hk
  | succ m ih =>
    intro q x4 g r hq hs h hk p
    have nl : ¬ nI n ≤ nI q := fun z => by have := (nI_leI (by omega) (by omega)).mp z; omega
    obtain ⟨r1, e1, z⟩ := t_ticks hs (x1 := 1)
    have eB : B_X6_run_40 (nI n) (nI q, r) = .inl (nI (q + 1), r1) := by
      unfold B_X6_run_40
      dsimp only
      rw [if_neg nl, e1, nI_1]
      rfl
    have eC : B_X5_run_46 (nI n) x3 (x4, nI q, g) = .inl ((P_X0_takeComers (g 0) x4).1, nI (q + 1), mU g 0 (P_X0_passTick (P_X0_takeComers (g 0) x4).2)) := by
      unfold B_X5_run_46
      dsimp only
      rw [if_neg nl, mBd_eq, mBd_eq, nI_1, mU_same, mU_mU]
    rw [mWh_eq tm_X6_run_40, mWh_eq tm_X5_run_46, eB, eC]
    obtain ⟨k1, k2⟩ := tk_f z
    have kA : Kp sA (g 0) (P_X0_takeComers (g 0) x4).2 := ka_P_X0_takeComers (c0 := g 0) Kp.rf
    have kD : Kp sD (g 0) (P_X0_takeComers (g 0) x4).2 := kd_P_X0_takeComers (c0 := g 0) Kp.rf
    refine ih (q + 1) _ _ r1 (by omega) z.st ?_ ?_ p
    · rw [mU_same]
      exact h.t1 kA k1 k2
    · rw [mU_same]
      exact CK.t1 h hk kA kD z
theorem run_c {g : mG} (hs : St (g 7)) (h : CR (g 0) (g 7 21)) (hk : CK (g 0) (g 7 21)) (x1 x2 : Int32) {p : Int32 × mC} (ep : P_X6_run (g 7) x1 x2 = some p) : CK ((P_X5_run g x1 x2).2 0) (p.2 21) := by
  have rf : ∀ {p : Int32 × mC}, J_X6_run_22 (g 7) = some p → CK ((J_X5_run_23 g).2 0) (p.2 21) := fun {p} e => by
    have e' := Option.some.inj (show some ((-1 : Int32), mP (g 7) 20 1 1) = some p from e)
    rw [← e']
    exact hk
  unfold P_X6_run at ep
  unfold P_X5_run
  rw [mBd_eq] at ep
  by_cases z : P_X6_isFrom x1 1 300 = 0
  · rw [if_pos z] at ep
    rcases isF_or.mp z with w | w
    · rw [if_pos w]; exact rf ep
    · by_cases y : x1 < 1
      · rw [if_pos y]; exact rf ep
      · rw [if_neg y, if_pos w]; exact rf ep
  · have z2 := fun w => z (isF_or.mpr w)
    have y : ¬ x1 < 1 := fun w => z2 (Or.inl w)
    have y2 : ¬ 300 < x1 := fun w => z2 (Or.inr w)
    have y0 : ¬ x1 < 0 := fun w => y (Int32.lt_trans w (by decide))
    obtain ⟨n, hn, rfl⟩ := nI_of y0
    have hn3 := (nI_leI (b := 300) (by omega) (by decide)).mp (Int32.not_lt.mp y2)
    rw [if_neg z, mBd_eq] at ep
    rw [if_neg y, if_neg y2]
    by_cases u : P_X6_isFrom x2 0 9999 = 0
    · rw [if_pos u] at ep
      rcases isF_or.mp u with w | w
      · rw [if_pos w]; exact rf ep
      · by_cases u1 : x2 < 0
        · rw [if_pos u1]; exact rf ep
        · rw [if_neg u1, if_neg (Int32.not_le.mpr w)]; exact rf ep
    · have u2 := fun w => u (isF_or.mpr w)
      rw [if_neg u] at ep
      rw [if_neg (fun w => u2 (Or.inl w)), if_pos (Int32.not_lt.mp (fun w => u2 (Or.inr w))), mBd_eq]
      have hc := run_k hn3 (x3 := mTt 8 (g 0 15)) n 0 x2 g (mP (mP (g 7) 20 3 x2) 20 4 0) (Nat.zero_add n) hs h hk
      cases e : mWh none (B_X6_run_40 (nI n)) (nI 0, mP (mP (g 7) 20 3 x2) 20 4 0) with
      | none =>
        rw [show mWh none (B_X6_run_40 (nI n)) (0, mP (mP (g 7) 20 3 x2) 20 4 0) = none from e] at ep
        cases ep
      | some p' =>
        rw [show mWh none (B_X6_run_40 (nI n)) (0, mP (mP (g 7) 20 3 x2) 20 4 0) = some p' from e] at ep
        have pe : p' = p := Option.some.inj ep
        subst pe
        exact hc p' e
/-- the clock's call -/
theorem clock_c {g : mG} (h : CR (g 0) (g 7 21)) (hk : CK (g 0) (g 7 21)) (x1 x2 : Int32) {p : Int32 × mC} (ep : P_X6_clock (g 7) x1 x2 = some p) : CK ((P_X5_clock g x1 x2).2 0) (p.2 21) := by
  obtain ⟨N, ⟨_, _, _, e11, e12⟩, _⟩ := id h
  have r1 : ∀ {p : Int32 × mC}, J_X6_clock_30 (g 7) = some p → CK ((J_X5_clock_30 g).2 0) (p.2 21) := fun {p} e => by
    have e' := Option.some.inj (show some ((-1 : Int32), mP (g 7) 20 1 1) = some p from e)
    rw [← e']
    exact hk
  have e2 : P_X6_of (g 7) 2 = some (g 7 21 2) := of_n (k := 2) (by decide)
  have e3 : P_X6_of (g 7) 3 = some (g 7 21 3) := of_n (k := 3) (by decide)
  have gv : ∀ (m : mC) (v : Int32) {p : Int32 × mC}, J_X6_clock_87 m v = some p → p = (v, mP m 20 1 0) := fun m v {p} e => (Option.some.inj (show some (v, mP m 20 1 0) = some p from e)).symm
  have c0 : P_X5_isCycle x2 = 1 → ∀ {p : Int32 × mC}, J_X6_clock_36 (g 7) 0 x2 = some p → CK ((J_X5_clock_36 g 0 x2).2 0) (p.2 21) := fun hy {p} e => by
    unfold J_X6_clock_36 at e
    rw [show (2 : Int32) + 0 = 2 from by decide, e2] at e
    simp only [mBo] at e
    unfold J_X5_clock_36 J_X5_clock_63 J_X5_clock_101
    rw [if_pos rfl, e11]
    by_cases z : g 7 21 2 = x2
    · rw [if_pos z] at e ⊢
      have e' := Option.some.inj (show some ((-1 : Int32), mP (g 7) 20 1 4) = some p from e)
      rw [← e']
      exact hk
    · rw [if_neg z] at e ⊢
      rw [show P_X6_puts (g 7) 2 x2 = some (mP (g 7) 21 2 x2) from puts_n (k := 2) (by decide)] at e
      dsimp only at e
      rw [if_pos trivial] at e
      rw [if_pos rfl]
      rw [mBd_eq, mBd_eq]
      have fin : ∀ v, p = (g 7 21 2, mP (mP (mP (g 7) 21 2 x2) 21 4 v) 20 1 0) → P_X0_takeCycle (g 0) x2 = mP (mP (g 0) 1 1 x2) 0 13 v → ((x2 = 0 ∧ v = 0) ∨ ∃ y k, 20 ≤ y ∧ y ≤ 240 ∧ x2 = nI y ∧ k < y ∧ v = nI k) → CK ((P_X5_answer (mU g 0 (P_X0_takeCycle (g 0) x2)) (g 7 21 2)).2 0) (p.2 21) := fun v ey ec hv => by
        rw [ey, (ans_o _ _).2.2.1, mU_same, ec]
        refine ⟨?_, hv⟩
        show v = (mP (mP (g 7) 21 2 x2) 21 4 v) 21 4
        rw [rd21, if_pos rfl]
      rcases isCyc_n hy with w | ⟨y, hy1, hy2, rfl⟩
      · subst w
        rw [if_pos rfl] at e
        exact fin 0 (gv _ _ e) rfl (Or.inl ⟨rfl, rfl⟩)
      · have yn : ¬ nI y = 0 := fun z => by have := nI_j (a := y) (b := 0) (by omega) (by decide) z; omega
        have yp : ¬ nI y ≤ 0 := fun z => by have := (nI_leI (a := y) (b := 0) (by omega) (by decide)).mp z; omega
        rw [if_neg yn, show P_X6_of (mP (g 7) 21 2 (nI y)) 4 = some ((mP (g 7) 21 2 (nI y)) 21 4) from of_n (k := 4) (by decide)] at e
        dsimp only at e
        rw [if_neg yn, rd21, if_neg (show ¬ (4 : Nat) = 2 by decide), ← hk.1] at e
        obtain ⟨k, hk1, hk2⟩ : ∃ k, k < 2 ^ 31 ∧ g 0 0 13 = nI k := by
          rcases hk.2 with ⟨_, k0⟩ | ⟨y', k, _, _, _, hky, ek⟩
          · exact ⟨0, by decide, k0⟩
          · exact ⟨k, by omega, ek⟩
        obtain ⟨f1, f2⟩ := fm_nat (k := k) (m := y) (by omega) (by omega) hk1
        rw [hk2, f2] at e
        refine fin _ (gv _ _ e) ?_ (Or.inr ⟨y, k % y, hy1, hy2, rfl, Nat.mod_lt _ (by omega), rfl⟩)
        unfold P_X0_takeCycle J_X0_takeCycle_25
        rw [if_neg yp, mBd_eq, show (mP (g 0) 1 1 (nI y)) 0 13 = g 0 0 13 from rfl, hk2, f1]
  have c1 : ∀ {p : Int32 × mC}, J_X6_clock_36 (g 7) 1 x2 = some p → CK ((J_X5_clock_36 g 1 x2).2 0) (p.2 21) := fun {p} e => by
    unfold J_X6_clock_36 at e
    rw [show (2 : Int32) + 1 = 3 from by decide, e3] at e
    simp only [mBo] at e
    unfold J_X5_clock_36 J_X5_clock_63 J_X5_clock_101
    rw [if_neg (by decide), e12]
    by_cases z : g 7 21 3 = x2
    · rw [if_pos z] at e ⊢
      have e' := Option.some.inj (show some ((-1 : Int32), mP (g 7) 20 1 4) = some p from e)
      rw [← e']
      exact hk
    · rw [if_neg z] at e ⊢
      rw [show P_X6_puts (g 7) 3 x2 = some (mP (g 7) 21 3 x2) from puts_n (k := 3) (by decide)] at e
      dsimp only at e
      rw [if_neg (by decide)] at e ⊢
      rw [mBd_eq, gv _ _ e, (ans_o _ _).2.2.1, mU_same]
      refine hk.k rfl rfl ?_
      show (mP (g 7) 21 3 x2) 21 4 = _
      rw [rd21, if_neg (by decide)]
  unfold P_X6_clock at ep
  unfold P_X5_clock
  by_cases a0 : x1 = 0
  · subst a0
    rw [if_pos rfl, mBd_eq, ← cyc_same] at ep
    rw [if_neg (by decide), if_neg (by decide), if_pos rfl, mBd_eq]
    by_cases z : P_X5_isCycle x2 = 0
    · rw [if_pos z] at ep ⊢; exact r1 ep
    · rw [if_neg z] at ep ⊢; exact c0 ((isCyc_01 _).resolve_left z) ep
  · by_cases a1 : x1 = 1
    · subst a1
      rw [if_neg (by decide), if_pos rfl, mBd_eq, ← isOf] at ep
      rw [if_neg (by decide), if_neg (by decide), if_neg (by decide), mBd_eq]
      by_cases z : P_X5_isOffset x2 = 0
      · rw [if_pos z] at ep ⊢; exact r1 ep
      · rw [if_neg z] at ep ⊢; exact c1 ep
    · rw [if_neg a0, if_neg a1] at ep
      by_cases z : x1 < 0
      · rw [if_pos z]; exact r1 ep
      · rw [if_neg z]
        obtain ⟨m, hm, rfl⟩ := nI_of z
        have b0 : ¬ m = 0 := fun y => a0 (by rw [y]; rfl)
        have b1 : ¬ m = 1 := fun y => a1 (by rw [y]; rfl)
        rw [if_pos (show (1 : Int32) < nI m from (nI_ltI (a := 1) (by decide) (by omega)).mpr (by omega))]
        exact r1 ep
/-- rows that leave both clocks -/
theorem CK.b {c c' r : mC} {o : Option (Int32 × mC)} (h : CK c (r 21)) (k : Kp sD c c') (ho : ok (fun p : Int32 × mC => HD r p.2) o) : ∀ p, o = some p → CK c' (p.2 21) := fun _ e => h.k (k 1 1 rfl) (k 0 13 rfl) (ok_po ho e).2.2
theorem CK.v {c c' r : mC} {o : Option (Int32 × mC)} (h : CK c (r 21)) (k : Kp sD c c') (ho : ok (RV (r 21)) o) : ∀ p, o = some p → CK c' (p.2 21) := fun _ e => h.k (k 1 1 rfl) (k 0 13 rfl) (ok_po ho e 4 (by decide))
/-- the clocks alike, also in what is kept -/
def R3 (k t : Nat) (g : mG) : Prop := R2 k t g ∧ CK (g 0) (g 7 21) ∧ ∀ i, i < k → CK (g (2 + i)) (fun q => g 7 21 (576 + 288 * i + q))
theorem R3.up {k t : Nat} {g g1 : mG} {c : mC} (h : R3 k t g) (z : R2 k t (mU g1 7 c)) (hm : Md sN g g1) (hp : H (g 7) c) (hc : CK (g1 0) (c 21)) : R3 k t (mU g1 7 c) := by
  obtain ⟨h0, _, h2⟩ := h
  have hk := h0.1.1.1.2.2.1
  refine ⟨z, ?_, fun i hi => ?_⟩
  · rw [mU_same, mU_ne _ _ (by decide)]; exact hc
  · have e : ∀ q, c 21 (576 + 288 * i + q) = g 7 21 (576 + 288 * i + q) := fun q => hp.2.2.1 _ (by omega)
    rw [mU_same, mU_ne _ _ (by omega), hm.1 _ (by omega) (by omega) (by omega), show (fun q => c 21 (576 + 288 * i + q)) = (fun q => g 7 21 (576 + 288 * i + q)) from funext e]
    exact h2 i hi
theorem lw_inv {g1 : mG} {v0 v w : Int32} {g2 : mG} {o : Option (Int32 × mC)} (e : mBo none o (fun q => some ((v0, q.1), mU g1 7 q.2)) = some ((v, w), g2)) : ∃ p, o = some p ∧ v0 = v ∧ p.1 = w ∧ g2 = mU g1 7 p.2 := by
  cases o with
  | none => cases e
  | some p =>
    have a := Option.some.inj e
    exact ⟨p, rfl, congrArg (fun s => s.1.1) a, congrArg (fun s => s.1.2) a, (congrArg (fun s => s.2) a).symm⟩
-- load
theorem anew_c (c : mC) : P_X0_beginAnew c 0 13 = 0 := by
  have e : ∃ c4, P_X0_beginAnew c = P_X0_startRings c4 ∧ c4 0 13 = 0 := ⟨_, rfl, rfl⟩
  obtain ⟨c4, e1, e2⟩ := e
  have k : Kp sD c4 (P_X0_startRings c4) := kd_P_X0_startRings (c0 := c4) Kp.rf
  rw [e1, k 0 13 rfl]
  exact e2
theorem CK.tf {c d : mC} {f : Nat → Int32} (h : CK c f) : CK (P_X0_takeFrom d c) f := h.k rfl rfl rfl
theorem CK.new {s d : mC} {f : Nat → Int32} (hs : P_X5_isCycle (s 1 1) = 1) (h4 : f 4 = 0) : CK (P_X0_beginAnew (P_X2_takeFrom d s)) f := by
  have e1 : P_X0_beginAnew (P_X2_takeFrom d s) 1 1 = s 1 1 := ((anew_o (P_X2_takeFrom d s)).2.1 1 (by decide)).trans (tf2_y d s).1
  have e2 := anew_c (P_X2_takeFrom d s)
  refine ⟨e2.trans h4.symm, ?_⟩
  rw [e1, e2]
  rcases isCyc_n hs with w | ⟨y, hy1, hy2, w⟩
  · exact Or.inl ⟨w, rfl⟩
  · exact Or.inr ⟨y, 0, hy1, hy2, w, by omega, rfl⟩
theorem sk_2 {k t : Nat} {g : mG} (h : R3 k t g) (a : Nat → Int32) : ∃ v w g2, lwR_2 g a = some ((v, w), g2) ∧ ∃ t, R3 k t g2 := by
  obtain ⟨h2, hC, hK⟩ := id h
  obtain ⟨hR, _, _⟩ := id h2
  obtain ⟨h0, hb, hf⟩ := id hR
  have hk := h0.1.2.2.1
  obtain ⟨v, w, g2, e, ⟨t', z⟩, _⟩ := sh_2 h2 a
  refine ⟨v, w, g2, e, t', ?_⟩
  by_cases hx : P_X6_isFrom (a 1) 0 (nI t) = 0
  · unfold lwR_2 at e
    rcases cl_load h0.2.2.2.1 h0.2.2.2.2.2.1 (x := a 1) with ⟨_, e'⟩ | ⟨q', _⟩
    · have hm : Md sD g (J_X5_load_12 g).2 := kl_J_X5_load_12 (S := sD) (Md.rf (g := g))
      have hm' : Md sN g (J_X5_load_12 g).2 := kl_J_X5_load_12 (S := sN) (Md.rf (g := g))
      have er : P_X6_load (g 7) (a 1) = some (-1, mP (g 7) 20 1 1) := by
        unfold P_X6_load
        rw [h0.2.2.1, mBd_eq, if_pos hx]
        rfl
      rw [e', hm.1 7 (by decide) (by decide) (by decide), er] at e
      have eg := congrArg Prod.snd (Option.some.inj e)
      dsimp only at eg
      subst eg
      have ck : CK ((J_X5_load_12 g).2 0) ((mP (g 7) 20 1 1) 21) := hC.k (hm.k 1 1 rfl) (hm.k 0 13 rfl) rfl
      refine ⟨z, ?_, fun i hi => ?_⟩
      · rw [mU_same, mU_ne _ _ (by decide)]; exact ck
      · rw [mU_same, mU_ne _ _ (by omega), hm.1 _ (by omega) (by omega) (by omega)]; exact hK i hi
    · exact absurd hx q'
  · obtain ⟨p, r', r2, ep, hl, ej, ⟨hL, hL2, hL3⟩, hT, hN⟩ := load_both h0 hb hx
    obtain ⟨c5, c6, cc⟩ := cl_load2 h0.2.2.2.1 hx
    rcases cl_load h0.2.2.2.1 h0.2.2.2.2.2.1 (x := a 1) with ⟨q', _⟩ | ⟨_, l1, l2, l3, l4⟩
    · exact absurd q' hx
    unfold lwR_2 at e
    rw [l1 7 (by decide) (by decide) (by decide), ep] at e
    have eg : mU (P_X5_load g (a 1)).2 7 p.2 = g2 := congrArg Prod.snd (Option.some.inj e)
    subst eg
    refine ⟨z, ?_, fun i hi => ?_⟩
    · rw [mU_same, mU_ne _ _ (show (0 : Nat) ≠ 7 by decide)]
      rcases hT with ⟨t1, t2, t3⟩ | hF
      · obtain ⟨p', e', j1, j2, j3, j4, j5⟩ := j120_good hL t2
        have pe : p' = p := Option.some.inj (e'.symm.trans ej)
        subst pe
        rcases cc with ⟨d1, _, d3⟩ | ⟨d1, _⟩
        · rw [d3]
          obtain ⟨_, _, lk, _⟩ := hL
          refine CK.new ((show CYr (g 5) (P_X3_readText (g 5) (a 1)) from cy_readText) d1) ?_
          rw [j2 4 rfl, lk 4 (by omega)]; exact hL3.2.1
        · exact absurd t1 d1
      · obtain ⟨p', e', j1, j2, j3, j4, j5⟩ := j120_bad hF.2.2.2.2
        have pe : p' = p := Option.some.inj (e'.symm.trans ej)
        subst pe
        rcases cc with ⟨d1, _⟩ | ⟨_, _, d3⟩
        · exact absurd d1 hF.1
        · rw [d3]
          obtain ⟨_, _, lk, _⟩ := hL
          refine hC.k rfl rfl ?_
          rw [j2 4 (by decide), lk _ (by omega), hL2 4 (by decide)]
    · have e7 : ∀ q, p.2 21 (576 + 288 * i + q) = g 7 21 (576 + 288 * i + q) := fun q => hl.2.2.1 _ (by omega)
      rw [mU_same, mU_ne _ _ (by omega), l1 _ (by omega) (by omega) (by omega), show (fun q => p.2 21 (576 + 288 * i + q)) = (fun q => g 7 21 (576 + 288 * i + q)) from funext e7]
      exact hK i hi
theorem sk_22 {k t : Nat} {g : mG} (h : R3 k t g) (a : Nat → Int32) : ∃ v w g2, lwR_22 g a = some ((v, w), g2) ∧ ∃ k, R3 k t g2 := by
  obtain ⟨h2, hC, hK⟩ := id h
  obtain ⟨hR, _, _⟩ := id h2
  obtain ⟨h0, hb, hf⟩ := id hR
  obtain ⟨v, w, g2, e, ⟨k', z⟩, _⟩ := sh_22 h2 a
  have hk := h0.1.2.2.1
  have e6 := h0.2.2.2.2.1
  refine ⟨v, w, g2, e, k', ?_⟩
  by_cases h3 : k = 3
  · subst h3
    unfold lwR_22 P_X5_keep at e
    have hm : Md sD g (P_X5_refuse g 3).2 := kl_P_X5_refuse (S := sD) (Md.rf (g := g))
    rw [e6, if_neg (show ¬ nI 3 < 3 by decide), hm.1 7 (by decide) (by decide) (by decide), keep_3 h0.1.2.2.2.1] at e
    have eg : mU (P_X5_refuse g 3).2 7 (mP (g 7) 20 1 3) = g2 := congrArg Prod.snd (Option.some.inj e)
    have ek : k' = 3 := by
      have a1 := z.1.1.2.2.2.2.1
      rw [← eg, mU_ne _ _ (by decide), hm.2.1 18 6 (by decide), e6] at a1
      exact (nI_j (by decide) (by have := z.1.1.1.2.2.1; omega) a1).symm
    subst ek
    subst eg
    refine ⟨z, ?_, fun i hi => ?_⟩
    · rw [mU_same, mU_ne _ _ (by decide)]; exact hC.k (hm.k 1 1 rfl) (hm.k 0 13 rfl) rfl
    · rw [mU_same, mU_ne _ _ (by omega), hm.1 _ (by omega) (by omega) (by omega)]; exact hK i hi
  · have hl : k < 3 := by omega
    have hc : g 6 18 6 < 3 := by
      rw [e6]
      exact Int32.not_le.mp (fun z => absurd ((nI_leI (a := 3) (by decide) (by omega)).mp z) (by omega))
    unfold lwR_22 P_X5_keep at e
    rw [if_pos hc] at e
    have a6 : kp1 g 6 = g 6 := by
      unfold kp1
      rw [e6, kat hl, mU_ne _ _ (by omega)]
    have ev : kp2 g 6 18 6 = nI (k + 1) := by
      unfold kp2
      rw [mU_same, mP_s, a6, e6]; exact nI_1 k
    have bo : ∀ i, i ≠ 6 → i ≠ 2 + k → kp2 g i = g i := fun i hi hn => by
      unfold kp2 kp1
      rw [mU_ne _ _ hi, e6, kat hl, mU_ne _ _ hn]
    have bk : kp2 g (2 + k) = P_X0_takeFrom (g (2 + k)) (g 0) := by
      unfold kp2 kp1
      rw [mU_ne _ _ (by omega), e6, kat hl, mU_same]
    have hm : Md sD (kp2 g) (P_X5_answer (kp2 g) (kp2 g 6 18 6)).2 := kl_P_X5_answer (S := sD) (Md.rf (g := kp2 g))
    rw [hm.1 7 (by decide) (by decide) (by decide), bo 7 (by decide) (by omega), keep_n hl h0.1.2.2.2.1] at e
    have eg := congrArg Prod.snd (Option.some.inj e)
    dsimp only at eg
    have ek : k' = k + 1 := by
      have a1 := z.1.1.2.2.2.2.1
      rw [← eg, mU_ne _ _ (by decide), hm.2.1 18 6 (by decide), ev] at a1
      exact (nI_j (by omega) (by have := z.1.1.1.2.2.1; omega) a1).symm
    subst ek
    subst eg
    have cell : ∀ q, (mP (mP (cpC (g 7) 0 (576 + 288 * k) 288) 20 2 (nI (k + 1))) 20 1 0) 21 q = if 21 = 21 ∧ 576 + 288 * k ≤ q ∧ q < 576 + 288 * k + 288 then g 7 21 (0 + (q - (576 + 288 * k))) else g 7 21 q := fun q => rfl
    refine ⟨z, ?_, fun i hi => ?_⟩
    · rw [mU_same, mU_ne _ _ (show (0 : Nat) ≠ 7 by decide)]
      have hC' : CK (kp2 g 0) (g 7 21) := by rw [bo 0 (by decide) (by omega)]; exact hC
      refine hC'.k (hm.k 1 1 rfl) (hm.k 0 13 rfl) ?_
      rw [cell, if_neg (by omega)]
    · rw [mU_same, mU_ne _ _ (by omega), hm.1 _ (by omega) (by omega) (by omega)]
      by_cases y : i = k
      · subst y
        rw [bk]
        refine (hC.k (f' := fun q => (mP (mP (cpC (g 7) 0 (576 + 288 * i) 288) 20 2 (nI (i + 1))) 20 1 0) 21 (576 + 288 * i + q)) rfl rfl ?_).tf
        show (mP (mP (cpC (g 7) 0 (576 + 288 * i) 288) 20 2 (nI (i + 1))) 20 1 0) 21 (576 + 288 * i + 4) = _
        rw [cell, if_pos (by omega), show 0 + (576 + 288 * i + 4 - (576 + 288 * i)) = 4 from by omega]
      · rw [bo _ (by omega) (by omega)]
        refine (hK i (by omega)).k rfl rfl ?_
        show (mP (mP (cpC (g 7) 0 (576 + 288 * k) 288) 20 2 (nI (k + 1))) 20 1 0) 21 (576 + 288 * i + 4) = _
        rw [cell, if_neg (by omega)]
theorem sk_23 {k t : Nat} {g : mG} (h : R3 k t g) (a : Nat → Int32) : ∃ v w g2, lwR_23 g a = some ((v, w), g2) ∧ ∃ k, R3 k t g2 := by
  obtain ⟨h2, hC, hK⟩ := id h
  obtain ⟨hR, _, _⟩ := id h2
  obtain ⟨h0, hb, hf⟩ := id hR
  obtain ⟨v, w, g2, e, ⟨k', z⟩, _⟩ := sh_23 h2 a
  refine ⟨v, w, g2, e, k', ?_⟩
  have hk := h0.1.2.2.1
  have e6 := h0.2.2.2.2.1
  unfold lwR_23 P_X5_back at e
  cases k with
  | zero =>
    have hm : Md sD g (P_X5_refuse g 5).2 := kl_P_X5_refuse (S := sD) (Md.rf (g := g))
    rw [e6, if_neg (show ¬ 1 ≤ nI 0 by decide), hm.1 7 (by decide) (by decide) (by decide), back_0 h0.1.2.2.2.1] at e
    have eg : mU (P_X5_refuse g 5).2 7 (mP (g 7) 20 1 5) = g2 := congrArg Prod.snd (Option.some.inj e)
    have ek : k' = 0 := by
      have a1 := z.1.1.2.2.2.2.1
      rw [← eg, mU_ne _ _ (by decide), hm.2.1 18 6 (by decide), e6] at a1
      exact (nI_j (by decide) (by have := z.1.1.1.2.2.1; omega) a1).symm
    subst ek
    subst eg
    refine ⟨z, ?_, fun i hi => absurd hi (by omega)⟩
    rw [mU_same, mU_ne _ _ (show (0 : Nat) ≠ 7 by decide)]
    exact hC.k (hm.k 1 1 rfl) (hm.k 0 13 rfl) rfl
  | succ i =>
    have hl : i < 3 := by omega
    have hc : 1 ≤ g 6 18 6 := by
      rw [e6]
      exact (nI_leI (a := 1) (by decide) (by omega)).mpr (by omega)
    rw [if_pos hc] at e
    have a6 : bk1 g 6 = mP (g 6) 18 6 (nI i) := by
      unfold bk1
      rw [mU_same, e6, ← nI_1, Int32.add_sub_cancel]
    have ao : ∀ j, j ≠ 6 → bk1 g j = g j := fun j hj => by
      unfold bk1
      rw [mU_ne _ _ hj]
    have e1 : bk1 g 6 18 6 = nI i := by rw [a6, mP_s]
    have b0 : bk2 g 0 = P_X0_takeFrom (g 0) (g (2 + i)) := by
      unfold bk2
      rw [mU_same, e1, kat hl, ao 0 (by decide), ao _ (by omega)]
    have bo : ∀ j, j ≠ 0 → j ≠ 6 → bk2 g j = g j := fun j h0 h6 => by
      unfold bk2
      rw [mU_ne _ _ h0, ao j h6]
    have ev : bk2 g 6 18 6 = nI i := by
      unfold bk2
      rw [mU_ne _ _ (by decide)]; exact e1
    have hm : Md sD (bk2 g) (P_X5_answer (bk2 g) (bk2 g 6 18 6)).2 := kl_P_X5_answer (S := sD) (Md.rf (g := bk2 g))
    rw [hm.1 7 (by decide) (by decide) (by decide), bo 7 (by decide) (by decide), back_n hl h0.1.2.2.2.1] at e
    have eg := congrArg Prod.snd (Option.some.inj e)
    dsimp only at eg
    have ek : k' = i := by
      have a1 := z.1.1.2.2.2.2.1
      rw [← eg, mU_ne _ _ (by decide), hm.2.1 18 6 (by decide), ev] at a1
      exact (nI_j (by omega) (by have := z.1.1.1.2.2.1; omega) a1).symm
    subst ek
    subst eg
    have cell : ∀ q, (mP (cpC (mP (g 7) 20 2 (nI k')) (576 + 288 * k') 0 288) 20 1 0) 21 q = if 21 = 21 ∧ 0 ≤ q ∧ q < 0 + 288 then g 7 21 (576 + 288 * k' + (q - 0)) else g 7 21 q := fun q => rfl
    refine ⟨z, ?_, fun j hj => ?_⟩
    · rw [mU_same, mU_ne _ _ (show (0 : Nat) ≠ 7 by decide)]
      have hC' : CK (bk2 g 0) (fun q => g 7 21 (576 + 288 * k' + q)) := by rw [b0]; exact (hK k' (by omega)).tf
      refine hC'.k (hm.k 1 1 rfl) (hm.k 0 13 rfl) ?_
      rw [cell, if_pos (by omega), Nat.sub_zero]
    · rw [mU_same, mU_ne _ _ (by omega), hm.1 _ (by omega) (by omega) (by omega), bo _ (by omega) (by omega)]
      refine (hK j (by omega)).k rfl rfl ?_
      show (mP (cpC (mP (g 7) 20 2 (nI k')) (576 + 288 * k') 0 288) 20 1 0) 21 (576 + 288 * j + 4) = _
      rw [cell, if_neg (by omega)]
/-- INSTEP -/
theorem hr3 (c : mC) : P_X0_hasReached c 3 (-1) = if P_X0_aheadOfClock c = 0 then 1 else 0 := by
  unfold P_X0_hasReached
  rw [if_neg (by decide), if_pos rfl, mBd_eq]
theorem is3 {c r : mC} (hR : CR c (r 21)) (hk : CK c (r 21)) (h2 : ¬ r 21 2 = 0) : P_X6_isReached r 3 (-1) = some (P_X0_hasReached c 3 (-1)) := by
  obtain ⟨N, ⟨_, _, _, e11, e12⟩, _, _, _, h10⟩ := id hR
  obtain ⟨h4, hr⟩ := id hk
  rcases hr with ⟨y0, _⟩ | ⟨y, k, hy1, hy2, ey, hky, ek⟩
  · exact absurd (e11.symm.trans y0) h2
  · obtain ⟨d, hd, d1, d2⟩ := fm_left (x := c 0 12 - c 1 2) (m := y) (by omega) (by omega)
    rw [hr3, ahead_n ⟨hy1, hy2⟩ ey d1 ek]
    unfold P_X6_isReached
    rw [if_neg (by decide), if_neg (by decide), if_neg (by decide), if_pos rfl, due_n (y := y) (d := d) ⟨hy1, hy2⟩ (e11.symm.trans ey) (by rw [← h10, ← e12]; exact d2), show P_X6_of r 4 = some (r 21 4) from of_n (k := 4) (by decide), ← h4, ek]
    simp only [mBo]
    have fz := fm_zero (d := d) (k := k) (m := y) hd hky (by omega)
    by_cases z : d = k
    · rw [if_pos (fz.mpr z), if_pos (by rw [z])]
    · rw [if_neg (fun q => z (fz.mp q)), if_neg (fun q => z (nI_j (by omega) (by omega) q))]
theorem r86 {v : Nat → Int32} {r : mC} (hv : Sr v) (h : HV v r) {x3 w : Int32} (e : P_X6_isReached r 3 (-1) = some w) : ∃ p, J_X6_reaches_86 r 3 (-1) x3 = some p ∧ p.1 = if w = 0 then -1 else x3 := by
  obtain ⟨m, em, _⟩ := v_load hv h
  unfold J_X6_reaches_86
  rw [e, em]
  simp only [mBo]
  by_cases z : w = 0
  · rw [if_pos z, if_pos z]; exact ⟨_, rfl, rfl⟩
  · rw [if_neg z, if_neg z]; exact ⟨_, rfl, rfl⟩
theorem ins_loop {v : Nat → Int32} (hv : Sr v) : ∀ m q (g : mG) r, q + m = 600 → HV v r → CR (g 1) (r 21) → CK (g 1) (r 21) → ¬ r 21 2 = 0 → ∃ p, mWh none (B_X6_reaches_49 3 (-1)) (nI q, r) = some p ∧ (mWh (0, fun _ _ _ => 0) (B_X5_ticksUntil_2 3 (-1)) (nI q, g)).1 = p.1 := by
  intro m
  induction m with
  | zero =>
    intro q g r hq h hR hk h2
    have e : q = 600 := by omega
    subst e
    have e3 := is3 hR hk h2
    obtain ⟨p, ep, e1⟩ := r86 hv h (x3 := nI 600) e3
    have eB : B_X6_reaches_49 3 (-1) (nI 600, r) = .inr (J_X6_reaches_86 r 3 (-1) (nI 600)) := by
      unfold B_X6_reaches_49
      dsimp only
      rw [if_pos (by decide)]
    refine ⟨p, ?_, ?_⟩
    · rw [mWh_eq tm_X6_reaches_49, eB]; exact ep
    · rw [mWh_eq tm_X5_ticksUntil_2, e1]
      unfold B_X5_ticksUntil_2
      dsimp only
      rw [if_neg (show ¬ (600 : Int32) < nI 600 by decide), mBd_eq]
      by_cases z : P_X0_hasReached (g 1) 3 (-1) = 0
      · rw [if_pos z, if_neg (by decide), if_pos z]
        unfold J_X5_ticksUntil_40
        rw [mBd_eq]
        show (mWh (0, fun _ _ _ => 0) (B_X5_ticksUntil_2 3 (-1)) (nI 600 + 1, mU g 1 (P_X0_passTick (g 1)))).1 = _
        rw [mWh_eq tm_X5_ticksUntil_2]
        unfold B_X5_ticksUntil_2
        dsimp only
        rw [if_pos (show (600 : Int32) < nI 600 + 1 by decide), mBd_eq]
        rfl
      · rw [if_neg z, if_neg z, mBd_eq]
        rfl
  | succ m ih =>
    intro q g r hq h hR hk h2
    have e3 := is3 hR hk h2
    have n6 : ¬ (600 : Int32) ≤ nI q := fun z => by have := (nI_leI (a := 600) (by decide) (by omega)).mp z; omega
    have n7 : ¬ (600 : Int32) < nI q := fun z => by have := (nI_ltI (a := 600) (by decide) (by omega)).mp z; omega
    obtain ⟨p, ep, e1⟩ := r86 hv h (x3 := nI q) e3
    by_cases z : P_X0_hasReached (g 1) 3 (-1) = 0
    · obtain ⟨r1, er, zt⟩ := t_ticks h.1 (x1 := 0)
      have eB : B_X6_reaches_49 3 (-1) (nI q, r) = .inl (nI (q + 1), r1) := by
        unfold B_X6_reaches_49 J_X6_reaches_75
        dsimp only
        rw [if_neg n6, e3, er, z]
        simp only [mBo]
        rw [if_pos trivial, if_neg (by decide), nI_1]
      have eC : B_X5_ticksUntil_2 3 (-1) (nI q, g) = .inl (nI (q + 1), mU g 1 (P_X0_passTick (g 1))) := by
        unfold B_X5_ticksUntil_2 J_X5_ticksUntil_40
        dsimp only
        rw [if_neg n7, mBd_eq, if_pos z, if_neg (by decide), mBd_eq, nI_1]
      rw [mWh_eq tm_X6_reaches_49, mWh_eq tm_X5_ticksUntil_2, eB, eC]
      obtain ⟨k1, k2⟩ := tk_f zt
      refine ih (q + 1) _ r1 (by omega) (h.k zt) ?_ ?_ ?_
      · rw [mU_same]; exact hR.t1 Kp.rf k1 k2
      · rw [mU_same]; exact CK.t1 hR hk Kp.rf Kp.rf zt
      · rw [zt.kept (k := 2) rfl (by decide) (by decide)]; exact h2
    · have eB : B_X6_reaches_49 3 (-1) (nI q, r) = .inr (J_X6_reaches_86 r 3 (-1) (nI q)) := by
        unfold B_X6_reaches_49
        dsimp only
        rw [if_neg n6, e3]
        simp only [mBo]
        rw [if_neg z]
      refine ⟨p, ?_, ?_⟩
      · rw [mWh_eq tm_X6_reaches_49, eB]; exact ep
      · rw [mWh_eq tm_X5_ticksUntil_2, e1]
        unfold B_X5_ticksUntil_2
        dsimp only
        rw [if_neg n7, mBd_eq, if_neg z, if_neg z, mBd_eq]
        rfl
theorem ins_v {g : mG} (hs : St (g 7)) (h : CR (g 0) (g 7 21)) (hk : CK (g 0) (g 7 21)) {p : Int32 × mC} (ep : P_X6_instep (g 7) = some p) : (P_X5_instep g).1 = p.1 := by
  obtain ⟨N, ⟨_, _, _, e11, _⟩, _⟩ := id h
  unfold P_X6_instep at ep
  unfold P_X5_instep
  rw [show P_X6_of (g 7) 2 = some (g 7 21 2) from of_n (k := 2) (by decide)] at ep
  simp only [mBo] at ep
  rw [e11]
  by_cases z : g 7 21 2 = 0
  · rw [if_pos z] at ep ⊢
    rw [← Option.some.inj (show some ((-1 : Int32), mP (g 7) 20 1 5) = some p from ep)]
    rfl
  · rw [if_neg z] at ep ⊢
    rw [mBd_eq, mBd_eq]
    obtain ⟨m, em, hm, lo⟩ := v_save hs
    have er : P_X6_reaches (g 7) 3 (-1) = mWh none (B_X6_reaches_49 3 (-1)) (nI 0, m) := by
      unfold P_X6_reaches J_X6_reaches_26 J_X6_reaches_47
      rw [em]
      simp only [mBo]
      rw [if_neg (by decide), if_neg (by decide)]
      rfl
    have c1 : CR ((mU g 1 (P_X0_takeFrom (g 1) (g 0))) 1) (m 21) := by
      rw [mU_same]
      exact (h.tf (d := g 1)).k Kp.rf (fun q hq => lo q (sB_lt q hq))
    have k1 : CK ((mU g 1 (P_X0_takeFrom (g 1) (g 0))) 1) (m 21) := by
      rw [mU_same]
      exact (hk.tf (d := g 1)).k rfl rfl (lo 4 (by decide))
    obtain ⟨p', ep', ev⟩ := ins_loop (Sr.of hs) 600 0 _ m rfl hm c1 k1 (by rw [lo 2 (by decide)]; exact z)
    rw [er, ep'] at ep
    rw [← Option.some.inj ep]
    exact ev
