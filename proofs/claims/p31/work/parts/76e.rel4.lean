/-! The crossings alike: clock, ticks, what is on paper, load, keep, back -/
theorem takeCycle_o (c : mC) (x : Int32) : ∃ v, P_X0_takeCycle c x = mP (mP c 1 1 x) 0 13 v := by
  unfold P_X0_takeCycle J_X0_takeCycle_25 mBd
  by_cases z : x ≤ 0
  · rw [if_pos z]; exact ⟨_, rfl⟩
  · rw [if_neg z]; exact ⟨_, rfl⟩
theorem CR.y {c : mC} {f : Nat → Int32} {x v y : Int32} (h : CR c f) : CR (mP (mP c 1 1 x) 0 13 v) (upF (upF f 2 x) 4 y) := by
  obtain ⟨N, ⟨a1, a2, a3, a4, a5⟩, ⟨h2, h3⟩, ⟨s, h4, h5, h6⟩, ⟨w, h7, h8, h9⟩, h10⟩ := h
  have e : ∀ q, q ≠ 2 → q ≠ 4 → upF (upF f 2 x) 4 y q = f q := fun q a b => by rw [upF_n b, upF_n a]
  refine ⟨N, ⟨a1, fun p hp => ⟨?_, ?_, fun k hk => ?_⟩, a3, ?_, ?_⟩, ⟨h2, ?_⟩, ⟨s, h4, h5, ?_⟩, ⟨w, h7, h8, ?_⟩, ?_⟩
  · rw [e _ (by omega) (by omega)]; exact (a2 p hp).1
  · rw [e _ (by omega) (by omega)]; exact (a2 p hp).2.1
  · rw [e _ (by omega) (by omega)]; exact (a2 p hp).2.2 k hk
  · rw [upF_n (by decide), upF_s]; rfl
  · rw [e 3 (by decide) (by decide)]; exact a5
  · rw [e 0 (by decide) (by decide)]; exact h3
  · rw [e 6 (by decide) (by decide)]; exact h6
  · rw [e 10 (by decide) (by decide)]; exact h9
  · rw [e 1 (by decide) (by decide)]; exact h10
theorem CR.o {c : mC} {f : Nat → Int32} {x : Int32} (h : CR c f) : CR (mP c 1 2 x) (upF f 3 x) := by
  obtain ⟨N, ⟨a1, a2, a3, a4, a5⟩, ⟨h2, h3⟩, ⟨s, h4, h5, h6⟩, ⟨w, h7, h8, h9⟩, h10⟩ := h
  refine ⟨N, ⟨a1, fun p hp => ⟨?_, ?_, fun k hk => ?_⟩, a3, ?_, ?_⟩, ⟨h2, ?_⟩, ⟨s, h4, h5, ?_⟩, ⟨w, h7, h8, ?_⟩, ?_⟩
  · rw [upF_n (by omega)]; exact (a2 p hp).1
  · rw [upF_n (by omega)]; exact (a2 p hp).2.1
  · rw [upF_n (by omega)]; exact (a2 p hp).2.2 k hk
  · rw [upF_n (by decide)]; exact a4
  · rw [upF_s]; rfl
  · rw [upF_n (by decide)]; exact h3
  · rw [upF_n (by decide)]; exact h6
  · rw [upF_n (by decide)]; exact h9
  · rw [upF_n (by decide)]; exact h10
theorem isOf (x : Int32) : P_X5_isOffset x = P_X6_isFrom x 0 239 := by
  unfold P_X5_isOffset P_X6_isFrom J_X5_isOffset_15 J_X6_isFrom_14
  rfl
theorem clock_v {g : mG} (h : CR (g 0) (g 7 21)) (x1 x2 : Int32) {p : Int32 × mC} (ep : P_X6_clock (g 7) x1 x2 = some p) : (P_X5_clock g x1 x2).1 = p.1 ∧ CR ((P_X5_clock g x1 x2).2 0) (p.2 21) := by
  obtain ⟨N, ⟨_, _, _, e11, e12⟩, _⟩ := id h
  -- refused
  have r1 : ∀ {p : Int32 × mC}, J_X6_clock_30 (g 7) = some p → (J_X5_clock_30 g).1 = p.1 ∧ CR ((J_X5_clock_30 g).2 0) (p.2 21) := fun {p} e => by
    have e' := Option.some.inj (show some ((-1 : Int32), mP (g 7) 20 1 1) = some p from e)
    rw [← e']
    exact ⟨rfl, h⟩
  have e2 : P_X6_of (g 7) 2 = some (g 7 21 2) := of_n (k := 2) (by decide)
  have e3 : P_X6_of (g 7) 3 = some (g 7 21 3) := of_n (k := 3) (by decide)
  have gv : ∀ (m : mC) (v : Int32) {p : Int32 × mC}, J_X6_clock_87 m v = some p → p = (v, mP m 20 1 0) := fun m v {p} e => (Option.some.inj (show some (v, mP m 20 1 0) = some p from e)).symm
  -- the cycle
  have c0 : ∀ {p : Int32 × mC}, J_X6_clock_36 (g 7) 0 x2 = some p → (J_X5_clock_36 g 0 x2).1 = p.1 ∧ CR ((J_X5_clock_36 g 0 x2).2 0) (p.2 21) := fun {p} e => by
    unfold J_X6_clock_36 at e
    rw [show (2 : Int32) + 0 = 2 from by decide, e2] at e
    simp only [mBo] at e
    unfold J_X5_clock_36 J_X5_clock_63 J_X5_clock_101
    rw [if_pos rfl, e11]
    by_cases z : g 7 21 2 = x2
    · rw [if_pos z] at e ⊢
      have e' := Option.some.inj (show some ((-1 : Int32), mP (g 7) 20 1 4) = some p from e)
      rw [← e']
      exact ⟨rfl, h⟩
    · rw [if_neg z] at e ⊢
      rw [show P_X6_puts (g 7) 2 x2 = some (mP (g 7) 21 2 x2) from puts_n (k := 2) (by decide)] at e
      dsimp only at e
      rw [if_pos trivial] at e
      rw [if_pos rfl]
      rw [mBd_eq, mBd_eq]
      obtain ⟨v, ev⟩ := takeCycle_o (g 0) x2
      have fin : ∀ y, p = (g 7 21 2, mP (mP (mP (g 7) 21 2 x2) 21 4 y) 20 1 0) → (P_X5_answer (mU g 0 (P_X0_takeCycle (g 0) x2)) (g 7 21 2)).1 = p.1 ∧ CR ((P_X5_answer (mU g 0 (P_X0_takeCycle (g 0) x2)) (g 7 21 2)).2 0) (p.2 21) := fun y ey => by
        rw [ey, (ans_o _ _).2.2.1, mU_same, ev]
        refine ⟨rfl, ?_⟩
        show CR _ ((mP (mP (g 7) 21 2 x2) 21 4 y) 21)
        rw [up21, up21]
        exact h.y
      by_cases w : x2 = 0
      · rw [if_pos w] at e
        exact fin 0 (gv _ _ e)
      · rw [if_neg w, show P_X6_of (mP (g 7) 21 2 x2) 4 = some ((mP (g 7) 21 2 x2) 21 4) from of_n (k := 4) (by decide)] at e
        dsimp only at e
        rw [if_neg w] at e
        exact fin _ (gv _ _ e)
  have c1 : ∀ {p : Int32 × mC}, J_X6_clock_36 (g 7) 1 x2 = some p → (J_X5_clock_36 g 1 x2).1 = p.1 ∧ CR ((J_X5_clock_36 g 1 x2).2 0) (p.2 21) := fun {p} e => by
    unfold J_X6_clock_36 at e
    rw [show (2 : Int32) + 1 = 3 from by decide, e3] at e
    simp only [mBo] at e
    unfold J_X5_clock_36 J_X5_clock_63 J_X5_clock_101
    rw [if_neg (by decide), e12]
    by_cases z : g 7 21 3 = x2
    · rw [if_pos z] at e ⊢
      have e' := Option.some.inj (show some ((-1 : Int32), mP (g 7) 20 1 4) = some p from e)
      rw [← e']
      exact ⟨rfl, h⟩
    · rw [if_neg z] at e ⊢
      rw [show P_X6_puts (g 7) 3 x2 = some (mP (g 7) 21 3 x2) from puts_n (k := 3) (by decide)] at e
      dsimp only at e
      rw [if_neg (by decide)] at e ⊢
      rw [mBd_eq, gv _ _ e, (ans_o _ _).2.2.1, mU_same]
      refine ⟨rfl, ?_⟩
      show CR _ ((mP (g 7) 21 3 x2) 21)
      rw [up21]
      exact h.o
  unfold P_X6_clock at ep
  unfold P_X5_clock
  by_cases a0 : x1 = 0
  · subst a0
    rw [if_pos rfl, mBd_eq, ← cyc_same] at ep
    rw [if_neg (by decide), if_neg (by decide), if_pos rfl, mBd_eq]
    by_cases z : P_X5_isCycle x2 = 0
    · rw [if_pos z] at ep ⊢; exact r1 ep
    · rw [if_neg z] at ep ⊢; exact c0 ep
  · by_cases a1 : x1 = 1
    · subst a1
      rw [if_neg (by decide), if_pos rfl, mBd_eq, ← isOf] at ep
      rw [if_neg (by decide), if_neg (by decide), if_neg (by decide), mBd_eq]
      by_cases z : P_X5_isOffset x2 = 0
      · rw [if_pos z] at ep ⊢; exact r1 ep
      · rw [if_neg z] at ep ⊢; exact c1 ep
    · rw [if_neg a0, if_neg a1] at ep
      by_cases z : x1 < 0
      · rw [if_pos z]; exact r1 ep
      · rw [if_neg z]
        obtain ⟨m, hm, rfl⟩ := nI_of z
        have b0 : ¬ m = 0 := fun y => a0 (by rw [y]; rfl)
        have b1 : ¬ m = 1 := fun y => a1 (by rw [y]; rfl)
        rw [if_pos (show (1 : Int32) < nI m from (nI_ltI (a := 1) (by decide) (by omega)).mpr (by omega))]
        exact r1 ep
-- ticks
theorem pass1 (c : mC) : Kp sA (mP c 0 12 (c 0 12 + 1)) (P_X0_passTick c) := by
  show pp (fun m : mC => Kp sA (mP c 0 12 (c 0 12 + 1)) m) _
  unfold P_X0_passTick
  exact pp_bo (ka_P_X0_moveClock (c0 := mP c 0 12 (c 0 12 + 1)) Kp.rf) (fun c1 h1 => pp_if (fun _ => pp_bo (ka_P_X0_ageRing (show 8 ≤ 8 by decide) h1) (fun c2 h2 => pp_bo (ka_P_X0_ageRing (show 8 ≤ 9 by decide) h2) (fun c3 h3 => pp_bo (ka_P_X0_moveBreaks (h3.w rfl)) (fun c4 h4 => pp_if (fun _ => pp_bo (ka_P_X0_moveOn h4) (fun c5 h5 => ka_J_X0_passTick_58 h5)) (fun _ => ka_J_X0_passTick_58 h4))))) (fun _ => ka_J_X0_passTick_82 h1))
theorem CR.t1 {c c2 : mC} {f f' : Nat → Int32} (h : CR c f) (k : Kp sA c c2) (kf : ∀ q, sB q = true → q ≠ 1 → f' q = f q) (f1 : f' 1 = f 1 + 1) : CR (P_X0_passTick c2) f' :=
  (h.k k (fun _ _ => rfl)).t 1 (pass1 c2) kf f1
theorem tk_f {c c' : mC} (z : Tk c c') : (∀ q, sB q = true → q ≠ 1 → c' 21 q = c 21 q) ∧ c' 21 1 = c 21 1 + 1 := by
  refine ⟨fun q hq h1 => z.kept (sB_kp q hq) h1 (fun h4 => ?_), z.tick⟩
  rw [h4] at hq
  cases hq
theorem tick_loop {n : Nat} (hn : n ≤ 300) : ∀ m q c r, q + m = n → St r → CR c (r 21) → ∃ p, mWh none (B_X6_tick_19 (nI n)) (nI q, r) = some p ∧ p.1 = (mWh (fun _ _ => 0) (B_X0_passTicks_2 (nI n)) (nI q, c)) 0 12 ∧ CR (mWh (fun _ _ => 0) (B_X0_passTicks_2 (nI n)) (nI q, c)) (p.2 21) := by
  intro m
  induction m with
  | zero =>
    intro q c r hq hs h
    have e : q = n := by omega
    subst e
    rw [mWh_eq tm_X6_tick_19, mWh_eq tm_X0_passTicks_2]
    have eB : B_X6_tick_19 (nI q) (nI q, r) = .inr (some (r 21 1, mP r 20 1 0)) := by
      unfold B_X6_tick_19
      dsimp only
      rw [if_pos (Int32.le_refl _), show P_X6_of r 1 = some (r 21 1) from of_n (k := 1) (by decide)]
      rfl
    have eC : B_X0_passTicks_2 (nI q) (nI q, c) = .inr c := by
      unfold B_X0_passTicks_2
      dsimp only
      rw [if_pos (Int32.le_refl _)]
    rw [eB, eC]
    obtain ⟨N, _, _, _, _, h10⟩ := id h
    exact ⟨_, rfl, h10.symm, h⟩
  | succ m ih =>
    intro q c r hq hs h
    have nl : ¬ nI n ≤ nI q := fun z => by have := (nI_leI (by omega) (by omega)).mp z; omega
    obtain ⟨r1, e1, z⟩ := t_ticks hs (x1 := 0)
    have eB : B_X6_tick_19 (nI n) (nI q, r) = .inl (nI (q + 1), r1) := by
      unfold B_X6_tick_19
      dsimp only
      rw [if_neg nl, e1, nI_1]
      rfl
    have eC : B_X0_passTicks_2 (nI n) (nI q, c) = .inl (nI (q + 1), P_X0_passTick c) := by
      unfold B_X0_passTicks_2 mBd
      dsimp only
      rw [if_neg nl, nI_1]
    rw [mWh_eq tm_X6_tick_19, mWh_eq tm_X0_passTicks_2, eB, eC]
    obtain ⟨k1, k2⟩ := tk_f z
    exact ih (q + 1) (P_X0_passTick c) r1 (by omega) z.st (h.t1 Kp.rf k1 k2)
theorem isF_300 {x : Int32} : P_X6_isFrom x 1 300 = 0 ↔ (x < 1 ∨ ¬ x ≤ 300) := by
  rw [isF_or]
  exact ⟨fun h => h.elim Or.inl (fun z => Or.inr (Int32.not_le.mpr z)), fun h => h.elim Or.inl (fun z => Or.inr (Int32.not_le.mp z))⟩
theorem tick_v {g : mG} (hs : St (g 7)) (h : CR (g 0) (g 7 21)) (x1 : Int32) : ∃ m, P_X6_tick (g 7) x1 = some ((P_X5_tick g x1).1, m) ∧ CR ((P_X5_tick g x1).2 0) (m 21) := by
  unfold P_X6_tick P_X5_tick J_X5_tick_12
  rw [mBd_eq]
  by_cases z : P_X6_isFrom x1 1 300 = 0
  · rw [if_pos z]
    rcases isF_300.mp z with w | w
    · rw [if_pos w]; exact ⟨_, rfl, h⟩
    · by_cases y : x1 < 1
      · rw [if_pos y]; exact ⟨_, rfl, h⟩
      · rw [if_neg y, if_neg w]; exact ⟨_, rfl, h⟩
  · have z2 := fun w => z (isF_300.mpr w)
    have y : ¬ x1 < 1 := fun w => z2 (Or.inl w)
    have y2 : x1 ≤ 300 := Decidable.byContradiction (fun w => z2 (Or.inr w))
    have y0 : ¬ x1 < 0 := fun w => y (Int32.lt_trans w (by decide))
    obtain ⟨n, hn, rfl⟩ := nI_of y0
    have hn3 := (nI_leI (b := 300) (by omega) (by decide)).mp y2
    rw [if_neg z, if_neg y, if_pos y2, mBd_eq, mBd_eq]
    obtain ⟨p, e, v, hc⟩ := tick_loop hn3 n 0 (g 0) (g 7) (Nat.zero_add n) hs h
    rw [show mWh none (B_X6_tick_19 (nI n)) (0, g 7) = some p from e]
    refine ⟨p.2, ?_, ?_⟩
    · show some p = some (_, p.2)
      rw [show (mU g 0 (P_X0_passTicks (g 0) (nI n))) 0 = P_X0_passTicks (g 0) (nI n) from mU_same _ _ _]
      exact congrArg some (Prod.ext v rfl)
    · show CR ((P_X5_answer (mU g 0 (P_X0_passTicks (g 0) (nI n))) _).2 0) _
      rw [(ans_o _ _).2.2.1, mU_same]
      exact hc
