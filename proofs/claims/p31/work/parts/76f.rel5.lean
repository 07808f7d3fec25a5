/-! The crossings alike: runs, what is on paper, load, keep, back -/
theorem run_loop {n : Nat} (hn : n ≤ 300) {x3 : Int32} : ∀ m q x4 (g : mG) r, q + m = n → St r → CR (g 0) (r 21) → ∃ p, mWh none (B_X6_run_40 (nI n)) (nI q, r) = some p ∧ CR ((mWh (0, fun _ _ _ => 0) (B_X5_run_46 (nI n) x3) (x4, nI q, g)).2 0) (p.2 21) := by
  intro m
  induction m with
  | zero =>
    intro q x4 g r hq hs h
    have e : q = n := by omega
    subst e
    rw [mWh_eq tm_X6_run_40, mWh_eq tm_X5_run_46]
    have eB : B_X6_run_40 (nI q) (nI q, r) = .inr (some (r 20 4, mP r 20 1 0)) := by
      unfold B_X6_run_40
      dsimp only
      rw [if_pos (Int32.le_refl _)]
      rfl
    have eC : B_X5_run_46 (nI q) x3 (x4, nI q, g) = .inr (P_X5_answer g (mTt 8 (g 0 15) - x3)) := by
      unfold B_X5_run_46
      dsimp only
      rw [if_pos (Int32.le_refl _)]
      rfl
    rw [eB, eC]
    refine ⟨_, rfl, ?_⟩
    show CR ((P_X5_answer g _).2 0) _
    rw [(ans_o _ _).2.2.1]
    exact h
  | succ m ih =>
    intro q x4 g r hq hs h
    have nl : ¬ nI n ≤ nI q := fun z => by have := (nI_leI (by omega) (by omega)).mp z; omega
    obtain ⟨r1, e1, z⟩ := t_ticks hs (x1 := 1)
    have eB : B_X6_run_40 (nI n) (nI q, r) = .inl (nI (q + 1), r1) := by
      unfold B_X6_run_40
      dsimp only
      rw [if_neg nl, e1, nI_1]
      rfl
    have eC : B_X5_run_46 (nI n) x3 (x4, nI q, g) = .inl ((P_X0_takeComers (g 0) x4).1, nI (q + 1), mU g 0 (P_X0_passTick (P_X0_takeComers (g 0) x4).2)) := by
      unfold B_X5_run_46
      dsimp only
      rw [if_neg nl, mBd_eq, mBd_eq, nI_1, mU_same, mU_mU]
    rw [mWh_eq tm_X6_run_40, mWh_eq tm_X5_run_46, eB, eC]
    obtain ⟨k1, k2⟩ := tk_f z
    have hk : Kp sA (g 0) (P_X0_takeComers (g 0) x4).2 := ka_P_X0_takeComers (c0 := g 0) Kp.rf
    refine ih (q + 1) _ _ r1 (by omega) z.st ?_
    rw [mU_same]
    exact h.t1 hk k1 k2
theorem run_v {g : mG} (hs : St (g 7)) (h : CR (g 0) (g 7 21)) (x1 x2 : Int32) {p : Int32 × mC} (ep : P_X6_run (g 7) x1 x2 = some p) : CR ((P_X5_run g x1 x2).2 0) (p.2 21) := by
  have rf : ∀ {p : Int32 × mC}, J_X6_run_22 (g 7) = some p → CR ((J_X5_run_23 g).2 0) (p.2 21) := fun {p} e => by
    have e' := Option.some.inj (show some ((-1 : Int32), mP (g 7) 20 1 1) = some p from e)
    rw [← e']
    exact h
  unfold P_X6_run at ep
  unfold P_X5_run
  rw [mBd_eq] at ep
  by_cases z : P_X6_isFrom x1 1 300 = 0
  · rw [if_pos z] at ep
    rcases isF_or.mp z with w | w
    · rw [if_pos w]; exact rf ep
    · by_cases y : x1 < 1
      · rw [if_pos y]; exact rf ep
      · rw [if_neg y, if_pos w]; exact rf ep
  · have z2 := fun w => z (isF_or.mpr w)
    have y : ¬ x1 < 1 := fun w => z2 (Or.inl w)
    have y2 : ¬ 300 < x1 := fun w => z2 (Or.inr w)
    have y0 : ¬ x1 < 0 := fun w => y (Int32.lt_trans w (by decide))
    obtain ⟨n, hn, rfl⟩ := nI_of y0
    have hn3 := (nI_leI (b := 300) (by omega) (by decide)).mp (Int32.not_lt.mp y2)
    rw [if_neg z, mBd_eq] at ep
    rw [if_neg y, if_neg y2]
    by_cases u : P_X6_isFrom x2 0 9999 = 0
    · rw [if_pos u] at ep
      rcases isF_or.mp u with w | w
      · rw [if_pos w]; exact rf ep
      · by_cases u1 : x2 < 0
        · rw [if_pos u1]; exact rf ep
        · rw [if_neg u1, if_neg (Int32.not_le.mpr w)]; exact rf ep
    · have u2 := fun w => u (isF_or.mpr w)
      rw [if_neg u] at ep
      rw [if_neg (fun w => u2 (Or.inl w)), if_pos (Int32.not_lt.mp (fun w => u2 (Or.inr w))), mBd_eq]
      obtain ⟨p', e', hc⟩ := run_loop hn3 (x3 := mTt 8 (g 0 15)) n 0 x2 g (mP (mP (g 7) 20 3 x2) 20 4 0) (Nat.zero_add n) hs h
      rw [show mWh none (B_X6_run_40 (nI n)) (0, mP (mP (g 7) 20 3 x2) 20 4 0) = some p' from e'] at ep
      rw [← Option.some.inj ep]
      exact hc
-- on paper: the block that was put aside stands
def HV (v : Nat → Int32) (c : mC) : Prop := St c ∧ ∀ k, k < 288 → c 21 (288 + k) = v k
theorem HV.g {v : Nat → Int32} {c c' : mC} (h : HV v c) (g : G c c') : HV v c' := ⟨g.1, fun k hk => (g.2.1 _ (kp_288 (by omega))).trans (h.2 k hk)⟩
theorem HV.k {v : Nat → Int32} {c c' : mC} (h : HV v c) (z : Tk c c') : HV v c' := ⟨z.st, fun k hk => (z.kept (kp_288 (by omega)) (by omega) (by omega)).trans (h.2 k hk)⟩
theorem HV.w {v : Nat → Int32} {c : mC} {k : Nat} {x : Int32} (h : HV v c) (hk : k < 288) (h0 : k ≠ 0 ∧ k ≠ 16 ∧ k ≠ 19 ∧ k ≠ 24 ∧ k ≠ 27 ∧ k ≠ 12 ∧ k ≠ 7) (hr : ∀ p, p < 8 → k ≠ 32 + 18 * p) : HV v (mP c 21 k x) :=
  ⟨h.1.w (by omega) (by omega) (fun p hp z => absurd z (hr p hp)) (by omega) (by omega), fun q hq => by rw [rd21, if_neg (by omega)]; exact h.2 q hq⟩
theorem v_putsP {v : Nat → Int32} {c : mC} (h : HV v c) {x : Int32} (hx : rP x) {y u : Int32} (w : Nat) (hy : y = nI w) (h2 : 2 ≤ w) (hw : w < 18) : ok (HV v) (P_X6_putsPhase c x y u) := by
  obtain ⟨p, hp, rfl⟩ := hx
  rw [hy, putsP_n hp hw]
  exact ok_s (h.w (by omega) (by omega) (by intro q hq; omega))
theorem v_save {c : mC} (h : St c) : ok (fun m => HV (c 21) m ∧ ∀ k, k < 288 → m 21 k = c 21 k) (P_X6_copies c 0 288) := by
  have e : P_X6_copies c (nI 0) (nI 288) = _ := copies_eq c (a := 0) (b := 288) (by decide) (by decide) (by decide)
  rw [show (0 : Int32) = nI 0 from rfl, show (288 : Int32) = nI 288 from rfl, e]
  have lo : ∀ k, k < 288 → cpC c 0 288 288 21 k = c 21 k := fun k hk => by
    show (if 21 = 21 ∧ 288 ≤ k ∧ k < 288 + 288 then _ else c 21 k) = _
    rw [if_neg (by omega)]
  refine ok_s ⟨⟨Sr.to ((Sr.of h).congr lo), fun k hk => ?_⟩, lo⟩
  show (if 21 = 21 ∧ 288 ≤ 288 + k ∧ 288 + k < 288 + 288 then c 21 (0 + (288 + k - 288)) else _) = _
  rw [if_pos (by omega), show 0 + (288 + k - 288) = k from by omega]
theorem v_load {v : Nat → Int32} {c : mC} (hv : Sr v) (h : HV v c) : ok (fun m => HV v m ∧ ∀ k, k < 288 → m 21 k = v k) (P_X6_copies c 288 0) := by
  have e : P_X6_copies c (nI 288) (nI 0) = _ := copies_eq c (a := 288) (b := 0) (by decide) (by decide) (by decide)
  rw [show (0 : Int32) = nI 0 from rfl, show (288 : Int32) = nI 288 from rfl, e]
  have lo : ∀ k, k < 288 → cpC c 288 0 288 21 k = v k := fun k hk => by
    show (if 21 = 21 ∧ 0 ≤ k ∧ k < 0 + 288 then c 21 (288 + (k - 0)) else c 21 k) = _
    rw [if_pos (by omega), Nat.sub_zero]
    exact h.2 k hk
  refine ok_s ⟨⟨Sr.to (hv.congr lo), fun k hk => ?_⟩, lo⟩
  show (if 21 = 21 ∧ 0 ≤ 288 + k ∧ 288 + k < 0 + 288 then _ else c 21 (288 + k)) = _
  rw [if_neg (by omega)]
  exact h.2 k hk
theorem tg_calls {c0 c : mC} (h : G c0 c) {x1 : Int32} (hx : rP x1) : ok (G c0) (P_X6_calls c x1) :=
  ok_bo (t_ofP0 h hx) (fun v1 h2 => ok_bo (tk_P_X6_isGreen h h2) (fun v3 _ => ok_if (fun _ => ok_bo (t_putsP h hx 13 rfl (by decide) (by decide)) (fun v7 h8 => ok_s h8)) (fun _ => ok_bo (t_ofR0q h h2) (fun v9 _ => ok_if (fun _ => ok_bo (t_putsP h hx 16 rfl (by decide) (by decide)) (fun v13 h14 => ok_s h14)) (fun _ => ok_bo (t_putsP h hx 13 rfl (by decide) (by decide)) (fun v15 h16 => ok_s h16))))))
theorem tg_callsOthers {c0 c : mC} (h : G c0 c) {x1 : Int32} : ok (G c0) (P_X6_callsOthers c x1) := by
  refine ok_wh (fun s : Int32 × mC => r08 s.1 ∧ G c0 s.2) tm_X6_callsOthers_2 ?_ ⟨r08_0, h⟩
  rintro ⟨x2, c⟩ ⟨k, g⟩
  have nx : ∀ {m : mC}, G c0 m → rP x2 → ok2 (fun s : Int32 × mC => r08 s.1 ∧ G c0 s.2) (G c0) (J_X6_callsOthers_29 m x1 x2) := fun g p => ok2_l ⟨rP_up p, g⟩
  exact ok_b2 (t_of0 g) (fun v1 h2 => ok2_if (fun _ => ok2_r (ok_s g)) (fun q4 => ok2_if (fun _ => nx g (rP_lt k h2 q4)) (fun _ => ok_b2 (t_of g 5 rfl (by decide)) (fun v9 _ => ok2_if (fun _ => ok_b2 (tg_calls g (rP_lt k h2 q4)) (fun v13 h14 => nx h14 (rP_lt k h2 q4))) (fun _ => nx g (rP_lt k h2 q4))))))
/-- a row that ends with its block as it was -/
def RV (v : Nat → Int32) (p : Int32 × mC) : Prop := ∀ k, k < 288 → p.2 21 k = v k
theorem rv_86 {v : Nat → Int32} {c : mC} (hv : Sr v) (h : HV v c) {x1 x2 x3 : Int32} (hr : x1 = 0 ∨ x1 = 1 → rP x2) (h3 : x1 = 3 → ¬ c 21 2 = 0) : ok (RV v) (J_X6_reaches_86 c x1 x2 x3) :=
  ok_bo (tk_isReached h.1 hr h3) (fun _ _ => ok_bo (v_load hv h) (fun c2 h2 => ok_if (fun _ => ok_bo (P := RV v) (ok_s h2.2) (fun p z => ok_s z)) (fun _ => ok_bo (P := RV v) (ok_s h2.2) (fun p z => ok_s z))))
theorem rv_47 {v : Nat → Int32} {c : mC} (hv : Sr v) (h : HV v c) {x1 x2 : Int32} (hr : x1 = 0 ∨ x1 = 1 → rP x2) (h3 : x1 = 3 → ¬ c 21 2 = 0) : ok (RV v) (J_X6_reaches_47 c x1 x2) := by
  refine ok_wh (fun s : Int32 × mC => HV v s.2 ∧ (x1 = 3 → ¬ s.2 21 2 = 0)) tm_X6_reaches_49 ?_ ⟨h, h3⟩
  rintro ⟨x3, c⟩ ⟨h, h3⟩
  have j75 : ∀ {m : mC}, HV v m → (x1 = 3 → ¬ m 21 2 = 0) → ok2 (fun s : Int32 × mC => HV v s.2 ∧ (x1 = 3 → ¬ s.2 21 2 = 0)) (RV v) (J_X6_reaches_75 m x1 x2 x3) := fun h h3 => ok_b2 (t_ticks h.1) (fun c1 z => ok2_l ⟨h.k z, fun q w => h3 q ((z.kept (k := 2) rfl (by decide) (by decide)).symm.trans w)⟩)
  have h : HV v c := h
  show ok2 _ _ (if 600 ≤ x3 then _ else _)
  exact ok2_if (fun _ => ok2_r (rv_86 hv h hr h3)) (fun _ => ok_b2 (tk_isReached h.1 hr h3) (fun v1 _ => ok2_if (fun _ => ok2_if (fun q => ok_b2 (tg_callsOthers (G.rf h.1)) (fun c2 h2 => j75 (h.g h2) (fun z => absurd (q.symm.trans z) (by decide)))) (fun _ => j75 h h3)) (fun _ => ok2_r (rv_86 hv h hr h3))))
theorem rv_26 {v : Nat → Int32} {c : mC} (hv : Sr v) (h : HV v c) {x1 x2 : Int32} (hr : x1 = 0 ∨ x1 = 1 → rP x2) (h3 : x1 = 3 → ¬ c 21 2 = 0) : ok (RV v) (J_X6_reaches_26 c x1 x2) :=
  ok_if (fun q => ok_bo (t_of (G.rf h.1) 10 rfl (by decide)) (fun _ _ => ok_bo (P := HV v) ⟨_, puts_n (k := 10) (by decide), h.w (by decide) (by decide) (by intro q hq; omega)⟩ (fun c2 h2 => rv_47 hv h2 hr (fun z => absurd (q.symm.trans z) (by decide))))) (fun _ => rv_47 hv h hr h3)
theorem rv_reaches {c : mC} (h : St c) {x1 x2 : Int32} (hr : x1 = 0 ∨ x1 = 1 → rP x2) (h3 : x1 = 3 → ¬ c 21 2 = 0) : ok (RV (c 21)) (P_X6_reaches c x1 x2) := by
  refine ok_bo (v_save h) (fun c1 h1 => ?_)
  have hv : Sr (c 21) := Sr.of h
  have h2 : x1 = 3 → ¬ c1 21 2 = 0 := fun q => by rw [h1.2 2 (by decide)]; exact h3 q
  exact ok_if (fun q => ok_bo (t_of (G.rf h1.1.1) 5 rfl (by decide)) (fun _ _ => ok_if (fun _ => ok_bo (tg_calls (G.rf h1.1.1) (hr (Or.inr q))) (fun c3 h3 => rv_26 hv (h1.1.g h3) hr (fun z => absurd (q.symm.trans z) (by decide)))) (fun _ => rv_26 hv h1.1 hr h2))) (fun _ => rv_26 hv h1.1 hr h2)
theorem rv_m {c : mC} {x : Int32} : ok (RV (c 21)) (mBo (α := Int32 × mC) none (P_X6_refuse c x) (fun p => some (p.1, p.2))) := ok_bo (P := RV (c 21)) (ok_s (fun _ _ => rfl)) (fun p z => ok_s z)
theorem rv_P_X6_when {c : mC} (h : St c) {x1 : Int32} : ok (RV (c 21)) (P_X6_when c x1) :=
  ok_bo (t_isPhase h) (fun v hv => ok_if (fun _ => rv_m) (fun n => ok_bo (rv_reaches h (fun _ => hv n) (fun z => absurd z (by decide))) (fun p h => ok_s h)))
theorem rv_P_X6_worst {c : mC} (h : St c) {x1 : Int32} : ok (RV (c 21)) (P_X6_worst c x1) :=
  ok_bo (t_isPhase h) (fun v hv => ok_if (fun _ => rv_m) (fun n => ok_bo (rv_reaches h (fun _ => hv n) (fun z => absurd z (by decide))) (fun p h => ok_s h)))
theorem rv_P_X6_cleared {c : mC} (h : St c) : ok (RV (c 21)) (P_X6_cleared c) :=
  ok_bo (rv_reaches h (fun z => absurd z (by decide)) (fun z => absurd z (by decide))) (fun p h => ok_s h)
theorem rv_P_X6_instep {c : mC} (h : St c) : ok (RV (c 21)) (P_X6_instep c) :=
  ok_bo (t_of (G.rf h) 2 rfl (by decide)) (fun v hv => ok_if (fun _ => rv_m) (fun n => ok_bo (rv_reaches h (fun z => absurd z (by decide)) (fun _ z => n (hv.trans z))) (fun p h => ok_s h)))
theorem rv_P_X6_broken {c : mC} (h : St c) {x1 : Int32} : ok (RV (c 21)) (P_X6_broken c x1) :=
  ok_bd (fun v1 e1 => ok_if (fun _ => rv_m) (fun n1 => ok_bo (rv_reaches h (fun z => absurd z (by decide)) (fun z => absurd z (by decide))) (fun p h => ok_s h)))
theorem v_waitsIn {v : Nat → Int32} {c : mC} (hv : Sr v) (h : HV v c) {x1 : Int32} : ok (fun p : Int32 × mC => HV v p.2 ∧ ∀ k, k < 288 → p.2 21 k = v k) (P_X6_waitsIn c x1) := by
  refine ok_bo (t_of (G.rf h.1) 11 rfl (by decide)) (fun v1 _ => ok_wh (fun s : Int32 × mC => HV v s.2) tm_X6_waitsIn_14 ?_ (show HV v (mP c 20 4 0) from h))
  rintro ⟨x3, c⟩ h
  have h : HV v c := h
  show ok2 _ _ (if x1 ≤ x3 then _ else _)
  exact ok2_if (fun _ => ok2_r (ok_bo (t_of (G.rf h.1) 11 rfl (by decide)) (fun v1 _ => ok_bo (v_load hv h) (fun c2 h2 => ok_s h2)))) (fun _ => ok_b2 (t_ticks h.1) (fun c3 z => ok2_l (h.k z)))
theorem rv_P_X6_paper {c : mC} (h : St c) {x1 x2 : Int32} : ok (RV (c 21)) (P_X6_paper c x1 x2) := by
  have rf : ok (RV (c 21)) (J_X6_paper_20 c) := rv_m
  have gv : ∀ {m : mC} {s : Int32}, (∀ k, k < 288 → m 21 k = c 21 k) → ok (RV (c 21)) (J_X6_paper_53 m s) := fun h => ok_bo (P := RV (c 21)) (ok_s h) (fun p z => ok_s z)
  exact ok_bd (fun v1 _ => ok_if (fun _ => rf) (fun _ => ok_bd (fun v2 _ => ok_if (fun _ => rf) (fun _ => ok_bo (v_save h) (fun c3 h3 => ok_bo (v_waitsIn (Sr.of h) h3.1) (fun p4 h4 => ok_if (fun _ => gv h4.2) (fun _ => gv h4.2)))))))
theorem rv_P_X6_bestMax {c : mC} (h : St c) {x1 x2 : Int32} : ok (RV (c 21)) (P_X6_bestMax c x1 x2) := by
  have hv := Sr.of h
  refine ok_bd (fun v1 _ => ok_if (fun _ => rv_m) (fun _ => ok_bo (t_isPhase h) (fun v3 hp => ok_if (fun _ => rv_m) (fun n => ok_bo (v_save h) (fun c5 h5 => ok_wh (fun s : Int32 × Int32 × Int32 × mC => HV (c 21) s.2.2.2 ∧ ∀ k, k < 288 → s.2.2.2 21 k = c 21 k) tm_X6_bestMax_46 ?_ h5)))))
  rintro ⟨x3, x4, x5, m⟩ ⟨a, d⟩
  have a : HV (c 21) m := a
  show ok2 _ _ (if 60 < x5 then _ else _)
  have n90 : ∀ {m : mC} {x3 x4 x5 : Int32}, (HV (c 21) m ∧ ∀ k, k < 288 → m 21 k = c 21 k) → ok2 (fun s : Int32 × Int32 × Int32 × mC => HV (c 21) s.2.2.2 ∧ ∀ k, k < 288 → s.2.2.2 21 k = c 21 k) (RV (c 21)) (J_X6_bestMax_90 m x1 x2 x3 x4 x5) := fun h => ok2_l h
  exact ok2_if (fun _ => ok2_r (ok_bo (P := RV (c 21)) (ok_s d) (fun p z => ok_s z))) (fun _ => ok_b2 (v_putsP a (hp n) 4 rfl (by decide) (by decide)) (fun c2 h2 => ok_b2 (v_waitsIn hv h2) (fun p3 h3 => ok2_if (fun _ => n90 h3) (fun _ => ok2_if (fun _ => n90 h3) (fun _ => n90 h3)))))
theorem rv_P_X6_cheapest {c : mC} (h : St c) {x1 : Int32} : ok (RV (c 21)) (P_X6_cheapest c x1) := by
  have hv := Sr.of h
  refine ok_bd (fun v1 _ => ok_if (fun _ => rv_m) (fun _ => ok_bo (v_save h) (fun c3 h3 => ok_wh (fun s : Int32 × Int32 × Int32 × mC => r08 s.2.2.1 ∧ HV (c 21) s.2.2.2 ∧ ∀ k, k < 288 → s.2.2.2 21 k = c 21 k) tm_X6_cheapest_31 ?_ ⟨r08_0, h3⟩)))
  rintro ⟨x2, x3, x4, m⟩ ⟨e, a, d⟩
  have a : HV (c 21) m := a
  have n87 : ∀ {m : mC} {x2 x3 : Int32}, rP x4 → (HV (c 21) m ∧ ∀ k, k < 288 → m 21 k = c 21 k) → ok2 (fun s : Int32 × Int32 × Int32 × mC => r08 s.2.2.1 ∧ HV (c 21) s.2.2.2 ∧ ∀ k, k < 288 → s.2.2.2 21 k = c 21 k) (RV (c 21)) (J_X6_cheapest_87 m x1 x2 x3 x4) := fun p h => ok2_l ⟨rP_up p, h⟩
  have e' : r08 x4 := e
  unfold B_X6_cheapest_31
  dsimp only
  exact ok_b2 (t_of0 (G.rf a.1)) (fun v1 h1 => ok2_if (fun _ => ok2_r (ok_if (fun _ => ok_bo (P := RV (c 21)) (ok_s d) (fun p z => ok_s z)) (fun _ => ok_bo (P := RV (c 21)) (ok_s d) (fun p z => ok_s z)))) (fun q => ok_b2 (t_ofPhase (G.rf a.1) (rP_Q (rP_lt e' h1 q)) 12 rfl (by decide)) (fun v5 _ => ok_b2 (v_putsP a (rP_lt e' h1 q) 12 rfl (by decide) (by decide)) (fun c6 h6 => ok_b2 (v_waitsIn hv h6) (fun p7 h7 => ok2_if (fun _ => n87 (rP_lt e' h1 q) h7) (fun _ => ok2_if (fun _ => n87 (rP_lt e' h1 q) h7) (fun _ => n87 (rP_lt e' h1 q) h7)))))))
theorem CR.v {c c' : mC} {r : mC} {o : Option (Int32 × mC)} (h : CR c (r 21)) (k : Kp sA c c') (ho : ok (RV (r 21)) o) : ∀ p, o = some p → CR c' (p.2 21) := fun p e => h.k k (fun q hq => (ok_po ho e) q (sB_lt q hq))
