/-! The reference answers: row by row -/
theorem r01_02 {x : Int32} (h : r01 x) : r02 x := h.elim Or.inl (fun z => Or.inr (Or.inl z))
theorem rP_08 {x : Int32} (h : rP x) : r08 x := by
  obtain ⟨p, hp, e⟩ := h
  exact ⟨p, by omega, e⟩
theorem r01_and {x : Int32} (h : r01 x) : x &&& 1 = x := by
  rcases h with rfl | rfl <;> decide
theorem le0_nz {x : Int32} (h : ¬ x ≤ 0) : ¬ x = 0 := fun z => h (by rw [z]; decide)
theorem t_left {x y : Int32} (h : ¬ y = 0) : ok (fun _ => True) (P_X6_left x y) := by
  unfold P_X6_left
  rw [if_neg h]
  exact ok_if (fun _ => ok_s trivial) (fun _ => ok_s trivial)
theorem t_ofR0q {c0 c : mC} (h : G c0 c) {x : Int32} (hx : r01 x) : ok rQ (P_X6_ofRing c x 0) := ok_mo (t_ofR0 h hx) (fun _ q => q.1)
theorem t_putsPQ {c0 c : mC} (h : G c0 c) {x : Int32} (hx : rQ x) {y v : Int32} (w : Nat) (hy : y = nI w) (hw : w < 18) (hW : w = 12 ∨ w = 14 ∨ w = 15 ∨ w = 16 ∨ w = 17) : ok (G c0) (P_X6_putsPhase c x y v) := by
  rcases hx with rfl | hp
  · subst hy
    have e : P_X6_putsPhase c (-1) (nI w) v = some (mP c 21 (14 + w) v) := by
      unfold P_X6_putsPhase
      rw [show (32 : Int32) + (18 : Int32) * (-1) = nI 14 from by decide, nI_add, puts_n (by omega)]; rfl
    rw [e]
    exact ok_s (h.w (kp_ring _ (by omega) (by omega)) (by omega) (by omega) (by omega))
  · exact t_putsP h hp w hy hw (by omega)
theorem t_draw {c0 c : mC} (h : G c0 c) {x : Int32} : ok (fun p : Int32 × mC => G c0 p.2) (P_X6_drawBy c x) := by
  unfold P_X6_drawBy
  exact ok_s (h.m (Or.inl rfl))
theorem ev_n (p : Nat) : (192 : Int32) + (3 : Int32) * nI p = nI (192 + 3 * p) := by
  show nI 192 + nI 3 * nI p = _
  rw [show nI 3 * nI p = nI (3 * p) from (Int32.ofNat_mul 3 p).symm, nI_add]
theorem kp_ev : ∀ k, 192 ≤ k → k < 288 → kp k = false := by
  have h : ∀ k, k < 288 → 192 ≤ k → kp k = false := by decide +kernel
  exact fun k h1 h2 => h k h2 h1
theorem t_happ47 {c0 c : mC} (g : G c0 c) {p : Nat} (hp : p < 32) (e : c 21 12 = nI p) {x1 x2 : Int32} : ok (G c0) (J_X6_happens_47 c x1 x2) := by
  refine ok_bo (t_of g 12 rfl (by decide)) (fun v1 hv1 => ?_)
  rw [e] at hv1
  subst hv1
  rw [ev_n, puts_n (by omega)]
  refine ok_bo (ok_s (Q := fun m => G c0 m ∧ m 21 12 = nI p) ⟨g.w (kp_ev _ (by omega) (by omega)) (by omega) (by omega) (by omega), by rw [rd21, if_neg (by omega)]; exact e⟩) (fun c2 h2 => ?_)
  obtain ⟨g2, e2⟩ := h2
  refine ok_bo (t_of g2 1 rfl (by decide)) (fun v3 _ => ?_)
  rw [show nI (192 + 3 * p) + 1 = nI (192 + 3 * p + 1) from nI_1 _, puts_n (by omega)]
  refine ok_bo (ok_s (Q := fun m => G c0 m ∧ m 21 12 = nI p) ⟨g2.w (kp_ev _ (by omega) (by omega)) (by omega) (by omega) (by omega), by rw [rd21, if_neg (by omega)]; exact e2⟩) (fun c4 h4 => ?_)
  obtain ⟨g4, e4⟩ := h4
  rw [show nI (192 + 3 * p) + 2 = nI (192 + 3 * p + 2) from nI_add _ 2, puts_n (by omega)]
  refine ok_bo (ok_s (Q := fun m => G c0 m ∧ m 21 12 = nI p) ⟨g4.w (kp_ev _ (by omega) (by omega)) (by omega) (by omega) (by omega), by rw [rd21, if_neg (by omega)]; exact e4⟩) (fun c5 h5 => ?_)
  obtain ⟨g5, e5⟩ := h5
  have ea : P_X6_adds c5 12 1 = some (mP c5 21 12 (c5 21 12 + 1)) := rfl
  rw [ea]
  refine ok_bo (ok_s (Q := G c0) (g5.w rfl (by omega) (fun _ => ?_) (by omega))) (fun c6 h6 => ok_s h6)
  rw [e5]
  exact ⟨p + 1, by omega, nI_1 p⟩
theorem t_happens {c0 c : mC} (g : G c0 c) {x1 x2 : Int32} : ok (G c0) (P_X6_happens c x1 x2) := by
  refine ok_bo (t_of g 12 rfl (by decide)) (fun v1 hv1 => ?_)
  refine ok_if (fun q => ?_) (fun q => ?_)
  · refine ok_wh (fun s : Int32 × mC => ∃ n, 192 ≤ n ∧ n ≤ 285 ∧ s.1 = nI n ∧ G c0 s.2 ∧ s.2 21 12 = nI 32) tm_X6_happens_15 ?_ ⟨192, by decide, by decide, rfl, g, hv1.symm.trans q⟩
    rintro ⟨x3, c⟩ ⟨n, hn1, hn2, e, g, e12⟩
    have e' : x3 = nI n := e
    subst e'
    refine ok2_if (fun _ => ok2_r ?_) (fun q => ?_)
    · have ea : P_X6_adds c 12 (-1) = some (mP c 21 12 (c 21 12 + (-1))) := rfl
      rw [ea]
      have e31 : c 21 12 + (-1) = nI 31 := by
        have : c 21 12 = nI 32 := e12
        rw [this]; decide
      refine ok_bo (ok_s (Q := fun m => G c0 m ∧ m 21 12 = nI 31) ⟨G.w g rfl (by omega) (fun _ => ⟨31, by decide, e31⟩) (by omega), by rw [rd21, if_pos rfl]; exact e31⟩) (fun c1 h1 => t_happ47 h1.1 (by decide) h1.2)
    · have hn3 : n < 285 := by
        have : ¬ 285 ≤ n := fun z => q ((nI_leI (a := 285) (by omega) (by omega)).mpr z)
        omega
      rw [show nI n + 3 = nI (n + 3) from nI_add _ 3]
      refine ok_b2 (t_of g (n + 3) rfl (by omega)) (fun v2 _ => ?_)
      rw [puts_n (by omega)]
      refine ok_b2 (ok_s (Q := fun m => G c0 m ∧ m 21 12 = nI 32) ⟨G.w g (kp_ev _ (by omega) (by omega)) (by omega) (by omega) (by omega), by rw [rd21, if_neg (by omega)]; exact e12⟩) (fun c3 h3 => ok2_l ⟨n + 1, by omega, by omega, nI_1 n, h3.1, h3.2⟩)
  · obtain ⟨p, hp, e⟩ := g.1.2.2.2.1
    refine t_happ47 g (p := p) ?_ e
    have : ¬ p = 32 := fun z => q (by rw [hv1, e, z]; rfl)
    omega

theorem tk_J_X6_isPhase_17 {c0 : mC} {c : mC} (g_c : G c0 c) : ok (fun _ => True) (J_X6_isPhase_17 c) :=
  (ok_s trivial)
theorem tk_P_X6_isPhase {c0 : mC} {c : mC} (g_c : G c0 c) {x1 : Int32} : ok (fun _ => True) (P_X6_isPhase c x1) :=
  (ok_if (fun q1 => (tk_J_X6_isPhase_17 g_c)) (fun q2 => (ok_bo (t_of0 g_c) (fun v3 h4 => (ok_if (fun q5 => (tk_J_X6_isPhase_17 g_c)) (fun q6 => (ok_s trivial)))))))
theorem tk_J_X6_areFoes_39 {c0 : mC} {c : mC} (g_c : G c0 c) : ok (fun _ => True) (J_X6_areFoes_39 c) :=
  (ok_s trivial)
theorem tk_J_X6_areFoes_35 {c0 : mC} {c : mC} (g_c : G c0 c) : ok (fun _ => True) (J_X6_areFoes_35 c) :=
  (ok_s trivial)
theorem tk_P_X6_areFoes {c0 : mC} {c : mC} (g_c : G c0 c) {x1 : Int32} (h_x1_rQ : rQ x1) {x2 : Int32} (h_x2_rQ : rQ x2) : ok (fun _ => True) (P_X6_areFoes c x1 x2) :=
  (ok_if (fun q1 => (tk_J_X6_areFoes_39 g_c)) (fun q2 => (ok_bo (t_ofPhase g_c h_x1_rQ 0 rfl (by decide)) (fun v3 h4 => (ok_bo (t_ofPhase g_c h_x2_rQ 0 rfl (by decide)) (fun v5 h6 => (ok_if (fun q7 => (tk_J_X6_areFoes_35 g_c)) (fun q8 => (ok_bo (t_ofPhase g_c h_x1_rQ 1 rfl (by decide)) (fun v9 h10 => (ok_bo (t_ofPhase g_c h_x2_rQ 1 rfl (by decide)) (fun v11 h12 => (ok_if (fun q13 => (tk_J_X6_areFoes_39 g_c)) (fun q14 => (tk_J_X6_areFoes_35 g_c)))))))))))))))
theorem tk_J_X6_foesOf_30 {c0 : mC} {c : mC} (g_c : G c0 c) {x1 : Int32} (h_x1_rP : rP x1) {x3 : Int32} (h_x3_rP : rP x3) {s0 : Int32} {s1 : Int32} : ok2 (fun s : Int32 × Int32 => r08 (s.2) ∧ True) (fun _ => True) (J_X6_foesOf_30 c x1 x3 s0 s1) :=
  (ok2_l ⟨(rP_up h_x3_rP), trivial⟩)
theorem tb_X6_foesOf_4 {c0 : mC} {c : mC} (g_c : G c0 c) {x1 : Int32} (h_x1_rP : rP x1) : ∀ s : Int32 × Int32, (fun s : Int32 × Int32 => r08 (s.2) ∧ True) s → ok2 (fun s : Int32 × Int32 => r08 (s.2) ∧ True) (fun _ => True) (B_X6_foesOf_4 c x1 s) := by
  rintro ⟨x2, x3⟩ ⟨k_x3_r08, _⟩
  show ok2 (fun s : Int32 × Int32 => r08 (s.2) ∧ True) (fun _ => True) (mBo (α := Int32) (.inr none) (P_X6_of c 0) (fun v1 => (if v1 ≤ x3 then (.inr (some x2)) else (mBo (α := Int32) (.inr none) (P_X6_areFoes c x1 x3) (fun v2 => (if v2 = 0 then (J_X6_foesOf_30 c x1 x3 x2 0) else (J_X6_foesOf_30 c x1 x3 x2 ((1 : Int32) <<< (x3 &&& 31)))))))))
  exact (ok_b2 (t_of0 g_c) (fun v1 h2 => (ok2_if (fun q3 => (ok2_r (ok_s trivial))) (fun q4 => (ok_b2 (tk_P_X6_areFoes g_c (rP_Q h_x1_rP) (rP_Q (rP_lt k_x3_r08 h2 q4))) (fun v5 h6 => (ok2_if (fun q7 => (tk_J_X6_foesOf_30 g_c h_x1_rP (rP_lt k_x3_r08 h2 q4))) (fun q8 => (tk_J_X6_foesOf_30 g_c h_x1_rP (rP_lt k_x3_r08 h2 q4))))))))))
theorem tk_P_X6_foesOf {c0 : mC} {c : mC} (g_c : G c0 c) {x1 : Int32} (h_x1_rP : rP x1) : ok (fun _ => True) (P_X6_foesOf c x1) :=
  (ok_wh _ tm_X6_foesOf_4 (tb_X6_foesOf_4 g_c h_x1_rP) ⟨r08_0, trivial⟩)
theorem tk_J_X6_isPeace_31 {c0 : mC} {c : mC} (g_c : G c0 c) {x1 : Int32} {x2 : Int32} (h_x2_rP : rP x2) : ok2 (fun s : Int32 => r08 s ∧ True) (fun _ => True) (J_X6_isPeace_31 c x1 x2) :=
  (ok2_l ⟨(rP_up h_x2_rP), trivial⟩)
theorem tb_X6_isPeace_2 {c0 : mC} {c : mC} (g_c : G c0 c) {x1 : Int32} : ∀ s : Int32, (fun s : Int32 => r08 s ∧ True) s → ok2 (fun s : Int32 => r08 s ∧ True) (fun _ => True) (B_X6_isPeace_2 c x1 s) := by
  rintro x2 ⟨k_x2_r08, _⟩
  show ok2 (fun s : Int32 => r08 s ∧ True) (fun _ => True) (mBo (α := Int32) (.inr none) (P_X6_of c 0) (fun v1 => (if v1 ≤ x2 then (.inr (some 1)) else (mBd (α := Int32) (P_X6_has x1 x2) (fun v2 => (if v2 = 0 then (J_X6_isPeace_31 c x1 x2) else (mBo (α := Int32) (.inr none) (P_X6_foesOf c x2) (fun v3 => (if (v3 &&& x1) = 0 then (J_X6_isPeace_31 c x1 x2) else (.inr (some 0)))))))))))
  exact (ok_b2 (t_of0 g_c) (fun v1 h2 => (ok2_if (fun q3 => (ok2_r (ok_s trivial))) (fun q4 => (ok2_bd (fun v5 e6 => (ok2_if (fun q7 => (tk_J_X6_isPeace_31 g_c (rP_lt k_x2_r08 h2 q4))) (fun q8 => (ok_b2 (tk_P_X6_foesOf g_c (rP_lt k_x2_r08 h2 q4)) (fun v9 h10 => (ok2_if (fun q11 => (tk_J_X6_isPeace_31 g_c (rP_lt k_x2_r08 h2 q4))) (fun q12 => (ok2_r (ok_s trivial))))))))))))))
theorem tk_P_X6_isPeace {c0 : mC} {c : mC} (g_c : G c0 c) {x1 : Int32} : ok (fun _ => True) (P_X6_isPeace c x1) :=
  (ok_wh _ tm_X6_isPeace_2 (tb_X6_isPeace_2 g_c) ⟨r08_0, trivial⟩)
theorem tk_J_X6_isCalled_31 {c0 : mC} {c : mC} (g_c : G c0 c) : ok (fun _ => True) (J_X6_isCalled_31 c) :=
  (ok_s trivial)
theorem tk_P_X6_isCalled {c0 : mC} {c : mC} (g_c : G c0 c) {x1 : Int32} (h_x1_rP : rP x1) : ok (fun _ => True) (P_X6_isCalled c x1) :=
  (ok_bo (t_ofPhase g_c (rP_Q h_x1_rP) 13 rfl (by decide)) (fun v1 h2 => (ok_if (fun q3 => (tk_J_X6_isCalled_31 g_c)) (fun q4 => (ok_bo (t_ofPhase g_c (rP_Q h_x1_rP) 12 rfl (by decide)) (fun v5 h6 => (ok_if (fun q7 => (tk_J_X6_isCalled_31 g_c)) (fun q8 => (ok_bo (t_mark g_c (rP_Q h_x1_rP) 7 rfl (by decide)) (fun v9 h10 => (ok_if (fun q11 => (ok_s trivial)) (fun q12 => (tk_J_X6_isCalled_31 g_c)))))))))))))
theorem tk_J_X6_isOnFoot_35 {c0 : mC} {c : mC} (g_c : G c0 c) : ok (fun _ => True) (J_X6_isOnFoot_35 c) :=
  (ok_s trivial)
theorem tk_J_X6_isOnFoot_31 {c0 : mC} {c : mC} (g_c : G c0 c) : ok (fun _ => True) (J_X6_isOnFoot_31 c) :=
  (ok_s trivial)
theorem tk_P_X6_isOnFoot {c0 : mC} {c : mC} (g_c : G c0 c) {x1 : Int32} (h_x1_rP : rP x1) : ok (fun _ => True) (P_X6_isOnFoot c x1) :=
  (ok_bo (t_mark g_c (rP_Q h_x1_rP) 5 rfl (by decide)) (fun v1 h2 => (ok_if (fun q3 => (tk_J_X6_isOnFoot_35 g_c)) (fun q4 => (ok_bo (t_ofPhase g_c (rP_Q h_x1_rP) 14 rfl (by decide)) (fun v5 h6 => (ok_if (fun q7 => (tk_J_X6_isOnFoot_31 g_c)) (fun q8 => (ok_bo (t_mark g_c (rP_Q h_x1_rP) 7 rfl (by decide)) (fun v9 h10 => (ok_if (fun q11 => (tk_J_X6_isOnFoot_31 g_c)) (fun q12 => (tk_J_X6_isOnFoot_35 g_c)))))))))))))
theorem tk_J_X6_isAsked_16 {c0 : mC} {c : mC} (g_c : G c0 c) : ok (fun _ => True) (J_X6_isAsked_16 c) :=
  (ok_s trivial)
theorem tk_P_X6_isAsked {c0 : mC} {c : mC} (g_c : G c0 c) {x1 : Int32} (h_x1_rP : rP x1) : ok (fun _ => True) (P_X6_isAsked c x1) :=
  (ok_bo (tk_P_X6_isCalled g_c h_x1_rP) (fun v1 h2 => (ok_if (fun q3 => (ok_bo (tk_P_X6_isOnFoot g_c h_x1_rP) (fun v5 h6 => (ok_if (fun q7 => (ok_s trivial)) (fun q8 => (tk_J_X6_isAsked_16 g_c)))))) (fun q4 => (tk_J_X6_isAsked_16 g_c)))))
theorem tk_J_X6_firstOf_51 {c0 : mC} {c : mC} (g_c : G c0 c) {x5 : Int32} (h_x5_rP : rP x5) : ok (fun v => rQ v) (J_X6_firstOf_51 c x5) :=
  (ok_s (rP_Q h_x5_rP))
theorem tk_J_X6_firstOf_54 {c0 : mC} {c : mC} (g_c : G c0 c) {x1 : Int32} {x2 : Int32} {x4 : Int32} (h_x4_r01 : r01 x4) {x5 : Int32} (h_x5_rP : rP x5) : ok2 (fun s : Int32 => r08 s ∧ True) (fun v => rQ v) (J_X6_firstOf_54 c x1 x2 x4 x5) :=
  (ok2_l ⟨(rP_up h_x5_rP), trivial⟩)
theorem tb_X6_firstOf_5 {c0 : mC} {c : mC} (g_c : G c0 c) {x1 : Int32} {x2 : Int32} {x4 : Int32} (h_x4_r01 : r01 x4) : ∀ s : Int32, (fun s : Int32 => r08 s ∧ True) s → ok2 (fun s : Int32 => r08 s ∧ True) (fun v => rQ v) (B_X6_firstOf_5 c x1 x2 x4 s) := by
  rintro x5 ⟨k_x5_r08, _⟩
  show ok2 (fun s : Int32 => r08 s ∧ True) (fun v => rQ v) (mBo (α := Int32) (.inr none) (P_X6_of c 0) (fun v1 => (if v1 ≤ x5 then (.inr (some (-1))) else (mBo (α := Int32) (.inr none) (P_X6_ofPhase c x5 0) (fun v2 => (if v2 = x1 then (mBo (α := Int32) (.inr none) (P_X6_ofPhase c x5 1) (fun v3 => (if v3 = x2 then (if x4 = 0 then (.inr (J_X6_firstOf_51 c x5)) else (mBo (α := Int32) (.inr none) (P_X6_isAsked c x5) (fun v4 => (if v4 = 0 then (J_X6_firstOf_54 c x1 x2 x4 x5) else (.inr (J_X6_firstOf_51 c x5)))))) else (J_X6_firstOf_54 c x1 x2 x4 x5)))) else (J_X6_firstOf_54 c x1 x2 x4 x5)))))))
  exact (ok_b2 (t_of0 g_c) (fun v1 h2 => (ok2_if (fun q3 => (ok2_r (ok_s rQ_m))) (fun q4 => (ok_b2 (t_ofP0 g_c (rP_lt k_x5_r08 h2 q4)) (fun v5 h6 => (ok2_if (fun q7 => (ok_b2 (t_ofPhase g_c (rP_Q (rP_lt k_x5_r08 h2 q4)) 1 rfl (by decide)) (fun v9 h10 => (ok2_if (fun q11 => (ok2_if (fun q13 => (ok2_r (tk_J_X6_firstOf_51 g_c (rP_lt k_x5_r08 h2 q4)))) (fun q14 => (ok_b2 (tk_P_X6_isAsked g_c (rP_lt k_x5_r08 h2 q4)) (fun v15 h16 => (ok2_if (fun q17 => (tk_J_X6_firstOf_54 g_c h_x4_r01 (rP_lt k_x5_r08 h2 q4))) (fun q18 => (ok2_r (tk_J_X6_firstOf_51 g_c (rP_lt k_x5_r08 h2 q4)))))))))) (fun q12 => (tk_J_X6_firstOf_54 g_c h_x4_r01 (rP_lt k_x5_r08 h2 q4))))))) (fun q8 => (tk_J_X6_firstOf_54 g_c h_x4_r01 (rP_lt k_x5_r08 h2 q4))))))))))
theorem tk_P_X6_firstOf {c0 : mC} {c : mC} (g_c : G c0 c) {x1 : Int32} {x2 : Int32} {x3 : Int32} (h_x3_rQ : rQ x3) {x4 : Int32} (h_x4_r01 : r01 x4) : ok (fun v => rQ v) (P_X6_firstOf c x1 x2 x3 x4) :=
  (ok_wh _ tm_X6_firstOf_5 (tb_X6_firstOf_5 g_c h_x4_r01) ⟨(rQ_up h_x3_rQ), trivial⟩)
theorem tb_X6_starts_31 {c0 : mC} {x1 : Int32} (h_x1_rQ : rQ x1) : ∀ s : Int32 × mC, (fun s : Int32 × mC => r02 (s.1) ∧ r08 (s.1) ∧ G c0 s.2 ∧ True) s → ok2 (fun s : Int32 × mC => r02 (s.1) ∧ r08 (s.1) ∧ G c0 s.2 ∧ True) (G c0) (B_X6_starts_31 x1 s) := by
  rintro ⟨x2, c⟩ ⟨k_x2_r02, k_x2_r08, g_c, _⟩
  show ok2 (fun s : Int32 × mC => r02 (s.1) ∧ r08 (s.1) ∧ G c0 s.2 ∧ True) (G c0) (if 2 ≤ x2 then (.inr (some c)) else (mBo (α := mC) (.inr none) (P_X6_clearsRing c x2) (fun c1 => (if x1 = (-1) then (J_X6_starts_56 c1 x1 x2 x2 3 x2 1) else (J_X6_starts_56 c1 x1 x2 x2 3 x2 0)))))
  exact (ok2_if (fun q1 => (ok2_r (ok_s g_c))) (fun q2 => (ok_b2 (t_clears g_c (r02_lt k_x2_r02 q2)) (fun v3 h4 => (ok2_if (fun q5 => (ok_b2 (tk_P_X6_firstOf h4 rQ_m r01_0) (fun v7 h8 => (ok_b2 (t_putsR h4 (r02_lt k_x2_r02 q2) 3 rfl (by decide) (fun _ => h8)) (fun v9 h10 => (ok2_l ⟨(r01_up (r02_lt k_x2_r02 q2)), (rP_up (r01_P (r02_lt k_x2_r02 q2))), h10, trivial⟩)))))) (fun q6 => (ok_b2 (tk_P_X6_firstOf h4 rQ_m r01_0) (fun v11 h12 => (ok_b2 (t_putsR h4 (r02_lt k_x2_r02 q2) 3 rfl (by decide) (fun _ => h12)) (fun v13 h14 => (ok2_l ⟨(r01_up (r02_lt k_x2_r02 q2)), (rP_up (r01_P (r02_lt k_x2_r02 q2))), h14, trivial⟩)))))))))))
theorem tk_J_X6_starts_29 {c0 : mC} {c : mC} (g_c : G c0 c) {x1 : Int32} (h_x1_rQ : rQ x1) : ok (G c0) (J_X6_starts_29 c x1) :=
  (ok_wh _ tm_X6_starts_31 (tb_X6_starts_31 h_x1_rQ) ⟨r02_0, r08_0, g_c, trivial⟩)
theorem tb_X6_starts_4 {c0 : mC} {c : mC} (g_c : G c0 c) : ∀ s : Int32 × Int32, (fun s : Int32 × Int32 => rQ (s.1) ∧ r02 (s.2) ∧ r08 (s.2) ∧ True) s → ok2 (fun s : Int32 × Int32 => rQ (s.1) ∧ r02 (s.2) ∧ r08 (s.2) ∧ True) (G c0) (B_X6_starts_4 c s) := by
  rintro ⟨x1, x2⟩ ⟨k_x1_rQ, k_x2_r02, k_x2_r08, _⟩
  show ok2 (fun s : Int32 × Int32 => rQ (s.1) ∧ r02 (s.2) ∧ r08 (s.2) ∧ True) (G c0) (if 2 ≤ x2 then (.inr (J_X6_starts_29 c x1)) else (if x1 = (-1) then (mBo (α := Int32) (.inr none) (P_X6_firstOf c x2 0 (-1) 0) (fun v1 => (.inl (v1, (x2 + 1))))) else (.inr (J_X6_starts_29 c x1))))
  exact (ok2_if (fun q1 => (ok2_r (tk_J_X6_starts_29 g_c k_x1_rQ))) (fun q2 => (ok2_if (fun q3 => (ok_b2 (tk_P_X6_firstOf g_c rQ_m r01_0) (fun v5 h6 => (ok2_l ⟨h6, (r01_up (r02_lt k_x2_r02 q2)), (rP_up (r01_P (r02_lt k_x2_r02 q2))), trivial⟩)))) (fun q4 => (ok2_r (tk_J_X6_starts_29 g_c k_x1_rQ))))))
theorem tk_P_X6_starts {c0 : mC} {c : mC} (g_c : G c0 c) : ok (G c0) (P_X6_starts c) :=
  (ok_wh _ tm_X6_starts_4 (tb_X6_starts_4 g_c) ⟨rQ_m, r02_0, r08_0, trivial⟩)
theorem tk_J_X6_isFoeAsked_30 {c0 : mC} {c : mC} (g_c : G c0 c) {x1 : Int32} (h_x1_rQ : rQ x1) {x2 : Int32} (h_x2_rP : rP x2) : ok2 (fun s : Int32 => r08 s ∧ True) (fun _ => True) (J_X6_isFoeAsked_30 c x1 x2) :=
  (ok2_l ⟨(rP_up h_x2_rP), trivial⟩)
theorem tb_X6_isFoeAsked_2 {c0 : mC} {c : mC} (g_c : G c0 c) {x1 : Int32} (h_x1_rQ : rQ x1) : ∀ s : Int32, (fun s : Int32 => r08 s ∧ True) s → ok2 (fun s : Int32 => r08 s ∧ True) (fun _ => True) (B_X6_isFoeAsked_2 c x1 s) := by
  rintro x2 ⟨k_x2_r08, _⟩
  show ok2 (fun s : Int32 => r08 s ∧ True) (fun _ => True) (mBo (α := Int32) (.inr none) (P_X6_of c 0) (fun v1 => (if v1 ≤ x2 then (.inr (some 0)) else (mBo (α := Int32) (.inr none) (P_X6_areFoes c x1 x2) (fun v2 => (if v2 = 0 then (J_X6_isFoeAsked_30 c x1 x2) else (mBo (α := Int32) (.inr none) (P_X6_isAsked c x2) (fun v3 => (if v3 = 0 then (J_X6_isFoeAsked_30 c x1 x2) else (.inr (some 1)))))))))))
  exact (ok_b2 (t_of0 g_c) (fun v1 h2 => (ok2_if (fun q3 => (ok2_r (ok_s trivial))) (fun q4 => (ok_b2 (tk_P_X6_areFoes g_c h_x1_rQ (rP_Q (rP_lt k_x2_r08 h2 q4))) (fun v5 h6 => (ok2_if (fun q7 => (tk_J_X6_isFoeAsked_30 g_c h_x1_rQ (rP_lt k_x2_r08 h2 q4))) (fun q8 => (ok_b2 (tk_P_X6_isAsked g_c (rP_lt k_x2_r08 h2 q4)) (fun v9 h10 => (ok2_if (fun q11 => (tk_J_X6_isFoeAsked_30 g_c h_x1_rQ (rP_lt k_x2_r08 h2 q4))) (fun q12 => (ok2_r (ok_s trivial))))))))))))))
theorem tk_P_X6_isFoeAsked {c0 : mC} {c : mC} (g_c : G c0 c) {x1 : Int32} (h_x1_rQ : rQ x1) : ok (fun _ => True) (P_X6_isFoeAsked c x1) :=
  (ok_wh _ tm_X6_isFoeAsked_2 (tb_X6_isFoeAsked_2 g_c h_x1_rQ) ⟨r08_0, trivial⟩)
theorem tk_J_X6_isHolding_24 {c0 : mC} {c : mC} (g_c : G c0 c) : ok (fun _ => True) (J_X6_isHolding_24 c) :=
  (ok_s trivial)
theorem tk_P_X6_isHolding {c0 : mC} {c : mC} (g_c : G c0 c) {x1 : Int32} (h_x1_r01 : r01 x1) : ok (fun _ => True) (P_X6_isHolding c x1) :=
  (ok_bo (t_ofR0q g_c h_x1_r01) (fun v1 h2 => (ok_if (fun q3 => (tk_J_X6_isHolding_24 g_c)) (fun q4 => (ok_bo (t_ofRing g_c h_x1_r01 1 rfl (by decide)) (fun v5 h6 => (ok_if (fun q7 => (tk_J_X6_isHolding_24 g_c)) (fun q8 => (ok_s trivial)))))))))
theorem tk_J_X6_isGreen_23 {c0 : mC} {c : mC} (g_c : G c0 c) : ok (fun _ => True) (J_X6_isGreen_23 c) :=
  (ok_s trivial)
theorem tk_P_X6_isGreen {c0 : mC} {c : mC} (g_c : G c0 c) {x1 : Int32} (h_x1_r01 : r01 x1) : ok (fun _ => True) (P_X6_isGreen c x1) :=
  (ok_bo (t_ofR0q g_c h_x1_r01) (fun v1 h2 => (ok_if (fun q3 => (tk_J_X6_isGreen_23 g_c)) (fun q4 => (ok_bo (t_ofRing g_c h_x1_r01 1 rfl (by decide)) (fun v5 h6 => (ok_if (fun q7 => (ok_s trivial)) (fun q8 => (tk_J_X6_isGreen_23 g_c)))))))))
theorem tk_J_X6_becomesGreen_13 {c0 : mC} {c : mC} (g_c : G c0 c) {x1 : Int32} (h_x1_r01 : r01 x1) {x2 : Int32} (h_x2_rP : rP x2) {s0 : Int32} (h_s0_r01 : r01 s0) : ok (G c0) (J_X6_becomesGreen_13 c x1 x2 s0) :=
  (ok_bo (t_clears g_c h_x1_r01) (fun v1 h2 => (ok_bo (t_putsR h2 h_x1_r01 0 rfl (by decide) (fun _ => (rP_Q h_x2_rP))) (fun v3 h4 => (ok_bo (t_putsR h4 h_x1_r01 1 rfl (by decide) (by omega)) (fun v5 h6 => (ok_bo (t_putsR h6 h_x1_r01 6 rfl (by decide) (by omega)) (fun v7 h8 => (ok_bo (t_putsP h8 h_x2_rP 13 rfl (by decide) (by decide)) (fun v9 h10 => (ok_bo (t_putsP h10 h_x2_rP 14 rfl (by decide) (by decide)) (fun v11 h12 => (ok_bo (t_happens h12) (fun v13 h14 => (ok_s h14)))))))))))))))
theorem tk_P_X6_becomesGreen {c0 : mC} {c : mC} (g_c : G c0 c) {x1 : Int32} (h_x1_r01 : r01 x1) {x2 : Int32} (h_x2_rP : rP x2) : ok (G c0) (P_X6_becomesGreen c x1 x2) :=
  (ok_bo (tk_P_X6_isOnFoot g_c h_x2_rP) (fun v1 h2 => (ok_if (fun q3 => (tk_J_X6_becomesGreen_13 g_c h_x1_r01 h_x2_rP r01_0)) (fun q4 => (tk_J_X6_becomesGreen_13 g_c h_x1_r01 h_x2_rP r01_1)))))
theorem tk_P_X6_leaves {c0 : mC} {c : mC} (g_c : G c0 c) {x1 : Int32} (h_x1_r01 : r01 x1) {x2 : Int32} (h_x2_rQ : rQ x2) : ok (G c0) (P_X6_leaves c x1 x2) :=
  (ok_bo (t_ofR0q g_c h_x1_r01) (fun v1 h2 => (ok_bo (t_clears g_c h_x1_r01) (fun v3 h4 => (ok_bo (t_putsR h4 h_x1_r01 0 rfl (by decide) (fun _ => h2)) (fun v5 h6 => (ok_bo (t_putsR h6 h_x1_r01 1 rfl (by decide) (by omega)) (fun v7 h8 => (ok_bo (t_putsR h8 h_x1_r01 3 rfl (by decide) (fun _ => h_x2_rQ)) (fun v9 h10 => (ok_bo (t_happens h10) (fun v11 h12 => (ok_s h12)))))))))))))
theorem tk_P_X6_goes {c0 : mC} {c : mC} (g_c : G c0 c) {x1 : Int32} (h_x1_r01 : r01 x1) {x2 : Int32} (h_x2_rQ : rQ x2) : ok (G c0) (P_X6_goes c x1 x2) :=
  (ok_bo (tk_P_X6_isHolding g_c h_x1_r01) (fun v1 h2 => (ok_if (fun q3 => (ok_bo (t_putsR g_c h_x1_r01 3 rfl (by decide) (fun _ => h_x2_rQ)) (fun v5 h6 => (ok_s h6)))) (fun q4 => (ok_bo (tk_P_X6_leaves g_c h_x1_r01 h_x2_rQ) (fun v7 h8 => (ok_s h8)))))))
theorem tk_J_X6_comers_48 {c0 : mC} {c : mC} (g_c : G c0 c) {x1 : Int32} (h_x1_rP : rP x1) : ok2 (fun s : Int32 × mC => r08 (s.1) ∧ G c0 s.2 ∧ True) (G c0) (J_X6_comers_48 c x1) :=
  (ok2_l ⟨(rP_up h_x1_rP), g_c, trivial⟩)
theorem tb_X6_comers_2 {c0 : mC}  : ∀ s : Int32 × mC, (fun s : Int32 × mC => r08 (s.1) ∧ G c0 s.2 ∧ True) s → ok2 (fun s : Int32 × mC => r08 (s.1) ∧ G c0 s.2 ∧ True) (G c0) (B_X6_comers_2  s) := by
  rintro ⟨x1, c⟩ ⟨k_x1_r08, g_c, _⟩
  show ok2 (fun s : Int32 × mC => r08 (s.1) ∧ G c0 s.2 ∧ True) (G c0) (mBo (α := Int32) (.inr none) (P_X6_of c 0) (fun v1 => (if v1 ≤ x1 then (.inr (some c)) else (mBo (α := Int32 × mC) (.inr none) (P_X6_drawBy c 60) (fun p2 => (mBo (α := Int32) (.inr none) (P_X6_mark p2.2 x1 9) (fun v3 => (if v3 ≤ p2.1 then (J_X6_comers_48 p2.2 x1) else (mBo (α := Int32) (.inr none) (P_X6_ofPhase p2.2 x1 12) (fun v4 => (mBd (α := Int32) (P_J9_min_7cf53 99 (v4 + 1)) (fun v5 => (mBo (α := mC) (.inr none) (P_X6_putsPhase p2.2 x1 12 v5) (fun c6 => (J_X6_comers_48 c6 x1)))))))))))))))
  exact (ok_b2 (t_of0 g_c) (fun v1 h2 => (ok2_if (fun q3 => (ok2_r (ok_s g_c))) (fun q4 => (ok_b2 (t_draw g_c) (fun v5 h6 => (ok_b2 (t_mark h6 (rP_Q (rP_lt k_x1_r08 h2 q4)) 9 rfl (by decide)) (fun v7 h8 => (ok2_if (fun q9 => (tk_J_X6_comers_48 h6 (rP_lt k_x1_r08 h2 q4))) (fun q10 => (ok_b2 (t_ofPhase h6 (rP_Q (rP_lt k_x1_r08 h2 q4)) 12 rfl (by decide)) (fun v11 h12 => (ok2_bd (fun v13 e14 => (ok_b2 (t_putsP h6 (rP_lt k_x1_r08 h2 q4) 12 rfl (by decide) (by decide)) (fun v15 h16 => (tk_J_X6_comers_48 h16 (rP_lt k_x1_r08 h2 q4))))))))))))))))))
theorem tk_P_X6_comers {c0 : mC} {c : mC} (g_c : G c0 c) : ok (G c0) (P_X6_comers c) :=
  (ok_wh _ tm_X6_comers_2 (tb_X6_comers_2 ) ⟨r08_0, g_c, trivial⟩)
theorem tk_J_X6_greenGoes_171 {c0 : mC} {c : mC} (g_c : G c0 c) {x1 : Int32} (h_x1_r01 : r01 x1) {x2 : Int32} (h_x2_rQ : rQ x2) : ok (G c0) (J_X6_greenGoes_171 c x1 x2) :=
  (ok_bo (t_ofRing g_c h_x1_r01 6 rfl (by decide)) (fun v1 h2 => (ok_if (fun q3 => (ok_bo (t_ofRing g_c h_x1_r01 7 rfl (by decide)) (fun v5 h6 => (ok_bo (t_mark g_c h_x2_rQ 6 rfl (by decide)) (fun v7 h8 => (ok_if (fun q9 => (ok_s g_c)) (fun q10 => (ok_bo (t_putsR g_c h_x1_r01 6 rfl (by decide) (by omega)) (fun v11 h12 => (ok_s h12)))))))))) (fun q4 => (ok_s g_c)))))
theorem tk_J_X6_greenGoes_137 {c0 : mC} {c : mC} (g_c : G c0 c) {x1 : Int32} (h_x1_r01 : r01 x1) {x2 : Int32} (h_x2_rQ : rQ x2) : ok (G c0) (J_X6_greenGoes_137 c x1 x2) :=
  (ok_bo (t_ofRing g_c h_x1_r01 6 rfl (by decide)) (fun v1 h2 => (ok_if (fun q3 => (ok_bo (t_ofRing g_c h_x1_r01 2 rfl (by decide)) (fun v5 h6 => (ok_bo (t_mark g_c h_x2_rQ 5 rfl (by decide)) (fun v7 h8 => (ok_if (fun q9 => (tk_J_X6_greenGoes_171 g_c h_x1_r01 h_x2_rQ)) (fun q10 => (ok_bo (t_putsR g_c h_x1_r01 6 rfl (by decide) (by omega)) (fun v11 h12 => (tk_J_X6_greenGoes_171 h12 h_x1_r01 h_x2_rQ)))))))))) (fun q4 => (tk_J_X6_greenGoes_171 g_c h_x1_r01 h_x2_rQ)))))
theorem tk_J_X6_greenGoes_110 {c0 : mC} {c : mC} (g_c : G c0 c) {x1 : Int32} (h_x1_r01 : r01 x1) {x2 : Int32} (h_x2_rQ : rQ x2) : ok (G c0) (J_X6_greenGoes_110 c x1 x2) :=
  (ok_bo (t_ofRing g_c h_x1_r01 6 rfl (by decide)) (fun v1 h2 => (ok_if (fun q3 => (ok_bo (t_ofRing g_c h_x1_r01 7 rfl (by decide)) (fun v5 h6 => (ok_bo (t_putsR g_c h_x1_r01 7 rfl (by decide) (by omega)) (fun v7 h8 => (tk_J_X6_greenGoes_137 h8 h_x1_r01 h_x2_rQ)))))) (fun q4 => (tk_J_X6_greenGoes_137 g_c h_x1_r01 h_x2_rQ)))))
theorem tk_J_X6_greenGoes_88 {c0 : mC} {c : mC} (g_c : G c0 c) {x1 : Int32} (h_x1_r01 : r01 x1) {x2 : Int32} (h_x2_rQ : rQ x2) : ok (G c0) (J_X6_greenGoes_88 c x1 x2) :=
  (ok_bo (tk_P_X6_isFoeAsked g_c h_x2_rQ) (fun v1 h2 => (ok_if (fun q3 => (tk_J_X6_greenGoes_110 g_c h_x1_r01 h_x2_rQ)) (fun q4 => (ok_bo (t_ofRing g_c h_x1_r01 5 rfl (by decide)) (fun v5 h6 => (ok_bo (t_putsR g_c h_x1_r01 5 rfl (by decide) (by omega)) (fun v7 h8 => (tk_J_X6_greenGoes_110 h8 h_x1_r01 h_x2_rQ)))))))))
theorem tk_P_X6_greenGoes {c0 : mC} {c : mC} (g_c : G c0 c) {x1 : Int32} (h_x1_r01 : r01 x1) : ok (G c0) (P_X6_greenGoes c x1) :=
  (ok_bo (t_ofR0q g_c h_x1_r01) (fun v1 h2 => (ok_bo (t_ofPhase g_c h2 12 rfl (by decide)) (fun v3 h4 => (ok_if (fun q5 => (ok_bo (t_putsR g_c h_x1_r01 4 rfl (by decide) (by omega)) (fun v7 h8 => (ok_if (fun q9 => (tk_J_X6_greenGoes_88 h8 h_x1_r01 h2)) (fun q10 => (ok_bo (t_putsPQ h8 h2 12 rfl (by decide) (by decide)) (fun v11 h12 => (ok_bo (t_ofPhase h12 h2 15 rfl (by decide)) (fun v13 h14 => (ok_bo (t_putsPQ h12 h2 15 rfl (by decide) (by decide)) (fun v15 h16 => (tk_J_X6_greenGoes_88 (G.m h16 (Or.inr (Or.inl rfl))) h_x1_r01 h2)))))))))))) (fun q6 => (ok_bo (t_ofPhase g_c h2 16 rfl (by decide)) (fun v17 h18 => (ok_if (fun q19 => (ok_bo (t_putsR g_c h_x1_r01 4 rfl (by decide) (by omega)) (fun v21 h22 => (ok_if (fun q23 => (tk_J_X6_greenGoes_88 h22 h_x1_r01 h2)) (fun q24 => (ok_bo (t_putsPQ h22 h2 12 rfl (by decide) (by decide)) (fun v25 h26 => (ok_bo (t_ofPhase h26 h2 15 rfl (by decide)) (fun v27 h28 => (ok_bo (t_putsPQ h26 h2 15 rfl (by decide) (by decide)) (fun v29 h30 => (tk_J_X6_greenGoes_88 (G.m h30 (Or.inr (Or.inl rfl))) h_x1_r01 h2)))))))))))) (fun q20 => (ok_bo (t_ofRing g_c h_x1_r01 4 rfl (by decide)) (fun v31 h32 => (ok_bo (t_putsR g_c h_x1_r01 4 rfl (by decide) (by omega)) (fun v33 h34 => (ok_if (fun q35 => (tk_J_X6_greenGoes_88 h34 h_x1_r01 h2)) (fun q36 => (ok_bo (t_putsPQ h34 h2 12 rfl (by decide) (by decide)) (fun v37 h38 => (ok_bo (t_ofPhase h38 h2 15 rfl (by decide)) (fun v39 h40 => (ok_bo (t_putsPQ h38 h2 15 rfl (by decide) (by decide)) (fun v41 h42 => (tk_J_X6_greenGoes_88 (G.m h42 (Or.inr (Or.inl rfl))) h_x1_r01 h2)))))))))))))))))))))))
theorem tk_J_X6_ringGoes_83 {c0 : mC} {c : mC} (g_c : G c0 c) {x1 : Int32} (h_x1_r01 : r01 x1) {x2 : Int32} (h_x2_rQ : rQ x2) : ok (G c0) (J_X6_ringGoes_83 c x1 x2) :=
  (ok_bo (t_ofRing g_c h_x1_r01 1 rfl (by decide)) (fun v1 h2 => (ok_if (fun q3 => (ok_bo (t_ofRing g_c h_x1_r01 2 rfl (by decide)) (fun v5 h6 => (ok_bo (t_mark g_c h_x2_rQ 4 rfl (by decide)) (fun v7 h8 => (ok_if (fun q9 => (ok_bo (t_ofR3 g_c h_x1_r01) (fun v11 h12 => (ok_bo (t_clears g_c h_x1_r01) (fun v13 h14 => (ok_bo (t_putsR h14 h_x1_r01 3 rfl (by decide) (fun _ => h12)) (fun v15 h16 => (ok_s h16)))))))) (fun q10 => (ok_s g_c)))))))) (fun q4 => (ok_s g_c)))))
theorem tk_P_X6_ringGoes {c0 : mC} {c : mC} (g_c : G c0 c) {x1 : Int32} (h_x1_r01 : r01 x1) : ok (G c0) (P_X6_ringGoes c x1) :=
  (ok_bo (tk_P_X6_isHolding g_c h_x1_r01) (fun v1 h2 => (ok_if (fun q3 => (ok_s g_c)) (fun q4 => (ok_bo (t_ofR0q g_c h_x1_r01) (fun v5 h6 => (ok_bo (t_ofRing g_c h_x1_r01 2 rfl (by decide)) (fun v7 h8 => (ok_bo (t_putsR g_c h_x1_r01 2 rfl (by decide) (by omega)) (fun v9 h10 => (ok_bo (tk_P_X6_isGreen h10 h_x1_r01) (fun v11 h12 => (ok_if (fun q13 => (ok_bo (t_ofRing h10 h_x1_r01 1 rfl (by decide)) (fun v15 h16 => (ok_if (fun q17 => (ok_bo (t_ofRing h10 h_x1_r01 2 rfl (by decide)) (fun v19 h20 => (ok_bo (t_mark h10 h6 3 rfl (by decide)) (fun v21 h22 => (ok_if (fun q23 => (tk_J_X6_ringGoes_83 h10 h_x1_r01 h6)) (fun q24 => (ok_bo (t_putsR h10 h_x1_r01 1 rfl (by decide) (by omega)) (fun v25 h26 => (ok_bo (t_putsR h26 h_x1_r01 2 rfl (by decide) (by omega)) (fun v27 h28 => (tk_J_X6_ringGoes_83 h28 h_x1_r01 h6)))))))))))) (fun q18 => (tk_J_X6_ringGoes_83 h10 h_x1_r01 h6)))))) (fun q14 => (ok_bo (tk_P_X6_greenGoes h10 h_x1_r01) (fun v29 h30 => (ok_s h30)))))))))))))))))
theorem tk_J_X6_endOf_87 {c0 : mC} {c : mC} (g_c : G c0 c) {x1 : Int32} (h_x1_rQ : rQ x1) {x3 : Int32} (h_x3_rP : rP x3) {s0 : Int32} {s1 : Int32} : ok2 (fun s : Int32 × Int32 => r08 (s.2) ∧ True) (fun _ => True) (J_X6_endOf_87 c x1 x3 s0 s1) :=
  (ok2_l ⟨(rP_up h_x3_rP), trivial⟩)
theorem tk_J_X6_endOf_86 {c0 : mC} {c : mC} (g_c : G c0 c) {x1 : Int32} (h_x1_rQ : rQ x1) {x3 : Int32} (h_x3_rP : rP x3) {s0 : Int32} : ok2 (fun s : Int32 × Int32 => r08 (s.2) ∧ True) (fun _ => True) (J_X6_endOf_86 c x1 x3 s0) :=
  (tk_J_X6_endOf_87 g_c h_x1_rQ h_x3_rP)
theorem tk_J_X6_endOf_53 {c0 : mC} {c : mC} (g_c : G c0 c) {x1 : Int32} (h_x1_rQ : rQ x1) {x2 : Int32} {x3 : Int32} (h_x3_rP : rP x3) {s0 : Int32} (h_s0_r01 : r01 s0) : ok2 (fun s : Int32 × Int32 => r08 (s.2) ∧ True) (fun _ => True) (J_X6_endOf_53 c x1 x2 x3 s0) :=
  (ok_b2 (t_ofP0 g_c h_x3_rP) (fun v1 h2 => (ok_b2 (t_ofPhase g_c h_x1_rQ 0 rfl (by decide)) (fun v3 h4 => (ok2_if (fun q5 => (ok2_if (fun q7 => (tk_J_X6_endOf_86 g_c h_x1_rQ h_x3_rP)) (fun q8 => (ok_b2 (t_mark g_c (rP_Q h_x3_rP) 8 rfl (by decide)) (fun v9 h10 => (tk_J_X6_endOf_87 g_c h_x1_rQ h_x3_rP)))))) (fun q6 => (tk_J_X6_endOf_86 g_c h_x1_rQ h_x3_rP)))))))
theorem tk_J_X6_endOf_48 {c0 : mC} {c : mC} (g_c : G c0 c) {x1 : Int32} (h_x1_rQ : rQ x1) {x2 : Int32} {x3 : Int32} (h_x3_rP : rP x3) : ok2 (fun s : Int32 × Int32 => r08 (s.2) ∧ True) (fun _ => True) (J_X6_endOf_48 c x1 x2 x3) :=
  (tk_J_X6_endOf_53 g_c h_x1_rQ h_x3_rP r01_1)
theorem tk_J_X6_endOf_52 {c0 : mC} {c : mC} (g_c : G c0 c) {x1 : Int32} (h_x1_rQ : rQ x1) {x2 : Int32} {x3 : Int32} (h_x3_rP : rP x3) : ok2 (fun s : Int32 × Int32 => r08 (s.2) ∧ True) (fun _ => True) (J_X6_endOf_52 c x1 x2 x3) :=
  (tk_J_X6_endOf_53 g_c h_x1_rQ h_x3_rP r01_0)
theorem tb_X6_endOf_4 {c0 : mC} {c : mC} (g_c : G c0 c) {x1 : Int32} (h_x1_rQ : rQ x1) : ∀ s : Int32 × Int32, (fun s : Int32 × Int32 => r08 (s.2) ∧ True) s → ok2 (fun s : Int32 × Int32 => r08 (s.2) ∧ True) (fun _ => True) (B_X6_endOf_4 c x1 s) := by
  rintro ⟨x2, x3⟩ ⟨k_x3_r08, _⟩
  show ok2 (fun s : Int32 × Int32 => r08 (s.2) ∧ True) (fun _ => True) (mBo (α := Int32) (.inr none) (P_X6_of c 0) (fun v1 => (if v1 ≤ x3 then (.inr (some x2)) else (mBo (α := Int32) (.inr none) (P_X6_ofPhase c x3 1) (fun v2 => (mBo (α := Int32) (.inr none) (P_X6_ofPhase c x1 1) (fun v3 => (if v2 < v3 then (J_X6_endOf_48 c x1 x2 x3) else (mBo (α := Int32) (.inr none) (P_X6_ofPhase c x3 1) (fun v4 => (mBo (α := Int32) (.inr none) (P_X6_ofPhase c x1 1) (fun v5 => (if v4 = v5 then (if x1 < x3 then (J_X6_endOf_52 c x1 x2 x3) else (J_X6_endOf_48 c x1 x2 x3)) else (J_X6_endOf_52 c x1 x2 x3))))))))))))))
  exact (ok_b2 (t_of0 g_c) (fun v1 h2 => (ok2_if (fun q3 => (ok2_r (ok_s trivial))) (fun q4 => (ok_b2 (t_ofPhase g_c (rP_Q (rP_lt k_x3_r08 h2 q4)) 1 rfl (by decide)) (fun v5 h6 => (ok_b2 (t_ofPhase g_c h_x1_rQ 1 rfl (by decide)) (fun v7 h8 => (ok2_if (fun q9 => (tk_J_X6_endOf_48 g_c h_x1_rQ (rP_lt k_x3_r08 h2 q4))) (fun q10 => (ok_b2 (t_ofPhase g_c (rP_Q (rP_lt k_x3_r08 h2 q4)) 1 rfl (by decide)) (fun v11 h12 => (ok_b2 (t_ofPhase g_c h_x1_rQ 1 rfl (by decide)) (fun v13 h14 => (ok2_if (fun q15 => (ok2_if (fun q17 => (tk_J_X6_endOf_52 g_c h_x1_rQ (rP_lt k_x3_r08 h2 q4))) (fun q18 => (tk_J_X6_endOf_48 g_c h_x1_rQ (rP_lt k_x3_r08 h2 q4))))) (fun q16 => (tk_J_X6_endOf_52 g_c h_x1_rQ (rP_lt k_x3_r08 h2 q4))))))))))))))))))
theorem tk_P_X6_endOf {c0 : mC} {c : mC} (g_c : G c0 c) {x1 : Int32} (h_x1_rQ : rQ x1) : ok (fun _ => True) (P_X6_endOf c x1) :=
  (ok_wh _ tm_X6_endOf_4 (tb_X6_endOf_4 g_c h_x1_rQ) ⟨r08_0, trivial⟩)
theorem tk_J_X6_isForced_41 {c0 : mC} {c : mC} (g_c : G c0 c) : ok (fun _ => True) (J_X6_isForced_41 c) :=
  (ok_s trivial)
theorem tk_P_X6_isForced {c0 : mC} {c : mC} (g_c : G c0 c) {x1 : Int32} (h_x1_rQ : rQ x1) : ok (fun _ => True) (P_X6_isForced c x1) :=
  (ok_bo (t_of g_c 2 rfl (by decide)) (fun v1 h2 => (ok_if (fun q3 => (tk_J_X6_isForced_41 g_c)) (fun q4 => (ok_bo (t_of g_c 4 rfl (by decide)) (fun v5 h6 => (ok_bo (tk_P_X6_endOf g_c h_x1_rQ) (fun v7 h8 => (ok_bo (t_of g_c 2 rfl (by decide)) (fun v9 h10 => (ok_bo (t_left (fun z => (le0_nz q4) (h2.trans (h10.symm.trans z)))) (fun v11 h12 => (ok_bo (t_of g_c 2 rfl (by decide)) (fun v13 h14 => (ok_if (fun q15 => (tk_J_X6_isForced_41 g_c)) (fun q16 => (ok_s trivial)))))))))))))))))
theorem tk_J_X6_isFirst_34 {c0 : mC} {c : mC} (g_c : G c0 c) {s0 : Int32} (h_s0_rQ : rQ s0) {s1 : Int32} (h_s1_rQ : rQ s1) : ok (fun _ => True) (J_X6_isFirst_34 c s0 s1) :=
  (ok_if (fun q1 => (ok_s trivial)) (fun q2 => (ok_s trivial)))
theorem tk_P_X6_isFirst {c0 : mC} {c : mC} (g_c : G c0 c) {x1 : Int32} (h_x1_rQ : rQ x1) : ok (fun _ => True) (P_X6_isFirst c x1) :=
  (ok_bo (t_ofPhase g_c h_x1_rQ 0 rfl (by decide)) (fun v1 h2 => (ok_bo (tk_P_X6_firstOf g_c rQ_m r01_0) (fun v3 h4 => (ok_if (fun q5 => (ok_bo (tk_P_X6_firstOf g_c rQ_m r01_0) (fun v7 h8 => (tk_J_X6_isFirst_34 g_c h_x1_rQ h8)))) (fun q6 => (tk_J_X6_isFirst_34 g_c h_x1_rQ h4)))))))
theorem tk_J_X6_isDone_42 {c0 : mC} {c : mC} (g_c : G c0 c) : ok (fun _ => True) (J_X6_isDone_42 c) :=
  (ok_s trivial)
theorem tk_J_X6_isDone_129 {c0 : mC} {c : mC} (g_c : G c0 c) : ok (fun _ => True) (J_X6_isDone_129 c) :=
  (ok_s trivial)
theorem tk_J_X6_isDone_114 {c0 : mC} {c : mC} (g_c : G c0 c) {x1 : Int32} (h_x1_r01 : r01 x1) {x2 : Int32} (h_x2_rQ : rQ x2) : ok (fun _ => True) (J_X6_isDone_114 c x1 x2) :=
  (ok_bo (t_ofRing g_c h_x1_r01 5 rfl (by decide)) (fun v1 h2 => (ok_bo (t_mark g_c h_x2_rQ 2 rfl (by decide)) (fun v3 h4 => (ok_if (fun q5 => (ok_s trivial)) (fun q6 => (tk_J_X6_isDone_129 g_c)))))))
theorem tk_J_X6_isDone_97 {c0 : mC} {c : mC} (g_c : G c0 c) : ok (fun _ => True) (J_X6_isDone_97 c) :=
  (ok_s trivial)
theorem tk_J_X6_isDone_93 {c0 : mC} {c : mC} (g_c : G c0 c) : ok (fun _ => True) (J_X6_isDone_93 c) :=
  (ok_s trivial)
theorem tk_J_X6_isDone_64 {c0 : mC} {c : mC} (g_c : G c0 c) {x1 : Int32} (h_x1_r01 : r01 x1) {x2 : Int32} (h_x2_rQ : rQ x2) {s0 : Int32} (h_s0_r01 : r01 s0) : ok (fun _ => True) (J_X6_isDone_64 c x1 x2 s0) :=
  (ok_bo (t_of g_c 2 rfl (by decide)) (fun v1 h2 => (ok_if (fun q3 => (ok_if (fun q5 => (tk_J_X6_isDone_114 g_c h_x1_r01 h_x2_rQ)) (fun q6 => (ok_bo (t_mark g_c h_x2_rQ 7 rfl (by decide)) (fun v7 h8 => (ok_if (fun q9 => (tk_J_X6_isDone_114 g_c h_x1_r01 h_x2_rQ)) (fun q10 => (tk_J_X6_isDone_129 g_c)))))))) (fun q4 => (ok_bo (tk_P_X6_isForced g_c h_x2_rQ) (fun v11 h12 => (ok_if (fun q13 => (ok_bo (tk_P_X6_isFirst g_c h_x2_rQ) (fun v15 h16 => (ok_if (fun q17 => (ok_if (fun q19 => (tk_J_X6_isDone_97 g_c)) (fun q20 => (tk_J_X6_isDone_93 g_c)))) (fun q18 => (tk_J_X6_isDone_97 g_c)))))) (fun q14 => (tk_J_X6_isDone_93 g_c)))))))))
theorem tk_P_X6_isDone {c0 : mC} {c : mC} (g_c : G c0 c) {x1 : Int32} (h_x1_r01 : r01 x1) : ok (fun _ => True) (P_X6_isDone c x1) :=
  (ok_bo (tk_P_X6_isGreen g_c h_x1_r01) (fun v1 h2 => (ok_if (fun q3 => (ok_s trivial)) (fun q4 => (ok_bo (t_ofR0q g_c h_x1_r01) (fun v5 h6 => (ok_bo (t_ofRing g_c h_x1_r01 2 rfl (by decide)) (fun v7 h8 => (ok_bo (t_mark g_c h6 0 rfl (by decide)) (fun v9 h10 => (ok_if (fun q11 => (tk_J_X6_isDone_42 g_c)) (fun q12 => (ok_bo (t_ofRing g_c h_x1_r01 6 rfl (by decide)) (fun v13 h14 => (ok_if (fun q15 => (ok_bo (t_ofRing g_c h_x1_r01 4 rfl (by decide)) (fun v17 h18 => (ok_bo (t_mark g_c h6 1 rfl (by decide)) (fun v19 h20 => (ok_if (fun q21 => (tk_J_X6_isDone_64 g_c h_x1_r01 h6 r01_0)) (fun q22 => (tk_J_X6_isDone_64 g_c h_x1_r01 h6 r01_1)))))))) (fun q16 => (tk_J_X6_isDone_42 g_c)))))))))))))))))
theorem tk_J_X6_goesOn_287 {c0 : mC} {c : mC} (g_c : G c0 c) {x4 : Int32} {x5 : Int32} (h_x5_r01 : r01 x5) {x6 : Int32} (h_x6_r01 : r01 x6) : ok2 (fun s : Int32 × mC => r02 (s.1) ∧ r08 (s.1) ∧ G c0 s.2 ∧ True) (G c0) (J_X6_goesOn_287 c x4 x5 x6) :=
  (ok2_l ⟨(r01_up h_x6_r01), (rP_up (r01_P h_x6_r01)), g_c, trivial⟩)
theorem tk_J_X6_goesOn_273 {c0 : mC} {c : mC} (g_c : G c0 c) {x4 : Int32} {x5 : Int32} (h_x5_r01 : r01 x5) {x6 : Int32} (h_x6_r01 : r01 x6) {x7 : Int32} (h_x7_rQ : rQ x7) : ok2 (fun s : Int32 × mC => r02 (s.1) ∧ r08 (s.1) ∧ G c0 s.2 ∧ True) (G c0) (J_X6_goesOn_273 c x4 x5 x6 x7) :=
  (ok2_if (fun q1 => (tk_J_X6_goesOn_287 g_c h_x5_r01 h_x6_r01)) (fun q2 => (ok_b2 (tk_P_X6_goes g_c h_x6_r01 h_x7_rQ) (fun v3 h4 => (tk_J_X6_goesOn_287 h4 h_x5_r01 h_x6_r01)))))
theorem tk_J_X6_goesOn_224 {c0 : mC} {c : mC} (g_c : G c0 c) {x4 : Int32} {x5 : Int32} (h_x5_r01 : r01 x5) (h_x5_nz : ¬ x5 = 0) {x6 : Int32} (h_x6_r01 : r01 x6) {s1 : Int32} (h_s1_r01 : r01 s1) {s2 : Int32} (h_s2_rQ : rQ s2) : ok2 (fun s : Int32 × mC => r02 (s.1) ∧ r08 (s.1) ∧ G c0 s.2 ∧ True) (G c0) (J_X6_goesOn_224 c x4 x5 x6 s1 s2) :=
  (ok_b2 (tk_P_X6_goes g_c h_s1_r01 h_s2_rQ) (fun v1 h2 => (tk_J_X6_goesOn_287 h2 h_x5_r01 h_x6_r01)))
theorem tb_X6_goesOn_173 {c0 : mC} {x4 : Int32} {x5 : Int32} (h_x5_r01 : r01 x5) : ∀ s : Int32 × mC, (fun s : Int32 × mC => r02 (s.1) ∧ r08 (s.1) ∧ G c0 s.2 ∧ True) s → ok2 (fun s : Int32 × mC => r02 (s.1) ∧ r08 (s.1) ∧ G c0 s.2 ∧ True) (G c0) (B_X6_goesOn_173 x4 x5 s) := by
  rintro ⟨x6, c⟩ ⟨k_x6_r02, k_x6_r08, g_c, _⟩
  show ok2 (fun s : Int32 × mC => r02 (s.1) ∧ r08 (s.1) ∧ G c0 s.2 ∧ True) (G c0) (if 2 ≤ x6 then (.inr (some c)) else (if x5 = 0 then (mBo (α := Int32) (.inr none) (P_X6_firstOf c x6 x4 (-1) 1) (fun v1 => (if v1 = (-1) then (J_X6_goesOn_273 c x4 x5 x6 v1) else (mBo (α := Int32) (.inr none) (P_X6_ofRing c x6 0) (fun v2 => (if v1 = v2 then (mBo (α := Int32) (.inr none) (P_X6_firstOf c x6 x4 v1 1) (fun v3 => (J_X6_goesOn_273 c x4 x5 x6 v3))) else (J_X6_goesOn_273 c x4 x5 x6 v1))))))) else (mBo (α := Int32) (.inr none) (P_X6_firstOf c x6 ((1 : Int32) - x4) (-1) 1) (fun v6 => (if v6 = (-1) then (mBo (α := Int32) (.inr none) (P_X6_firstOf c x6 ((1 : Int32) - x4) (-1) 0) (fun v7 => (J_X6_goesOn_224 c x4 x5 x6 x6 v7))) else (J_X6_goesOn_224 c x4 x5 x6 x6 v6))))))
  exact (ok2_if (fun q1 => (ok2_r (ok_s g_c))) (fun q2 => (ok2_if (fun q3 => (ok_b2 (tk_P_X6_firstOf g_c rQ_m r01_1) (fun v5 h6 => (ok2_if (fun q7 => (tk_J_X6_goesOn_273 g_c h_x5_r01 (r02_lt k_x6_r02 q2) h6)) (fun q8 => (ok_b2 (t_ofR0q g_c (r02_lt k_x6_r02 q2)) (fun v9 h10 => (ok2_if (fun q11 => (ok_b2 (tk_P_X6_firstOf g_c h6 r01_1) (fun v13 h14 => (tk_J_X6_goesOn_273 g_c h_x5_r01 (r02_lt k_x6_r02 q2) h14)))) (fun q12 => (tk_J_X6_goesOn_273 g_c h_x5_r01 (r02_lt k_x6_r02 q2) h6)))))))))) (fun q4 => (ok_b2 (tk_P_X6_firstOf g_c rQ_m r01_1) (fun v15 h16 => (ok2_if (fun q17 => (ok_b2 (tk_P_X6_firstOf g_c rQ_m r01_0) (fun v19 h20 => (tk_J_X6_goesOn_224 g_c h_x5_r01 q4 (r02_lt k_x6_r02 q2) (r02_lt k_x6_r02 q2) h20)))) (fun q18 => (tk_J_X6_goesOn_224 g_c h_x5_r01 q4 (r02_lt k_x6_r02 q2) (r02_lt k_x6_r02 q2) h16)))))))))
theorem tk_J_X6_goesOn_168 {c0 : mC} {c : mC} (g_c : G c0 c) {x4 : Int32} {s0 : Int32} (h_s0_r01 : r01 s0) : ok (G c0) (J_X6_goesOn_168 c x4 s0) :=
  (ok_wh _ tm_X6_goesOn_173 (tb_X6_goesOn_173 h_s0_r01) ⟨r02_0, r08_0, g_c, trivial⟩)
theorem tk_J_X6_goesOn_163 {c0 : mC} {c : mC} (g_c : G c0 c) {x4 : Int32} : ok (G c0) (J_X6_goesOn_163 c x4) :=
  (tk_J_X6_goesOn_168 g_c r01_1)
theorem tk_J_X6_goesOn_114 {c0 : mC} {c : mC} (g_c : G c0 c) {x1 : Int32} (h_x1_r01 : r01 x1) {x2 : Int32} (h_x2_r01 : r01 x2) {x3 : Int32} (h_x3_r01 : r01 x3) {x4 : Int32} {x5 : Int32} (h_x5_r01 : r01 x5) : ok2 (fun s : Int32 × Int32 × Int32 × Int32 × Int32 × mC => r01 (s.1) ∧ r01 (s.2.1) ∧ r01 (s.2.2.1) ∧ r02 (s.2.2.2.2.1) ∧ r08 (s.2.2.2.2.1) ∧ G c0 s.2.2.2.2.2 ∧ True) (G c0) (J_X6_goesOn_114 c x1 x2 x3 x4 x5) :=
  (ok2_l ⟨h_x1_r01, h_x2_r01, h_x3_r01, (r01_up h_x5_r01), (rP_up (r01_P h_x5_r01)), g_c, trivial⟩)
theorem tk_J_X6_goesOn_93 {c0 : mC} {c : mC} (g_c : G c0 c) {x1 : Int32} (h_x1_r01 : r01 x1) {x2 : Int32} (h_x2_r01 : r01 x2) (h_x2_nz : ¬ x2 = 0) {x3 : Int32} (h_x3_r01 : r01 x3) {x4 : Int32} {x5 : Int32} (h_x5_r01 : r01 x5) {s0 : Int32} (h_s0_rQ : rQ s0) : ok2 (fun s : Int32 × Int32 × Int32 × Int32 × Int32 × mC => r01 (s.1) ∧ r01 (s.2.1) ∧ r01 (s.2.2.1) ∧ r02 (s.2.2.2.2.1) ∧ r08 (s.2.2.2.2.1) ∧ G c0 s.2.2.2.2.2 ∧ True) (G c0) (J_X6_goesOn_93 c x1 x2 x3 x4 x5 s0) :=
  (ok2_if (fun q1 => (tk_J_X6_goesOn_114 g_c h_x1_r01 h_x2_r01 h_x3_r01 h_x5_r01)) (fun q2 => (ok_b2 (tk_P_X6_leaves g_c h_x5_r01 h_s0_rQ) (fun v3 h4 => (tk_J_X6_goesOn_114 h4 r01_1 h_x2_r01 h_x3_r01 h_x5_r01)))))
theorem tk_J_X6_goesOn_68 {c0 : mC} {c : mC} (g_c : G c0 c) {x1 : Int32} (h_x1_r01 : r01 x1) {x2 : Int32} (h_x2_r01 : r01 x2) (h_x2_nz : ¬ x2 = 0) {x4 : Int32} {x5 : Int32} (h_x5_r01 : r01 x5) {x6 : Int32} (h_x6_rQ : rQ x6) {s0 : Int32} (h_s0_r01 : r01 s0) : ok2 (fun s : Int32 × Int32 × Int32 × Int32 × Int32 × mC => r01 (s.1) ∧ r01 (s.2.1) ∧ r01 (s.2.2.1) ∧ r02 (s.2.2.2.2.1) ∧ r08 (s.2.2.2.2.1) ∧ G c0 s.2.2.2.2.2 ∧ True) (G c0) (J_X6_goesOn_68 c x1 x2 x4 x5 x6 s0) :=
  (ok_b2 (tk_P_X6_isDone g_c h_x5_r01) (fun v1 h2 => (ok2_if (fun q3 => (tk_J_X6_goesOn_93 g_c h_x1_r01 h_x2_r01 h_x2_nz h_s0_r01 h_x5_r01 rQ_m)) (fun q4 => (ok_b2 (tk_P_X6_firstOf g_c h_x6_rQ r01_1) (fun v5 h6 => (tk_J_X6_goesOn_93 g_c h_x1_r01 h_x2_r01 h_x2_nz h_s0_r01 h_x5_r01 h6)))))))
theorem tk_J_X6_goesOn_67 {c0 : mC} {c : mC} (g_c : G c0 c) {x1 : Int32} (h_x1_r01 : r01 x1) {x2 : Int32} (h_x2_r01 : r01 x2) (h_x2_nz : ¬ x2 = 0) {x4 : Int32} {x5 : Int32} (h_x5_r01 : r01 x5) {x6 : Int32} (h_x6_rQ : rQ x6) : ok2 (fun s : Int32 × Int32 × Int32 × Int32 × Int32 × mC => r01 (s.1) ∧ r01 (s.2.1) ∧ r01 (s.2.2.1) ∧ r02 (s.2.2.2.2.1) ∧ r08 (s.2.2.2.2.1) ∧ G c0 s.2.2.2.2.2 ∧ True) (G c0) (J_X6_goesOn_67 c x1 x2 x4 x5 x6) :=
  (tk_J_X6_goesOn_68 g_c h_x1_r01 h_x2_r01 h_x2_nz h_x5_r01 h_x6_rQ r01_0)
theorem tb_X6_goesOn_12 {c0 : mC}  : ∀ s : Int32 × Int32 × Int32 × Int32 × Int32 × mC, (fun s : Int32 × Int32 × Int32 × Int32 × Int32 × mC => r01 (s.1) ∧ r01 (s.2.1) ∧ r01 (s.2.2.1) ∧ r02 (s.2.2.2.2.1) ∧ r08 (s.2.2.2.2.1) ∧ G c0 s.2.2.2.2.2 ∧ True) s → ok2 (fun s : Int32 × Int32 × Int32 × Int32 × Int32 × mC => r01 (s.1) ∧ r01 (s.2.1) ∧ r01 (s.2.2.1) ∧ r02 (s.2.2.2.2.1) ∧ r08 (s.2.2.2.2.1) ∧ G c0 s.2.2.2.2.2 ∧ True) (G c0) (B_X6_goesOn_12  s) := by
  rintro ⟨x1, x2, x3, x4, x5, c⟩ ⟨k_x1_r01, k_x2_r01, k_x3_r01, k_x5_r02, k_x5_r08, g_c, _⟩
  show ok2 (fun s : Int32 × Int32 × Int32 × Int32 × Int32 × mC => r01 (s.1) ∧ r01 (s.2.1) ∧ r01 (s.2.2.1) ∧ r02 (s.2.2.2.2.1) ∧ r08 (s.2.2.2.2.1) ∧ G c0 s.2.2.2.2.2 ∧ True) (G c0) (if 2 ≤ x5 then (.inr (if x1 = 0 then (if x2 = 0 then (some c) else (if x3 = 0 then (some c) else (mBo (α := Int32) none (P_X6_firstOf c 0 ((1 : Int32) - x4) (-1) 1) (fun v1 => (if v1 = (-1) then (mBo (α := Int32) none (P_X6_firstOf c 1 ((1 : Int32) - x4) (-1) 1) (fun v2 => (if v2 = (-1) then (J_X6_goesOn_168 c x4 0) else (J_X6_goesOn_163 c x4)))) else (J_X6_goesOn_163 c x4)))))) else (some c))) else (mBo (α := Int32) (.inr none) (P_X6_isHolding c x5) (fun v8 => (if v8 = 0 then (J_X6_goesOn_114 c x1 x2 x3 x4 x5) else (mBo (α := Int32) (.inr none) (P_X6_ofRing c x5 0) (fun v9 => (mBo (α := Int32) (.inr none) (P_X6_ofPhase c v9 1) (fun v10 => (if x3 = 0 then (J_X6_goesOn_67 c x1 1 v10 x5 v9) else (mBo (α := Int32) (.inr none) (P_X6_isDone c x5) (fun v11 => (if v11 = 0 then (J_X6_goesOn_67 c x1 1 v10 x5 v9) else (J_X6_goesOn_68 c x1 1 v10 x5 v9 1)))))))))))))
  exact (ok2_if (fun q1 => (ok2_r (ok_if (fun q3 => (ok_if (fun q5 => (ok_s g_c)) (fun q6 => (ok_if (fun q7 => (ok_s g_c)) (fun q8 => (ok_bo (tk_P_X6_firstOf g_c rQ_m r01_1) (fun v9 h10 => (ok_if (fun q11 => (ok_bo (tk_P_X6_firstOf g_c rQ_m r01_1) (fun v13 h14 => (ok_if (fun q15 => (tk_J_X6_goesOn_168 g_c r01_0)) (fun q16 => (tk_J_X6_goesOn_163 g_c)))))) (fun q12 => (tk_J_X6_goesOn_163 g_c)))))))))) (fun q4 => (ok_s g_c))))) (fun q2 => (ok_b2 (tk_P_X6_isHolding g_c (r02_lt k_x5_r02 q2)) (fun v17 h18 => (ok2_if (fun q19 => (tk_J_X6_goesOn_114 g_c k_x1_r01 k_x2_r01 k_x3_r01 (r02_lt k_x5_r02 q2))) (fun q20 => (ok_b2 (t_ofR0q g_c (r02_lt k_x5_r02 q2)) (fun v21 h22 => (ok_b2 (t_ofPhase g_c h22 1 rfl (by decide)) (fun v23 h24 => (ok2_if (fun q25 => (tk_J_X6_goesOn_67 g_c k_x1_r01 r01_1 (by decide) (r02_lt k_x5_r02 q2) h22)) (fun q26 => (ok_b2 (tk_P_X6_isDone g_c (r02_lt k_x5_r02 q2)) (fun v27 h28 => (ok2_if (fun q29 => (tk_J_X6_goesOn_67 g_c k_x1_r01 r01_1 (by decide) (r02_lt k_x5_r02 q2) h22)) (fun q30 => (tk_J_X6_goesOn_68 g_c k_x1_r01 r01_1 (by decide) (r02_lt k_x5_r02 q2) h22 r01_1)))))))))))))))))
theorem tk_P_X6_goesOn {c0 : mC} {c : mC} (g_c : G c0 c) : ok (G c0) (P_X6_goesOn c) :=
  (ok_wh _ tm_X6_goesOn_12 (tb_X6_goesOn_12 ) ⟨r01_0, r01_0, r01_1, r02_0, r08_0, g_c, trivial⟩)
theorem tk_J_X6_becomes_67 {c0 : mC} {c : mC} (g_c : G c0 c) {x1 : Int32} (h_x1_r01 : r01 x1) : ok2 (fun s : Int32 × mC => r02 (s.1) ∧ r08 (s.1) ∧ G c0 s.2 ∧ True) (G c0) (J_X6_becomes_67 c x1) :=
  (ok2_l ⟨(r01_up h_x1_r01), (rP_up (r01_P h_x1_r01)), g_c, trivial⟩)
theorem tk_J_X6_becomes_61 {c0 : mC} {c : mC} (g_c : G c0 c) {x1 : Int32} (h_x1_r01 : r01 x1) {x2 : Int32} (h_x2_rP : rP x2) : ok2 (fun s : Int32 × mC => r02 (s.1) ∧ r08 (s.1) ∧ G c0 s.2 ∧ True) (G c0) (J_X6_becomes_61 c x1 x2) :=
  (ok_b2 (tk_P_X6_becomesGreen g_c h_x1_r01 h_x2_rP) (fun v1 h2 => (tk_J_X6_becomes_67 h2 h_x1_r01)))
theorem tb_X6_becomes_2 {c0 : mC}  : ∀ s : Int32 × mC, (fun s : Int32 × mC => r02 (s.1) ∧ r08 (s.1) ∧ G c0 s.2 ∧ True) s → ok2 (fun s : Int32 × mC => r02 (s.1) ∧ r08 (s.1) ∧ G c0 s.2 ∧ True) (G c0) (B_X6_becomes_2  s) := by
  rintro ⟨x1, c⟩ ⟨k_x1_r02, k_x1_r08, g_c, _⟩
  show ok2 (fun s : Int32 × mC => r02 (s.1) ∧ r08 (s.1) ∧ G c0 s.2 ∧ True) (G c0) (if 2 ≤ x1 then (.inr (some c)) else (mBo (α := Int32) (.inr none) (P_X6_ofRing c x1 3) (fun v1 => (mBo (α := Int32) (.inr none) (P_X6_ofRing c x1 1) (fun v2 => (if v2 = 3 then (if v1 = (-1) then (J_X6_becomes_67 c x1) else (mBo (α := Int32) (.inr none) (P_X6_isHolding c ((1 : Int32) - x1)) (fun v3 => (if v3 = 0 then (J_X6_becomes_61 c x1 v1) else (mBo (α := Int32) (.inr none) (P_X6_ofRing c ((1 : Int32) - x1) 0) (fun v4 => (mBo (α := Int32) (.inr none) (P_X6_areFoes c v1 v4) (fun v5 => (if v5 = 0 then (J_X6_becomes_61 c x1 v1) else (J_X6_becomes_67 c x1)))))))))) else (J_X6_becomes_67 c x1)))))))
  exact (ok2_if (fun q1 => (ok2_r (ok_s g_c))) (fun q2 => (ok_b2 (t_ofR3 g_c (r02_lt k_x1_r02 q2)) (fun v3 h4 => (ok_b2 (t_ofRing g_c (r02_lt k_x1_r02 q2) 1 rfl (by decide)) (fun v5 h6 => (ok2_if (fun q7 => (ok2_if (fun q9 => (tk_J_X6_becomes_67 g_c (r02_lt k_x1_r02 q2))) (fun q10 => (ok_b2 (tk_P_X6_isHolding g_c (r01_x (r02_lt k_x1_r02 q2))) (fun v11 h12 => (ok2_if (fun q13 => (tk_J_X6_becomes_61 g_c (r02_lt k_x1_r02 q2) (rQ_ne h4 q10))) (fun q14 => (ok_b2 (t_ofR0q g_c (r01_x (r02_lt k_x1_r02 q2))) (fun v15 h16 => (ok_b2 (tk_P_X6_areFoes g_c h4 h16) (fun v17 h18 => (ok2_if (fun q19 => (tk_J_X6_becomes_61 g_c (r02_lt k_x1_r02 q2) (rQ_ne h4 q10))) (fun q20 => (tk_J_X6_becomes_67 g_c (r02_lt k_x1_r02 q2))))))))))))))) (fun q8 => (tk_J_X6_becomes_67 g_c (r02_lt k_x1_r02 q2))))))))))
theorem tk_P_X6_becomes {c0 : mC} {c : mC} (g_c : G c0 c) : ok (G c0) (P_X6_becomes c) :=
  (ok_wh _ tm_X6_becomes_2 (tb_X6_becomes_2 ) ⟨r02_0, r08_0, g_c, trivial⟩)
theorem tk_J_X6_shown_45 {c0 : mC} {c : mC} (g_c : G c0 c) {x2 : Int32} (h_x2_r01 : r01 x2) {s0 : Int32} {s1 : Int32} : ok2 (fun s : Int32 × Int32 => r02 (s.2) ∧ r08 (s.2) ∧ True) (fun _ => True) (J_X6_shown_45 c x2 s0 s1) :=
  (ok2_l ⟨(r01_up h_x2_r01), (rP_up (r01_P h_x2_r01)), trivial⟩)
theorem tk_J_X6_shown_44 {c0 : mC} {c : mC} (g_c : G c0 c) {x2 : Int32} (h_x2_r01 : r01 x2) {s0 : Int32} : ok2 (fun s : Int32 × Int32 => r02 (s.2) ∧ r08 (s.2) ∧ True) (fun _ => True) (J_X6_shown_44 c x2 s0) :=
  (tk_J_X6_shown_45 g_c h_x2_r01)
theorem tb_X6_shown_9 {c0 : mC} {c : mC} (g_c : G c0 c) : ∀ s : Int32 × Int32, (fun s : Int32 × Int32 => r02 (s.2) ∧ r08 (s.2) ∧ True) s → ok2 (fun s : Int32 × Int32 => r02 (s.2) ∧ r08 (s.2) ∧ True) (fun _ => True) (B_X6_shown_9 c s) := by
  rintro ⟨x1, x2⟩ ⟨k_x2_r02, k_x2_r08, _⟩
  show ok2 (fun s : Int32 × Int32 => r02 (s.2) ∧ r08 (s.2) ∧ True) (fun _ => True) (if 2 ≤ x2 then (.inr (some x1)) else (mBo (α := Int32) (.inr none) (P_X6_isHolding c x2) (fun v1 => (if v1 = 0 then (J_X6_shown_44 c x2 x1) else (mBo (α := Int32) (.inr none) (P_X6_ofRing c x2 1) (fun v2 => (if 2 ≤ v2 then (J_X6_shown_44 c x2 x1) else (mBo (α := Int32) (.inr none) (P_X6_ofRing c x2 0) (fun v3 => (J_X6_shown_45 c x2 x1 ((1 : Int32) <<< (v3 &&& 31))))))))))))
  exact (ok2_if (fun q1 => (ok2_r (ok_s trivial))) (fun q2 => (ok_b2 (tk_P_X6_isHolding g_c (r02_lt k_x2_r02 q2)) (fun v3 h4 => (ok2_if (fun q5 => (tk_J_X6_shown_44 g_c (r02_lt k_x2_r02 q2))) (fun q6 => (ok_b2 (t_ofRing g_c (r02_lt k_x2_r02 q2) 1 rfl (by decide)) (fun v7 h8 => (ok2_if (fun q9 => (tk_J_X6_shown_44 g_c (r02_lt k_x2_r02 q2))) (fun q10 => (ok_b2 (t_ofR0q g_c (r02_lt k_x2_r02 q2)) (fun v11 h12 => (tk_J_X6_shown_45 g_c (r02_lt k_x2_r02 q2))))))))))))))
theorem tk_P_X6_shown {c0 : mC} {c : mC} (g_c : G c0 c) : ok (fun _ => True) (P_X6_shown c) :=
  (ok_bo (t_of g_c 6 rfl (by decide)) (fun v1 h2 => (ok_wh _ tm_X6_shown_9 (tb_X6_shown_9 g_c) ⟨r02_0, r08_0, trivial⟩)))
theorem tk_P_X6_noBreak {c0 : mC} {c : mC} (g_c : G c0 c) : ok (G c0) (P_X6_noBreak c) :=
  (ok_bo (t_puts7 g_c rB_m) (fun v1 h2 => (ok_bo (t_puts h2 8 rfl rfl (by decide)) (fun v3 h4 => (ok_bo (t_puts h4 9 rfl rfl (by decide)) (fun v5 h6 => (ok_s h6)))))))
theorem tb_X6_watches_57 {c0 : mC} {x2 : Int32} : ∀ s : Int32 × mC, (fun s : Int32 × mC => r02 (s.1) ∧ r08 (s.1) ∧ G c0 s.2 ∧ True) s → ok2 (fun s : Int32 × mC => r02 (s.1) ∧ r08 (s.1) ∧ G c0 s.2 ∧ True) (G c0) (B_X6_watches_57 x2 s) := by
  rintro ⟨x3, c⟩ ⟨k_x3_r02, k_x3_r08, g_c, _⟩
  show ok2 (fun s : Int32 × mC => r02 (s.1) ∧ r08 (s.1) ∧ G c0 s.2 ∧ True) (G c0) (if 2 ≤ x3 then (.inr (mBo (α := mC) none (P_X6_noBreak c) (fun c1 => (mBo (α := mC) none (P_X6_happens c1 4 x2) (fun c2 => (some c2)))))) else (mBo (α := mC) (.inr none) (P_X6_clearsRing c x3) (fun c3 => (.inl ((x3 + 1), c3)))))
  exact (ok2_if (fun q1 => (ok2_r (ok_bo (tk_P_X6_noBreak g_c) (fun v3 h4 => (ok_bo (t_happens h4) (fun v5 h6 => (ok_s h6))))))) (fun q2 => (ok_b2 (t_clears g_c (r02_lt k_x3_r02 q2)) (fun v7 h8 => (ok2_l ⟨(r01_up (r02_lt k_x3_r02 q2)), (rP_up (r01_P (r02_lt k_x3_r02 q2))), h8, trivial⟩)))))
theorem tb_X6_queues_4 {c0 : mC} {c : mC} (g_c : G c0 c) : ∀ s : Int32 × Int32, (fun s : Int32 × Int32 => r08 (s.2) ∧ True) s → ok2 (fun s : Int32 × Int32 => r08 (s.2) ∧ True) (fun _ => True) (B_X6_queues_4 c s) := by
  rintro ⟨x1, x2⟩ ⟨k_x2_r08, _⟩
  show ok2 (fun s : Int32 × Int32 => r08 (s.2) ∧ True) (fun _ => True) (mBo (α := Int32) (.inr none) (P_X6_of c 0) (fun v1 => (if v1 ≤ x2 then (.inr (some x1)) else (mBo (α := Int32) (.inr none) (P_X6_ofPhase c x2 12) (fun v2 => (.inl ((x1 + v2), (x2 + 1))))))))
  exact (ok_b2 (t_of0 g_c) (fun v1 h2 => (ok2_if (fun q3 => (ok2_r (ok_s trivial))) (fun q4 => (ok_b2 (t_ofPhase g_c (rP_Q (rP_lt k_x2_r08 h2 q4)) 12 rfl (by decide)) (fun v5 h6 => (ok2_l ⟨(rP_up (rP_lt k_x2_r08 h2 q4)), trivial⟩)))))))
theorem tk_P_X6_queues {c0 : mC} {c : mC} (g_c : G c0 c) : ok (fun _ => True) (P_X6_queues c) :=
  (ok_wh _ tm_X6_queues_4 (tb_X6_queues_4 g_c) ⟨r08_0, trivial⟩)
theorem tk_P_X6_breakEnds {c0 : mC} {c : mC} (g_c : G c0 c) : ok (G c0) (P_X6_breakEnds c) :=
  (ok_bo (t_of7 g_c) (fun v1 h2 => (ok_bo (t_happens g_c) (fun v3 h4 => (ok_bo (tk_P_X6_noBreak h4) (fun v5 h6 => (ok_s h6)))))))
theorem tk_P_X6_isStage {c0 : mC} {c : mC} (g_c : G c0 c) {x1 : Int32} : ok (G c0) (P_X6_isStage c x1) :=
  (ok_bo (t_puts g_c 8 rfl rfl (by decide)) (fun v1 h2 => (ok_bo (t_puts h2 9 rfl rfl (by decide)) (fun v3 h4 => (ok_s h4)))))
theorem tk_J_X6_breakBegins_22 {c0 : mC} {c : mC} (g_c : G c0 c) {x1 : Int32} (h_x1_r01 : r01 x1) {s1 : Int32} (h_s1_nz : ¬ s1 = 0) : ok (G c0) (J_X6_breakBegins_22 c x1 s1) :=
  (ok_bo (tk_P_X6_isStage g_c) (fun v1 h2 => (ok_bo (t_happens h2) (fun v3 h4 => (ok_s h4)))))
theorem tk_P_X6_breakBegins {c0 : mC} {c : mC} (g_c : G c0 c) {x1 : Int32} (h_x1_r01 : r01 x1) : ok (G c0) (P_X6_breakBegins c x1) :=
  (ok_bo (t_puts7 g_c (r01_B h_x1_r01)) (fun v1 h2 => (ok_bo (t_ofBreak h2 (r01_B h_x1_r01) 0 rfl (by decide)) (fun v3 h4 => (ok_if (fun q5 => (tk_J_X6_breakBegins_22 h2 h_x1_r01 (by decide))) (fun q6 => (tk_J_X6_breakBegins_22 h2 h_x1_r01 (by decide))))))))
theorem tk_J_X6_goal_57 {c0 : mC} {c : mC} (g_c : G c0 c) {x1 : Int32} (h_x1_r01 : r01 x1) {x2 : Int32} {x3 : Int32} (h_x3_rP : rP x3) : ok2 (fun s : Int32 => r08 s ∧ True) (fun v => rQ v) (J_X6_goal_57 c x1 x2 x3) :=
  (ok2_l ⟨(rP_up h_x3_rP), trivial⟩)
theorem tb_X6_goal_28 {c0 : mC} {c : mC} (g_c : G c0 c) {x1 : Int32} (h_x1_r01 : r01 x1) {x2 : Int32} : ∀ s : Int32, (fun s : Int32 => r08 s ∧ True) s → ok2 (fun s : Int32 => r08 s ∧ True) (fun v => rQ v) (B_X6_goal_28 c x1 x2 s) := by
  rintro x3 ⟨k_x3_r08, _⟩
  show ok2 (fun s : Int32 => r08 s ∧ True) (fun v => rQ v) (mBo (α := Int32) (.inr none) (P_X6_of c 0) (fun v1 => (if v1 ≤ x3 then (.inr (some (-1))) else (mBd (α := Int32) (P_X6_has x2 x3) (fun v2 => (if v2 = 0 then (J_X6_goal_57 c x1 x2 x3) else (mBo (α := Int32) (.inr none) (P_X6_ofPhase c x3 0) (fun v3 => (if v3 = x1 then (.inr (some x3)) else (J_X6_goal_57 c x1 x2 x3))))))))))
  exact (ok_b2 (t_of0 g_c) (fun v1 h2 => (ok2_if (fun q3 => (ok2_r (ok_s rQ_m))) (fun q4 => (ok2_bd (fun v5 e6 => (ok2_if (fun q7 => (tk_J_X6_goal_57 g_c h_x1_r01 (rP_lt k_x3_r08 h2 q4))) (fun q8 => (ok_b2 (t_ofP0 g_c (rP_lt k_x3_r08 h2 q4)) (fun v9 h10 => (ok2_if (fun q11 => (ok2_r (ok_s (rP_Q (rP_lt k_x3_r08 h2 q4))))) (fun q12 => (tk_J_X6_goal_57 g_c h_x1_r01 (rP_lt k_x3_r08 h2 q4))))))))))))))
theorem tk_P_X6_goal {c0 : mC} {c : mC} (g_c : G c0 c) {x1 : Int32} (h_x1_r01 : r01 x1) : ok (fun v => rQ v) (P_X6_goal c x1) :=
  (ok_bo (t_of7 g_c) (fun v1 h2 => (ok_bo (t_of g_c 8 rfl (by decide)) (fun v3 h4 => (ok_if (fun q5 => (ok_bo (t_ofBreak g_c h2 2 rfl (by decide)) (fun v7 h8 => (ok_wh _ tm_X6_goal_28 (tb_X6_goal_28 g_c h_x1_r01) ⟨r08_0, trivial⟩)))) (fun q6 => (ok_bo (t_ofBreak g_c h2 0 rfl (by decide)) (fun v9 h10 => (ok_wh _ tm_X6_goal_28 (tb_X6_goal_28 g_c h_x1_r01) ⟨r08_0, trivial⟩)))))))))
theorem tk_J_X6_goesTo_92 {c0 : mC} {c : mC} (g_c : G c0 c) {x1 : Int32} (h_x1_r01 : r01 x1) {x2 : Int32} (h_x2_rQ : rQ x2) : ok (G c0) (J_X6_goesTo_92 c x1 x2) :=
  (ok_bo (tk_P_X6_leaves g_c h_x1_r01 h_x2_rQ) (fun v1 h2 => (ok_s h2)))
theorem tk_J_X6_goesTo_61 {c0 : mC} {c : mC} (g_c : G c0 c) {x1 : Int32} (h_x1_r01 : r01 x1) {x2 : Int32} (h_x2_rQ : rQ x2) : ok (G c0) (J_X6_goesTo_61 c x1 x2) :=
  (ok_bo (t_ofRing g_c h_x1_r01 6 rfl (by decide)) (fun v1 h2 => (ok_if (fun q3 => (tk_J_X6_goesTo_92 g_c h_x1_r01 h_x2_rQ)) (fun q4 => (ok_bo (t_ofRing g_c h_x1_r01 7 rfl (by decide)) (fun v5 h6 => (ok_bo (t_of7 g_c) (fun v7 h8 => (ok_bo (t_ofBreak g_c h8 4 rfl (by decide)) (fun v9 h10 => (ok_if (fun q11 => (ok_s g_c)) (fun q12 => (tk_J_X6_goesTo_92 g_c h_x1_r01 h_x2_rQ)))))))))))))
theorem tk_P_X6_goesTo {c0 : mC} {c : mC} (g_c : G c0 c) {x1 : Int32} (h_x1_r01 : r01 x1) : ok (G c0) (P_X6_goesTo c x1) :=
  (ok_bo (tk_P_X6_goal g_c h_x1_r01) (fun v1 h2 => (ok_bo (tk_P_X6_isGreen g_c h_x1_r01) (fun v3 h4 => (ok_if (fun q5 => (ok_bo (t_putsR g_c h_x1_r01 3 rfl (by decide) (fun _ => h2)) (fun v7 h8 => (ok_s h8)))) (fun q6 => (ok_bo (t_ofR0q g_c h_x1_r01) (fun v9 h10 => (ok_if (fun q11 => (ok_s g_c)) (fun q12 => (ok_bo (t_ofRing g_c h_x1_r01 6 rfl (by decide)) (fun v13 h14 => (ok_if (fun q15 => (ok_bo (t_putsR g_c h_x1_r01 6 rfl (by decide) (by omega)) (fun v17 h18 => (ok_bo (t_putsR h18 h_x1_r01 7 rfl (by decide) (by omega)) (fun v19 h20 => (tk_J_X6_goesTo_61 h20 h_x1_r01 h2)))))) (fun q16 => (tk_J_X6_goesTo_61 g_c h_x1_r01 h2)))))))))))))))
theorem tk_J_X6_breaks_293 {c0 : mC} {c : mC} (g_c : G c0 c) {x1 : Int32} {x2 : Int32} (h_x2_r01 : r01 x2) : ok2 (fun s : Int32 × mC => r02 (s.1) ∧ r08 (s.1) ∧ G c0 s.2 ∧ True) (G c0) (J_X6_breaks_293 c x1 x2) :=
  (ok2_l ⟨(r01_up h_x2_r01), (rP_up (r01_P h_x2_r01)), g_c, trivial⟩)
theorem tb_X6_breaks_264 {c0 : mC} {x1 : Int32} : ∀ s : Int32 × mC, (fun s : Int32 × mC => r02 (s.1) ∧ r08 (s.1) ∧ G c0 s.2 ∧ True) s → ok2 (fun s : Int32 × mC => r02 (s.1) ∧ r08 (s.1) ∧ G c0 s.2 ∧ True) (G c0) (B_X6_breaks_264 x1 s) := by
  rintro ⟨x2, c⟩ ⟨k_x2_r02, k_x2_r08, g_c, _⟩
  show ok2 (fun s : Int32 × mC => r02 (s.1) ∧ r08 (s.1) ∧ G c0 s.2 ∧ True) (G c0) (if 2 ≤ x2 then (.inr (some c)) else (mBo (α := Int32) (.inr none) (P_X6_ofRing c x2 0) (fun v1 => (if v1 = (-1) then (mBo (α := Int32) (.inr none) (P_X6_firstOf c x2 x1 (-1) 0) (fun v2 => (mBo (α := mC) (.inr none) (P_X6_putsRing c x2 3 v2) (fun c3 => (J_X6_breaks_293 c3 x1 x2))))) else (J_X6_breaks_293 c x1 x2)))))
  exact (ok2_if (fun q1 => (ok2_r (ok_s g_c))) (fun q2 => (ok_b2 (t_ofR0q g_c (r02_lt k_x2_r02 q2)) (fun v3 h4 => (ok2_if (fun q5 => (ok_b2 (tk_P_X6_firstOf g_c rQ_m r01_0) (fun v7 h8 => (ok_b2 (t_putsR g_c (r02_lt k_x2_r02 q2) 3 rfl (by decide) (fun _ => h8)) (fun v9 h10 => (tk_J_X6_breaks_293 h10 (r02_lt k_x2_r02 q2))))))) (fun q6 => (tk_J_X6_breaks_293 g_c (r02_lt k_x2_r02 q2))))))))
theorem tk_J_X6_breaks_253 {c0 : mC} {c : mC} (g_c : G c0 c) {s2 : Int32} (h_s2_r01 : r01 s2) : ok (G c0) (J_X6_breaks_253 c s2) :=
  (ok_bo (t_ofR0q g_c h_s2_r01) (fun v1 h2 => (ok_bo (t_ofPhase g_c h2 1 rfl (by decide)) (fun v3 h4 => (ok_wh _ tm_X6_breaks_264 (tb_X6_breaks_264 ) ⟨r02_0, r08_0, g_c, trivial⟩)))))
theorem tk_J_X6_breaks_238 {c0 : mC} {c : mC} (g_c : G c0 c) : ok (G c0) (J_X6_breaks_238 c) :=
  (ok_bo (tk_P_X6_isGreen g_c r01_0) (fun v1 h2 => (ok_if (fun q3 => (tk_J_X6_breaks_253 g_c r01_1)) (fun q4 => (tk_J_X6_breaks_253 g_c r01_0)))))
theorem tk_J_X6_breaks_110 {c0 : mC} {c : mC} (g_c : G c0 c) {s1 : Int32} (h_s1_r01 : r01 s1) : ok (G c0) (J_X6_breaks_110 c s1) :=
  (ok_if (fun q1 => (ok_if (fun q3 => (ok_bo (t_adds (G.m g_c (Or.inr (Or.inr rfl))) 9 rfl rfl (by decide)) (fun v5 h6 => (ok_bo (t_of h6 8 rfl (by decide)) (fun v7 h8 => (ok_if (fun q9 => (ok_bo (t_of h6 9 rfl (by decide)) (fun v11 h12 => (ok_bo (t_of7 h6) (fun v13 h14 => (ok_bo (t_ofBreak h6 h14 1 rfl (by decide)) (fun v15 h16 => (ok_if (fun q17 => (ok_s h6)) (fun q18 => (ok_bo (tk_P_X6_isStage h6) (fun v19 h20 => (ok_s h20)))))))))))) (fun q10 => (ok_bo (t_of h6 9 rfl (by decide)) (fun v21 h22 => (ok_bo (t_of7 h6) (fun v23 h24 => (ok_bo (t_ofBreak h6 h24 3 rfl (by decide)) (fun v25 h26 => (ok_if (fun q27 => (ok_s h6)) (fun q28 => (ok_bo (t_of h6 10 rfl (by decide)) (fun v29 h30 => (ok_bo (t_of7 h6) (fun v31 h32 => (ok_bd (fun v33 e34 => (ok_if (fun q35 => (ok_bo (tk_P_X6_breakEnds h6) (fun v37 h38 => (ok_bo (tk_P_X6_isGreen h38 r01_0) (fun v39 h40 => (ok_if (fun q41 => (ok_bo (tk_P_X6_isGreen h38 r01_1) (fun v43 h44 => (ok_if (fun q45 => (ok_bo (tk_P_X6_starts h38) (fun v47 h48 => (ok_s h48)))) (fun q46 => (tk_J_X6_breaks_238 h38)))))) (fun q42 => (tk_J_X6_breaks_238 h38)))))))) (fun q36 => (ok_s h6)))))))))))))))))))))))) (fun q4 => (ok_bo (tk_P_X6_goesTo (G.m g_c (Or.inr (Or.inr rfl))) r01_0) (fun v49 h50 => (ok_bo (tk_P_X6_goesTo h50 r01_1) (fun v51 h52 => (ok_s h52)))))))) (fun q2 => absurd (r01_and h_s1_r01) q2))
theorem tk_J_X6_breaks_105 {c0 : mC} {c : mC} (g_c : G c0 c) : ok (G c0) (J_X6_breaks_105 c) :=
  (tk_J_X6_breaks_110 g_c r01_1)
theorem tk_J_X6_breaks_73 {c0 : mC} {c : mC} (g_c : G c0 c) : ok (G c0) (J_X6_breaks_73 c) :=
  (ok_bo (t_of7 g_c) (fun v1 h2 => (ok_if (fun q3 => (ok_s g_c)) (fun q4 => (ok_bo (t_of g_c 8 rfl (by decide)) (fun v5 h6 => (ok_if (fun q7 => (tk_J_X6_breaks_105 g_c)) (fun q8 => (ok_bo (t_of g_c 8 rfl (by decide)) (fun v9 h10 => (ok_if (fun q11 => (tk_J_X6_breaks_105 g_c)) (fun q12 => (tk_J_X6_breaks_110 g_c r01_0)))))))))))))
theorem tk_J_X6_breaks_70 {c0 : mC} {c : mC} (g_c : G c0 c) {s1 : Int32} (h_s1_r01 : r01 s1) : ok (G c0) (J_X6_breaks_70 c s1) :=
  (ok_bo (tk_P_X6_breakBegins g_c h_s1_r01) (fun v1 h2 => (tk_J_X6_breaks_73 h2)))
theorem tk_J_X6_breaks_32 {c0 : mC} {c : mC} (g_c : G c0 c) : ok (G c0) (J_X6_breaks_32 c) :=
  (ok_bo (t_of7 g_c) (fun v1 h2 => (ok_if (fun q3 => (ok_bo (t_of g_c 10 rfl (by decide)) (fun v5 h6 => (ok_if (fun q7 => (tk_J_X6_breaks_73 g_c)) (fun q8 => (ok_bo (t_of g_c 10 rfl (by decide)) (fun v9 h10 => (ok_bd (fun v11 e12 => (ok_if (fun q13 => (tk_J_X6_breaks_70 g_c r01_1)) (fun q14 => (tk_J_X6_breaks_70 g_c r01_0)))))))))))) (fun q4 => (tk_J_X6_breaks_73 g_c)))))
theorem tk_P_X6_breaks {c0 : mC} {c : mC} (g_c : G c0 c) : ok (G c0) (P_X6_breaks c) :=
  (ok_bo (t_of7 (G.m g_c (Or.inr (Or.inr rfl)))) (fun v1 h2 => (ok_if (fun q3 => (ok_bo (t_of (G.m g_c (Or.inr (Or.inr rfl))) 10 rfl (by decide)) (fun v5 h6 => (ok_bd (fun v7 e8 => (ok_if (fun q9 => (tk_J_X6_breaks_32 (G.m g_c (Or.inr (Or.inr rfl))))) (fun q10 => (ok_bo (tk_P_X6_breakEnds (G.m g_c (Or.inr (Or.inr rfl)))) (fun v11 h12 => (tk_J_X6_breaks_32 h12)))))))))) (fun q4 => (tk_J_X6_breaks_32 (G.m g_c (Or.inr (Or.inr rfl))))))))
theorem tk_J_X6_staged_68 {c0 : mC} {c : mC} (g_c : G c0 c) {x1 : Int32} (h_x1_r01 : r01 x1) : ok2 (fun s : Int32 => r02 s ∧ r08 s ∧ True) (G c0) (J_X6_staged_68 c x1) :=
  (ok2_l ⟨(r01_up h_x1_r01), (rP_up (r01_P h_x1_r01)), trivial⟩)
theorem tb_X6_staged_20 {c0 : mC} {c : mC} (g_c : G c0 c) : ∀ s : Int32, (fun s : Int32 => r02 s ∧ r08 s ∧ True) s → ok2 (fun s : Int32 => r02 s ∧ r08 s ∧ True) (G c0) (B_X6_staged_20 c s) := by
  rintro x1 ⟨k_x1_r02, k_x1_r08, _⟩
  show ok2 (fun s : Int32 => r02 s ∧ r08 s ∧ True) (G c0) (if 2 ≤ x1 then (.inr (mBo (α := Int32) none (P_X6_of c 8) (fun v1 => (mBo (α := mC) none (P_X6_isStage c (v1 + 1)) (fun c2 => (some c2)))))) else (mBo (α := Int32) (.inr none) (P_X6_goal c x1) (fun v3 => (if v3 = (-1) then (mBo (α := Int32) (.inr none) (P_X6_ofRing c x1 0) (fun v4 => (if v4 = (-1) then (J_X6_staged_68 c x1) else (.inr (some c))))) else (mBo (α := Int32) (.inr none) (P_X6_isGreen c x1) (fun v6 => (if v6 = 0 then (.inr (some c)) else (mBo (α := Int32) (.inr none) (P_X6_ofRing c x1 0) (fun v7 => (if v7 = v3 then (J_X6_staged_68 c x1) else (.inr (some c))))))))))))
  exact (ok2_if (fun q1 => (ok2_r (ok_bo (t_of g_c 8 rfl (by decide)) (fun v3 h4 => (ok_bo (tk_P_X6_isStage g_c) (fun v5 h6 => (ok_s h6))))))) (fun q2 => (ok_b2 (tk_P_X6_goal g_c (r02_lt k_x1_r02 q2)) (fun v7 h8 => (ok2_if (fun q9 => (ok_b2 (t_ofR0q g_c (r02_lt k_x1_r02 q2)) (fun v11 h12 => (ok2_if (fun q13 => (tk_J_X6_staged_68 g_c (r02_lt k_x1_r02 q2))) (fun q14 => (ok2_r (ok_s g_c))))))) (fun q10 => (ok_b2 (tk_P_X6_isGreen g_c (r02_lt k_x1_r02 q2)) (fun v15 h16 => (ok2_if (fun q17 => (ok2_r (ok_s g_c))) (fun q18 => (ok_b2 (t_ofR0q g_c (r02_lt k_x1_r02 q2)) (fun v19 h20 => (ok2_if (fun q21 => (tk_J_X6_staged_68 g_c (r02_lt k_x1_r02 q2))) (fun q22 => (ok2_r (ok_s g_c))))))))))))))))
theorem tk_P_X6_staged {c0 : mC} {c : mC} (g_c : G c0 c) : ok (G c0) (P_X6_staged c) :=
  (ok_if (fun q1 => (ok_s g_c)) (fun q2 => (ok_bo (t_of7 g_c) (fun v3 h4 => (ok_if (fun q5 => (ok_s g_c)) (fun q6 => (ok_wh _ tm_X6_staged_20 (tb_X6_staged_20 g_c) ⟨r02_0, r08_0, trivial⟩)))))))
theorem tb_X6_ticks_78 {c0 : mC}  : ∀ s : Int32 × mC, (fun s : Int32 × mC => r08 (s.1) ∧ G c0 s.2 ∧ True) s → ok2 (fun s : Int32 × mC => r08 (s.1) ∧ G c0 s.2 ∧ True) (G c0) (B_X6_ticks_78  s) := by
  rintro ⟨x2, c⟩ ⟨k_x2_r08, g_c, _⟩
  show ok2 (fun s : Int32 × mC => r08 (s.1) ∧ G c0 s.2 ∧ True) (G c0) (mBo (α := Int32) (.inr none) (P_X6_of c 0) (fun v1 => (if v1 ≤ x2 then (.inr (some c)) else (mBo (α := mC) (.inr none) (P_X6_putsPhase c x2 16 0) (fun c2 => (.inl ((x2 + 1), c2)))))))
  exact (ok_b2 (t_of0 g_c) (fun v1 h2 => (ok2_if (fun q3 => (ok2_r (ok_s g_c))) (fun q4 => (ok_b2 (t_putsP g_c (rP_lt k_x2_r08 h2 q4) 16 rfl (by decide) (by decide)) (fun v5 h6 => (ok2_l ⟨(rP_up (rP_lt k_x2_r08 h2 q4)), h6, trivial⟩)))))))
theorem wk_step {c0 c : mC} (g : G c0 c) {x1 : Int32} : ∀ (n : Nat) (p : Int32), mWn (B_X6_isPeace_2 c x1) n p = some (some 0) → r08 p → ∃ m r, mWn (B_X6_watches_25 c x1) m p = some r ∧ ok (G c0) r := by
  intro n
  induction n with
  | zero => intro p h _; cases h
  | succ n ih =>
    intro p h hr
    obtain ⟨N, eN, hN⟩ := t_of0 g
    rw [mWn_s] at h
    by_cases q1 : N ≤ p
    · have e0 : B_X6_isPeace_2 c x1 p = .inr (some 1) := by
        unfold B_X6_isPeace_2 mBd
        dsimp only
        rw [eN]
        simp only [mBo]
        rw [if_pos q1]
      rw [e0] at h
      exact absurd (Option.some.inj (Option.some.inj h)) (by decide)
    · have hp := rP_lt hr hN q1
      by_cases q2 : P_X6_has x1 p = 0
      · have e0 : B_X6_isPeace_2 c x1 p = .inl (p + 1) := by
          unfold B_X6_isPeace_2 J_X6_isPeace_31 mBd
          dsimp only
          rw [eN]
          simp only [mBo]
          rw [if_neg q1, if_pos q2]
        rw [e0] at h
        obtain ⟨m, r, hm, ho⟩ := ih (p + 1) h (rP_up hp)
        refine ⟨m + 1, r, ?_, ho⟩
        have e : B_X6_watches_25 c x1 p = .inl (p + 1) := by
          unfold B_X6_watches_25 J_X6_watches_43 mBd
          dsimp only
          rw [if_pos q2]
        rw [mWn_s, e]; exact hm
      · obtain ⟨v3, e3, _⟩ := tk_P_X6_foesOf g hp
        by_cases q3 : v3 &&& x1 = 0
        · have e0 : B_X6_isPeace_2 c x1 p = .inl (p + 1) := by
            unfold B_X6_isPeace_2 J_X6_isPeace_31 mBd
            dsimp only
            rw [eN]
            simp only [mBo]
            rw [if_neg q1, if_neg q2, e3]
            simp only [mBo]
            rw [if_pos q3]
          rw [e0] at h
          obtain ⟨m, r, hm, ho⟩ := ih (p + 1) h (rP_up hp)
          refine ⟨m + 1, r, ?_, ho⟩
          have e : B_X6_watches_25 c x1 p = .inl (p + 1) := by
            unfold B_X6_watches_25 J_X6_watches_43 mBd
            dsimp only
            rw [if_neg q2, e3]
            simp only [mBo]
            rw [if_pos q3]
          rw [mWn_s, e]; exact hm
        · have e : B_X6_watches_25 c x1 p = .inr (mBo (α := mC) none (P_X6_puts c 5 1) (fun c3 => (mWh none (B_X6_watches_57 p) (0, c3)))) := by
            unfold B_X6_watches_25 mBd
            dsimp only
            rw [if_neg q2, e3]
            simp only [mBo]
            rw [if_neg q3]
          refine ⟨1, _, by rw [mWn_s, e], ?_⟩
          exact ok_bo (t_puts g 5 rfl rfl (by decide)) (fun c3 h3 => ok_wh _ tm_X6_watches_57 tb_X6_watches_57 ⟨r02_0, r08_0, h3, trivial⟩)
theorem tk_P_X6_watches {c0 c : mC} (g : G c0 c) : ok (G c0) (P_X6_watches c) := by
  refine ok_bo (tk_P_X6_shown g) (fun v1 _ => ok_bo (t_of g 5 rfl (by decide)) (fun v2 _ => ok_if (fun _ => ok_s g) (fun _ => ?_)))
  obtain ⟨v3, e3, _⟩ := tk_P_X6_isPeace g (x1 := v1)
  refine ok_bo (P := fun v => P_X6_isPeace c v1 = some v) ⟨v3, e3, e3⟩ (fun v hv => ok_if (fun q => ?_) (fun _ => ok_s g))
  subst q
  obtain ⟨n, r, hn⟩ := mWn_ends (tm_X6_isPeace_2 (c := c) (x1 := v1)) 0
  have h3 : r = some 0 := (mWh_of (dv := none) hn).symm.trans hv
  rw [h3] at hn
  obtain ⟨m, r, hm, ho⟩ := wk_step g n 0 hn r08_0
  rw [mWh_of hm]
  exact ho

theorem tk_J_X6_ticks_62 {c0 : mC} {c : mC} (g_c : G c0 c) : ok (G c0) (J_X6_ticks_62 c) :=
  (ok_bo (tk_P_X6_watches g_c) (fun v1 h2 => (ok_bo (tk_P_X6_queues h2) (fun v3 h4 => (ok_bo (t_adds h2 11 rfl rfl (by decide)) (fun v5 h6 => (ok_wh _ tm_X6_ticks_78 (tb_X6_ticks_78 ) ⟨r08_0, h6, trivial⟩)))))))
theorem tk_J_X6_ticks_54 {c0 : mC} {c : mC} (g_c : G c0 c) : ok (G c0) (J_X6_ticks_54 c) :=
  (ok_bo (tk_P_X6_becomes g_c) (fun v1 h2 => (ok_bo (tk_P_X6_staged h2) (fun v3 h4 => (tk_J_X6_ticks_62 h4)))))
theorem St.u {c : mC} {k : Nat} {v : Int32} (h : St c) (hk : k = 1 ∨ k = 4) : St (mP c 21 k v) := by
  obtain ⟨s0, ⟨s1, s2, s3, s4⟩, s5, s6, s7⟩ := h
  refine ⟨?_, ⟨?_, ?_, ?_, ?_⟩, ?_, ?_, ?_⟩
  · rw [rd21, if_neg (by omega)]; exact s0
  · rw [rd21, if_neg (by omega)]; exact s1
  · rw [rd21, if_neg (by omega)]; exact s2
  · rw [rd21, if_neg (by omega)]; exact s3
  · rw [rd21, if_neg (by omega)]; exact s4
  · intro p hp
    rw [rd21, if_neg (by omega)]; exact s5 p hp
  · rw [rd21, if_neg (by omega)]; exact s6
  · rw [rd21, if_neg (by omega)]; exact s7
/-- what the clock's row changes: cell 4 alone -/
def Ck (c c2 : mC) : Prop := St c2 ∧ ∀ j k, ¬ (j = 21 ∧ k = 4) → c2 j k = c j k
theorem Ck.rf {c : mC} (h : St c) : Ck c c := ⟨h, fun _ _ _ => rfl⟩
theorem Ck.u {c c2 : mC} {v : Int32} (h : Ck c c2) : Ck c (mP c2 21 4 v) := by
  refine ⟨h.1.u (Or.inr rfl), fun j k hn => ?_⟩
  show (if j = 21 ∧ k = 4 then v else c2 j k) = _
  rw [if_neg hn]
  exact h.2 j k hn
theorem tC_puts {c c3 : mC} (k : Ck c c3) {v : Int32} : ok (Ck c) (P_X6_puts c3 4 v) := by
  rw [show P_X6_puts c3 4 v = some (mP c3 21 4 v) from rfl]
  exact ok_s k.u
theorem t_c74 {c c3 : mC} (k : Ck c c3) {x1 a b : Int32} (nz : ¬ x1 = 0) : ok (Ck c) (J_X6_clockGoes_74 c3 x1 4 a b) :=
  ok_bo (t_left nz) (fun v1 _ => ok_bo (tC_puts k) (fun _ h => ok_s h))
theorem t_due {c : mC} (h : St c) (nz : ¬ c 21 2 = 0) : ok (fun _ => True) (P_X6_due c) :=
  ok_bo (t_of (G.rf h) 1 rfl (by decide)) (fun v1 _ => ok_bo (t_of (G.rf h) 3 rfl (by decide)) (fun v2 _ => ok_bo (t_of (G.rf h) 2 rfl (by decide)) (fun v3 h3 => ok_bo (t_left (fun z => nz (h3.symm.trans z))) (fun v4 _ => ok_s trivial))))
theorem t_clock {c : mC} (h : St c) : ok (Ck c) (P_X6_clockGoes c) :=
  ok_bo (t_of (G.rf h) 2 rfl (by decide)) (fun v1 h1 => ok_if (fun _ => ok_s (Ck.rf h)) (fun n1 => ok_bo (t_of (G.rf h) 4 rfl (by decide)) (fun v2 _ => ok_if (fun z => absurd z n1) (fun _ => ok_bo (tC_puts (Ck.rf h)) (fun c3 k3 => ok_bo (t_due k3.1 (fun z => n1 (h1.trans ((k3.2 21 2 (by decide)).symm.trans z)))) (fun v4 _ => ok_bo (t_of (G.rf k3.1) 4 rfl (by decide)) (fun v5 _ => ok_bo (t_left n1) (fun v6 _ => ok_if (fun _ => ok_s k3) (fun _ => ok_bo (t_of (G.rf k3.1) 1 rfl (by decide)) (fun v7 _ => ok_if (fun _ => ok_bo (t_of (G.rf k3.1) 4 rfl (by decide)) (fun v8 _ => ok_if (fun _ => t_c74 k3 n1) (fun _ => t_c74 k3 n1))) (fun _ => ok_s k3)))))))))))
/-- one tick: TICK 1 more, those who come, the clock, then the rest -/
def Tk14 (c c' : mC) : Prop := ∃ c2, P_X6_clockGoes c = some c2 ∧ Ck c c2 ∧ G c2 c'
def Tk (c c' : mC) : Prop := ∃ c1, G (mP c 21 1 (c 21 1 + 1)) c1 ∧ Tk14 c1 c'
theorem t_ticks14 {c : mC} (h : St c) : ok (Tk14 c) (J_X6_ticks_14 c) := by
  obtain ⟨c1, e1, k1⟩ := t_clock h
  have up : ∀ {o}, ok (G c1) o → ok (Tk14 c) o := fun q => ok_mo q (fun _ z => ⟨c1, e1, k1, z⟩)
  have g := G.rf k1.1
  refine ok_bo (P := fun v => v = c1) ⟨c1, e1, rfl⟩ (fun v hv => ?_)
  subst hv
  exact ok_bo (t_of g 5 rfl (by decide)) (fun v2 _ => ok_if (fun _ => up (ok_bo (tk_P_X6_ringGoes g r01_0) (fun c3 h3 => ok_bo (tk_P_X6_ringGoes h3 r01_1) (fun c4 h4 => ok_bo (tk_P_X6_breaks h4) (fun c5 h5 => ok_bo (t_of7 h5) (fun v6 _ => ok_if (fun _ => ok_bo (tk_P_X6_goesOn h5) (fun c7 h7 => tk_J_X6_ticks_54 h7)) (fun _ => tk_J_X6_ticks_54 h5))))))) (fun _ => up (tk_J_X6_ticks_62 g)))
theorem t_ticks {c : mC} (h : St c) {x1 : Int32} : ok (Tk c) (P_X6_ticks c x1) := by
  have h1 : St (mP c 21 1 (c 21 1 + 1)) := h.u (Or.inl rfl)
  have e1 : P_X6_adds c 1 1 = some (mP c 21 1 (c 21 1 + 1)) := rfl
  refine ok_bo (P := fun m => m = mP c 21 1 (c 21 1 + 1)) ⟨_, e1, rfl⟩ (fun m hm => ?_)
  subst hm
  exact ok_if (fun _ => ok_mo (t_ticks14 h1) (fun _ z => ⟨_, G.rf h1, z⟩)) (fun _ => ok_bo (tk_P_X6_comers (G.rf h1)) (fun c2 h2 => ok_mo (t_ticks14 h2.1) (fun _ z => ⟨_, h2, z⟩)))
/-- cells that a tick leaves -/
def kt (k : Nat) : Bool := kp k && !Nat.beq k 1 && !Nat.beq k 4
theorem Tk.st {c c' : mC} (h : Tk c c') : St c' := by
  obtain ⟨_, _, _, _, _, h⟩ := h
  exact h.1
theorem Tk.tick {c c' : mC} (h : Tk c c') : c' 21 1 = c 21 1 + 1 := by
  obtain ⟨c1, g1, c2, _, k, g2⟩ := h
  rw [g2.2.1 1 rfl, k.2 21 1 (by decide), g1.2.1 1 rfl, rd21, if_pos rfl]
theorem Tk.kept {c c' : mC} (h : Tk c c') {k : Nat} (hk : kp k = true) (h1 : k ≠ 1) (h4 : k ≠ 4) : c' 21 k = c 21 k := by
  obtain ⟨c1, g1, c2, _, q, g2⟩ := h
  rw [g2.2.1 k hk, q.2 21 k (by omega), g1.2.1 k hk, rd21, if_neg h1]
theorem Tk.other {c c' : mC} (h : Tk c c') {j : Nat} (h1 : j ≠ 20) (h2 : j ≠ 21) : c' j = c j := by
  obtain ⟨c1, g1, c2, _, q, g2⟩ := h
  rw [g2.2.2.1 j h1 h2, show c2 j = c1 j from funext (fun k => q.2 j k (by omega)), g1.2.2.1 j h1 h2, mP_other _ _ _ _ _ h2]
theorem Tk.mod {c c' : mC} (h : Tk c c') {k : Nat} (h3 : k ≠ 3) (h4 : k ≠ 4) (h5 : k ≠ 5) : c' 20 k = c 20 k := by
  obtain ⟨c1, g1, c2, _, q, g2⟩ := h
  rw [g2.2.2.2 k h3 h4 h5, q.2 20 k (by omega), g1.2.2.2 k h3 h4 h5, mP_other _ _ _ _ _ (by decide)]

