/-! The reference answers: public rows -/
def Sr (f : Nat → Int32) : Prop := r08 (f 0) ∧ (rQ (f 16) ∧ rQ (f 19) ∧ rQ (f 24) ∧ rQ (f 27)) ∧ (∀ p, p < 8 → r01 (f (32 + 18 * p))) ∧ rL (f 12) ∧ rB (f 7)
theorem Sr.congr {f g : Nat → Int32} (h : Sr f) (e : ∀ k, k < 288 → g k = f k) : Sr g := by
  obtain ⟨s0, ⟨s1, s2, s3, s4⟩, s5, s6, s7⟩ := h
  refine ⟨?_, ⟨?_, ?_, ?_, ?_⟩, ?_, ?_, ?_⟩
  · rw [e 0 (by decide)]; exact s0
  · rw [e 16 (by decide)]; exact s1
  · rw [e 19 (by decide)]; exact s2
  · rw [e 24 (by decide)]; exact s3
  · rw [e 27 (by decide)]; exact s4
  · intro p hp
    rw [e _ (by omega)]; exact s5 p hp
  · rw [e 12 (by decide)]; exact s6
  · rw [e 7 (by decide)]; exact s7
theorem Sr.of {c : mC} (h : St c) : Sr (c 21) := h
theorem Sr.to {c : mC} (h : Sr (c 21)) : St c := h
def Sp (c : mC) : Prop := Sr (fun k => c 21 (288 + k))
/-- what stands through a public call: the ranges, here and on the paper's block; the kept blocks; all but the model's cells -/
def H (c0 c : mC) : Prop := St c ∧ Sp c ∧ (∀ k, 576 ≤ k → c 21 k = c0 21 k) ∧ (∀ j, j ≠ 20 → j ≠ 21 → c j = c0 j) ∧ (∀ k, k ≠ 1 → k ≠ 3 → k ≠ 4 → k ≠ 5 → c 20 k = c0 20 k)
theorem H.rf {c : mC} (h : St c) (hp : Sp c) : H c c := ⟨h, hp, fun _ _ => rfl, fun _ _ _ => rfl, fun _ _ _ _ _ => rfl⟩
theorem kp_288 {k : Nat} (z : 288 ≤ k) : kp k = true := by
  unfold kp
  rw [Nat.ble_eq_true_of_le z, Bool.or_true]
theorem H.g {c0 c c' : mC} (h : H c0 c) (g : G c c') : H c0 c' := by
  obtain ⟨h1, h2, h3, h4, h5⟩ := h
  obtain ⟨g1, g2, g3, g4⟩ := g
  refine ⟨g1, h2.congr (fun k _ => g2 _ (kp_288 (by omega))), fun k hk => (g2 k (kp_288 (by omega))).trans (h3 k hk), fun j a b => (g3 j a b).trans (h4 j a b), fun k a b d e => (g4 k b d e).trans (h5 k a b d e)⟩
theorem H.tr {c0 c c' : mC} (h : H c0 c) (g : H c c') : H c0 c' := by
  obtain ⟨h1, h2, h3, h4, h5⟩ := h
  obtain ⟨g0, g1, g2, g3, g4⟩ := g
  exact ⟨g0, g1, fun k hk => (g2 k hk).trans (h3 k hk), fun j a b => (g3 j a b).trans (h4 j a b), fun k a b d e => (g4 k a b d e).trans (h5 k a b d e)⟩
theorem H.up {c0 c : mC} {o : Option mC} (h : H c0 c) (k : ok (G c) o) : ok (H c0) o := ok_mo k (fun _ z => h.g z)
theorem H.k {c0 c c' : mC} (h : H c0 c) (z : Tk c c') : H c0 c' := by
  obtain ⟨h1, h2, h3, h4, h5⟩ := h
  refine ⟨z.st, h2.congr (fun k _ => z.kept (kp_288 (by omega)) (by omega) (by omega)), fun k hk => (z.kept (kp_288 (by omega)) (by omega) (by omega)).trans (h3 k hk), fun j a b => (z.other a b).trans (h4 j a b), fun k a b d e => (z.mod b d e).trans (h5 k a b d e)⟩
theorem H.m {c0 c : mC} {k : Nat} {v : Int32} (h : H c0 c) (hk : k = 1 ∨ k = 3 ∨ k = 4 ∨ k = 5) : H c0 (mP c 20 k v) := by
  obtain ⟨h1, h2, h3, h4, h5⟩ := h
  refine ⟨h1, h2, h3, fun j a b => ?_, fun k' a b d e => ?_⟩
  · rw [mP_other _ _ _ _ _ a]; exact h4 j a b
  · show (if 20 = 20 ∧ k' = k then v else c 20 k') = _
    rw [if_neg (by omega)]
    exact h5 k' a b d e
theorem H.w {c0 c : mC} {k : Nat} {v : Int32} (h : H c0 c) (hk : k < 288) (h0 : k ≠ 0 ∧ k ≠ 16 ∧ k ≠ 19 ∧ k ≠ 24 ∧ k ≠ 27 ∧ k ≠ 12 ∧ k ≠ 7) (hr : ∀ p, p < 8 → k ≠ 32 + 18 * p) : H c0 (mP c 21 k v) := by
  obtain ⟨h1, h2, h3, h4, h5⟩ := h
  refine ⟨?_, h2.congr (fun k' _ => ?_), fun k' hk' => ?_, fun j a b => ?_, fun k' a b d e => ?_⟩
  · obtain ⟨s0, ⟨s1, s2, s3, s4⟩, s5, s6, s7⟩ := h1
    refine ⟨?_, ⟨?_, ?_, ?_, ?_⟩, ?_, ?_, ?_⟩
    · rw [rd21, if_neg (by omega)]; exact s0
    · rw [rd21, if_neg (by omega)]; exact s1
    · rw [rd21, if_neg (by omega)]; exact s2
    · rw [rd21, if_neg (by omega)]; exact s3
    · rw [rd21, if_neg (by omega)]; exact s4
    · intro p hp
      rw [rd21, if_neg (fun z => hr p hp z.symm)]; exact s5 p hp
    · rw [rd21, if_neg (by omega)]; exact s6
    · rw [rd21, if_neg (by omega)]; exact s7
  · rw [rd21, if_neg (by omega)]
  · rw [rd21, if_neg (by omega)]; exact h3 k' hk'
  · rw [mP_other _ _ _ _ _ b]; exact h4 j a b
  · rw [mP_other _ _ _ _ _ (by decide)]; exact h5 k' a b d e
theorem h_puts {c0 c : mC} (h : H c0 c) {x v : Int32} (k : Nat) (hx : x = nI k) (hk : k < 288) (h0 : k ≠ 0 ∧ k ≠ 16 ∧ k ≠ 19 ∧ k ≠ 24 ∧ k ≠ 27 ∧ k ≠ 12 ∧ k ≠ 7) (hr : ∀ p, p < 8 → k ≠ 32 + 18 * p) : ok (H c0) (P_X6_puts c x v) := by
  rw [hx, puts_n (by omega)]
  exact ok_s (h.w hk h0 hr)
theorem h_putsP {c0 c : mC} (h : H c0 c) {x : Int32} (hx : rP x) {y v : Int32} (hy : ∃ w, 2 ≤ w ∧ w < 18 ∧ y = nI w) : ok (H c0) (P_X6_putsPhase c x y v) := by
  obtain ⟨w, hw2, hw, rfl⟩ := hy
  obtain ⟨p, hp, rfl⟩ := hx
  have e : P_X6_putsPhase c (nI p) (nI w) v = some (mP c 21 (32 + 18 * p + w) v) := by
    unfold P_X6_putsPhase
    rw [phase_n, puts_n (by omega)]; rfl
  rw [e]
  exact ok_s (h.w (by omega) (by omega) (by intro q hq; omega))
theorem t_gives {c0 c : mC} (h : H c0 c) {x : Int32} : ok (fun p : Int32 × mC => H c0 p.2) (P_X6_gives c x) := ok_s (h.m (Or.inl rfl))
theorem t_refuse {c0 c : mC} (h : H c0 c) {x : Int32} : ok (fun p : Int32 × mC => H c0 p.2) (P_X6_refuse c x) := ok_s (h.m (Or.inl rfl))
theorem t_isSo {c0 c : mC} (h : H c0 c) {x : Int32} : ok (fun p : Int32 × mC => H c0 p.2) (P_X6_isSo c x) := ok_if (fun _ => ok_s (h.m (Or.inl rfl))) (fun _ => ok_s (h.m (Or.inl rfl)))
theorem h_ticks {c0 c : mC} (h : H c0 c) {x : Int32} : ok (H c0) (P_X6_ticks c x) := ok_mo (t_ticks h.1) (fun _ z => h.k z)
theorem h_save {c0 c : mC} (h : H c0 c) : ok (H c0) (P_X6_copies c 0 288) := by
  have e : P_X6_copies c (nI 0) (nI 288) = _ := copies_eq c (a := 0) (b := 288) (by decide) (by decide) (by decide)
  rw [show (0 : Int32) = nI 0 from rfl, show (288 : Int32) = nI 288 from rfl, e]
  obtain ⟨h1, h2, h3, h4, h5⟩ := h
  refine ok_s ⟨Sr.to ((Sr.of h1).congr (fun k hk => ?_)), (Sr.of h1).congr (fun k hk => ?_), fun k hk => ?_, fun j a b => ?_, fun k a b d e => ?_⟩
  · show (if 21 = 21 ∧ 288 ≤ k ∧ k < 288 + 288 then _ else c 21 k) = _
    rw [if_neg (by omega)]
  · show (if 21 = 21 ∧ 288 ≤ 288 + k ∧ 288 + k < 288 + 288 then c 21 (0 + (288 + k - 288)) else _) = _
    rw [if_pos (by omega), show 0 + (288 + k - 288) = k from by omega]
  · show (if 21 = 21 ∧ 288 ≤ k ∧ k < 288 + 288 then _ else c 21 k) = _
    rw [if_neg (by omega)]; exact h3 k hk
  · rw [← h4 j a b]; funext k
    show (if j = 21 ∧ 288 ≤ k ∧ k < 288 + 288 then _ else c j k) = _
    rw [if_neg (by omega)]
  · rw [← h5 k a b d e]
    show (if 20 = 21 ∧ 288 ≤ k ∧ k < 288 + 288 then _ else c 20 k) = _
    rw [if_neg (by omega)]
theorem h_load {c0 c : mC} (h : H c0 c) : ok (H c0) (P_X6_copies c 288 0) := by
  have e : P_X6_copies c (nI 288) (nI 0) = _ := copies_eq c (a := 288) (b := 0) (by decide) (by decide) (by decide)
  rw [show (0 : Int32) = nI 0 from rfl, show (288 : Int32) = nI 288 from rfl, e]
  obtain ⟨h1, h2, h3, h4, h5⟩ := h
  refine ok_s ⟨Sr.to (Sr.congr h2 (fun k hk => ?_)), Sr.congr h2 (fun k hk => ?_), fun k hk => ?_, fun j a b => ?_, fun k a b d e => ?_⟩
  · show (if 21 = 21 ∧ 0 ≤ k ∧ k < 0 + 288 then c 21 (288 + (k - 0)) else c 21 k) = _
    rw [if_pos (by omega), Nat.sub_zero]
  · show (if 21 = 21 ∧ 0 ≤ 288 + k ∧ 288 + k < 0 + 288 then _ else c 21 (288 + k)) = _
    rw [if_neg (by omega)]
  · show (if 21 = 21 ∧ 0 ≤ k ∧ k < 0 + 288 then _ else c 21 k) = _
    rw [if_neg (by omega)]; exact h3 k hk
  · rw [← h4 j a b]; funext k
    show (if j = 21 ∧ 0 ≤ k ∧ k < 0 + 288 then _ else c j k) = _
    rw [if_neg (by omega)]
  · rw [← h5 k a b d e]
    show (if 20 = 21 ∧ 0 ≤ k ∧ k < 0 + 288 then _ else c 20 k) = _
    rw [if_neg (by omega)]
theorem t_isPhase {c : mC} (h : St c) {x : Int32} : ok (fun v => ¬ v = 0 → rP x) (P_X6_isPhase c x) := by
  refine ok_if (fun _ => ok_s (fun z => absurd rfl z)) (fun n => ?_)
  refine ok_bo (t_of0 (G.rf h)) (fun v hv => ok_if (fun _ => ok_s (fun z => absurd rfl z)) (fun n2 => ok_s (fun _ => ?_)))
  obtain ⟨q, hq, rfl⟩ := hv
  obtain ⟨p, hp, rfl⟩ := nI_of n
  refine ⟨p, ?_, rfl⟩
  have : ¬ q ≤ p := fun z => n2 ((nI_leI (by omega) (by omega)).mpr z)
  omega

theorem isF_w {x v : Int32} {b : Nat} (hb : b < 2 ^ 31) (e : P_X6_isFrom x 0 (nI b) = v) (h : ¬ v = 0) : ∃ w, w ≤ b ∧ x = nI w := by
  subst e
  unfold P_X6_isFrom J_X6_isFrom_14 at h
  by_cases q : x < 0
  · rw [if_pos q] at h; exact absurd rfl h
  · rw [if_neg q] at h
    by_cases q2 : nI b < x
    · rw [if_pos q2] at h; exact absurd rfl h
    · obtain ⟨p, hp, rfl⟩ := nI_of q
      exact ⟨p, (nI_leI (by omega) (by omega)).mp (Int32.not_lt.mp q2), rfl⟩
theorem isF_01 {x v : Int32} (e : P_X6_isFrom x 0 1 = v) (h : ¬ v = 0) : r01 x := by
  obtain ⟨w, hw, rfl⟩ := isF_w (b := 1) (by decide) e h
  have : w = 0 ∨ w = 1 := by omega
  rcases this with rfl | rfl
  · exact Or.inl rfl
  · exact Or.inr rfl
theorem isF_2 {x : Int32} (h : ∃ w, w ≤ 9 ∧ x = nI w) : ∃ w, 2 ≤ w ∧ w < 18 ∧ (2 : Int32) + x = nI w := by
  obtain ⟨w, hw, rfl⟩ := h
  exact ⟨2 + w, by omega, by omega, nI_add 2 w⟩
theorem isF_ne {x : Int32} (h : ∃ w, w ≤ 5 ∧ x = nI w) (hn : ¬ x = 5) : ∃ w, w ≤ 4 ∧ x = nI w := by
  obtain ⟨w, hw, rfl⟩ := h
  have : ¬ w = 5 := fun z => hn (by rw [z]; rfl)
  exact ⟨w, by omega, rfl⟩
theorem t_of_w {c0 c : mC} (h : G c0 c) {x : Int32} (hx : ∃ w, w ≤ 10 ∧ x = nI w) : ok (fun _ => True) (P_X6_of c x) := by
  obtain ⟨w, hw, rfl⟩ := hx
  exact ok_mo (t_of h w rfl (by omega)) (fun _ _ => trivial)
theorem t_mark_w {c0 c : mC} (h : G c0 c) {x y : Int32} (hx : rQ x) (hy : ∃ w, w ≤ 9 ∧ y = nI w) : ok (fun _ => True) (P_X6_mark c x y) := by
  obtain ⟨w, hw, rfl⟩ := hy
  exact t_mark h hx w rfl (by omega)
theorem t_ofBreak_w {c0 c : mC} (h : G c0 c) {x y : Int32} (hx : rB x) (hy : ∃ w, w ≤ 4 ∧ y = nI w) : ok (fun _ => True) (P_X6_ofBreak c x y) := by
  obtain ⟨w, hw, rfl⟩ := hy
  exact t_ofBreak h hx w rfl (by omega)
theorem t_ofPhase_e {c0 c : mC} (h : G c0 c) {x y : Int32} (hx : rQ x) (w : Nat) (hy : y = nI w) (hw : w < 18) : ok (fun _ => True) (P_X6_ofPhase c x y) := t_ofPhase h hx w hy hw

theorem hk_P_X6_many {c0 : mC} {c : mC} (g_c : H c0 c) {x1 : Int32} : ok (fun p : Int32 × mC => H c0 p.2) (P_X6_many c x1) :=
  (ok_bd (fun v1 e2 => (ok_if (fun q3 => (ok_if (fun q5 => (ok_bo (t_gives g_c) (fun v7 h8 => (ok_s h8)))) (fun q6 => (ok_bo (t_refuse g_c) (fun v9 h10 => (ok_s h10)))))) (fun q4 => (ok_bo (t_of_w (G.rf g_c.1) (isF_w (b := 10) (by decide) e2 q4)) (fun v11 h12 => (ok_bo (t_gives g_c) (fun v13 h14 => (ok_s h14)))))))))
theorem tk_J_X6_lampOf_40 {c0 : mC} {c : mC} (g_c : G c0 c) : ok (fun _ => True) (J_X6_lampOf_40 c) :=
  (ok_s trivial)
theorem tk_P_X6_lampOf {c0 : mC} {c : mC} (g_c : G c0 c) {x1 : Int32} (h_x1_rP : rP x1) : ok (fun _ => True) (P_X6_lampOf c x1) :=
  (ok_bo (t_ofP0 g_c h_x1_rP) (fun v1 h2 => (ok_bo (t_of g_c 6 rfl (by decide)) (fun v3 h4 => (ok_bd (fun v5 e6 => (ok_if (fun q7 => (ok_bo (tk_P_X6_isHolding g_c h2) (fun v9 h10 => (ok_if (fun q11 => (tk_J_X6_lampOf_40 g_c)) (fun q12 => (ok_bo (t_ofR0q g_c h2) (fun v13 h14 => (ok_if (fun q15 => (ok_bo (t_ofRing g_c h2 1 rfl (by decide)) (fun v17 h18 => (ok_if (fun q19 => (ok_s trivial)) (fun q20 => (ok_bo (t_ofRing g_c h2 1 rfl (by decide)) (fun v21 h22 => (ok_if (fun q23 => (ok_s trivial)) (fun q24 => (ok_s trivial)))))))))) (fun q16 => (tk_J_X6_lampOf_40 g_c)))))))))) (fun q8 => (ok_s trivial)))))))))
theorem hk_J_X6_phase_123 {c0 : mC} {c : mC} (g_c : H c0 c) {s1 : Int32} (h_s1_r01 : r01 s1) : ok (fun p : Int32 × mC => H c0 p.2) (J_X6_phase_123 c s1) :=
  (ok_bo (t_gives g_c) (fun v1 h2 => (ok_s h2)))
theorem hk_J_X6_phase_141 {c0 : mC} {c : mC} (g_c : H c0 c) {s1 : Int32} (h_s1_r01 : r01 s1) : ok (fun p : Int32 × mC => H c0 p.2) (J_X6_phase_141 c s1) :=
  (ok_bo (t_gives g_c) (fun v1 h2 => (ok_s h2)))
theorem hk_P_X6_phase {c0 : mC} {c : mC} (g_c : H c0 c) {x1 : Int32} {x2 : Int32} : ok (fun p : Int32 × mC => H c0 p.2) (P_X6_phase c x1 x2) :=
  (ok_bd (fun v1 e2 => (ok_if (fun q3 => (ok_bo (t_refuse g_c) (fun v5 h6 => (ok_s h6)))) (fun q4 => (ok_bo (t_isPhase g_c.1) (fun v7 h8 => (ok_if (fun q9 => (ok_bo (t_refuse g_c) (fun v11 h12 => (ok_s h12)))) (fun q10 => (ok_if (fun q13 => (ok_bo (t_ofPhase_e (G.rf g_c.1) (rP_Q (h8 q10)) 0 q13 (by decide)) (fun v15 h16 => (ok_bo (t_gives g_c) (fun v17 h18 => (ok_s h18)))))) (fun q14 => (ok_if (fun q19 => (ok_bo (t_ofPhase_e (G.rf g_c.1) (rP_Q (h8 q10)) 1 q19 (by decide)) (fun v21 h22 => (ok_bo (t_gives g_c) (fun v23 h24 => (ok_s h24)))))) (fun q20 => (ok_if (fun q25 => (ok_bo (tk_P_X6_lampOf (G.rf g_c.1) (h8 q10)) (fun v27 h28 => (ok_bo (t_gives g_c) (fun v29 h30 => (ok_s h30)))))) (fun q26 => (ok_if (fun q31 => (ok_bo (t_ofPhase (G.rf g_c.1) (rP_Q (h8 q10)) 12 rfl (by decide)) (fun v33 h34 => (ok_bo (t_gives g_c) (fun v35 h36 => (ok_s h36)))))) (fun q32 => (ok_if (fun q37 => (ok_bo (tk_P_X6_isCalled (G.rf g_c.1) (h8 q10)) (fun v39 h40 => (ok_if (fun q41 => (hk_J_X6_phase_123 g_c r01_0)) (fun q42 => (hk_J_X6_phase_123 g_c r01_1)))))) (fun q38 => (ok_if (fun q43 => (ok_bo (tk_P_X6_isOnFoot (G.rf g_c.1) (h8 q10)) (fun v45 h46 => (ok_if (fun q47 => (hk_J_X6_phase_141 g_c r01_0)) (fun q48 => (hk_J_X6_phase_141 g_c r01_1)))))) (fun q44 => (ok_if (fun q49 => (ok_bo (t_ofPhase (G.rf g_c.1) (rP_Q (h8 q10)) 15 rfl (by decide)) (fun v51 h52 => (ok_bo (t_gives g_c) (fun v53 h54 => (ok_s h54)))))) (fun q50 => (ok_if (fun q55 => (ok_bo (tk_P_X6_endOf (G.rf g_c.1) (rP_Q (h8 q10))) (fun v57 h58 => (ok_bo (t_gives g_c) (fun v59 h60 => (ok_s h60)))))) (fun q56 => (ok_bo (tk_P_X6_foesOf (G.rf g_c.1) (h8 q10)) (fun v61 h62 => (ok_bo (t_gives g_c) (fun v63 h64 => (ok_s h64)))))))))))))))))))))))))))))
theorem hk_P_X6_marked {c0 : mC} {c : mC} (g_c : H c0 c) {x1 : Int32} {x2 : Int32} : ok (fun p : Int32 × mC => H c0 p.2) (P_X6_marked c x1 x2) :=
  (ok_bd (fun v1 e2 => (ok_if (fun q3 => (ok_bo (t_refuse g_c) (fun v5 h6 => (ok_s h6)))) (fun q4 => (ok_bo (t_isPhase g_c.1) (fun v7 h8 => (ok_if (fun q9 => (ok_bo (t_refuse g_c) (fun v11 h12 => (ok_s h12)))) (fun q10 => (ok_bo (t_mark_w (G.rf g_c.1) (rP_Q (h8 q10)) (isF_w (b := 9) (by decide) e2 q4)) (fun v13 h14 => (ok_bo (t_gives g_c) (fun v15 h16 => (ok_s h16)))))))))))))
theorem hk_J_X6_brake_55 {c0 : mC} {c : mC} (g_c : H c0 c) {s1 : Int32} : ok (fun p : Int32 × mC => H c0 p.2) (J_X6_brake_55 c s1) :=
  (ok_bo (t_gives g_c) (fun v1 h2 => (ok_s h2)))
theorem hk_P_X6_brake {c0 : mC} {c : mC} (g_c : H c0 c) {x1 : Int32} {x2 : Int32} : ok (fun p : Int32 × mC => H c0 p.2) (P_X6_brake c x1 x2) :=
  (ok_bd (fun v1 e2 => (ok_if (fun q3 => (ok_bo (t_refuse g_c) (fun v5 h6 => (ok_s h6)))) (fun q4 => (ok_bd (fun v7 e8 => (ok_if (fun q9 => (ok_bo (t_refuse g_c) (fun v11 h12 => (ok_s h12)))) (fun q10 => (ok_if (fun q13 => (ok_bo (t_of (G.rf g_c.1) 10 rfl (by decide)) (fun v15 h16 => (hk_J_X6_brake_55 g_c)))) (fun q14 => (ok_bo (t_ofBreak_w (G.rf g_c.1) (r01_B (isF_01 e8 q10)) (isF_ne (isF_w (b := 5) (by decide) e2 q4) q14)) (fun v17 h18 => (hk_J_X6_brake_55 g_c)))))))))))))
theorem tk_J_X6_greatest_41 {c0 : mC} {c : mC} (g_c : G c0 c) {x1 : Int32} (h_x1_rQ : rQ x1) {x2 : Int32} (h_x2_rP : rP x2) : ok2 (fun s : Int32 × Int32 => rQ (s.1) ∧ r08 (s.2) ∧ True) (fun v => rQ v) (J_X6_greatest_41 c x1 x2) :=
  (ok2_l ⟨h_x1_rQ, (rP_up h_x2_rP), trivial⟩)
theorem tk_J_X6_greatest_36 {c0 : mC} {c : mC} (g_c : G c0 c) {x1 : Int32} (h_x1_rQ : rQ x1) {x2 : Int32} (h_x2_rP : rP x2) {s0 : Int32} {s1 : Int32} : ok2 (fun s : Int32 × Int32 => rQ (s.1) ∧ r08 (s.2) ∧ True) (fun v => rQ v) (J_X6_greatest_36 c x1 x2 s0 s1) :=
  (ok2_if (fun q1 => (tk_J_X6_greatest_41 g_c h_x1_rQ h_x2_rP)) (fun q2 => (tk_J_X6_greatest_41 g_c (rP_Q h_x2_rP) h_x2_rP)))
theorem tb_X6_greatest_4 {c0 : mC} {c : mC} (g_c : G c0 c) : ∀ s : Int32 × Int32, (fun s : Int32 × Int32 => rQ (s.1) ∧ r08 (s.2) ∧ True) s → ok2 (fun s : Int32 × Int32 => rQ (s.1) ∧ r08 (s.2) ∧ True) (fun v => rQ v) (B_X6_greatest_4 c s) := by
  rintro ⟨x1, x2⟩ ⟨k_x1_rQ, k_x2_r08, _⟩
  show ok2 (fun s : Int32 × Int32 => rQ (s.1) ∧ r08 (s.2) ∧ True) (fun v => rQ v) (mBo (α := Int32) (.inr none) (P_X6_of c 0) (fun v1 => (if v1 ≤ x2 then (.inr (some x1)) else (mBo (α := Int32) (.inr none) (P_X6_ofPhase c x2 12) (fun v2 => (if x1 = (-1) then (J_X6_greatest_36 c x1 x2 v2 0) else (mBo (α := Int32) (.inr none) (P_X6_ofPhase c x1 12) (fun v3 => (J_X6_greatest_36 c x1 x2 v2 v3)))))))))
  exact (ok_b2 (t_of0 g_c) (fun v1 h2 => (ok2_if (fun q3 => (ok2_r (ok_s k_x1_rQ))) (fun q4 => (ok_b2 (t_ofPhase g_c (rP_Q (rP_lt k_x2_r08 h2 q4)) 12 rfl (by decide)) (fun v5 h6 => (ok2_if (fun q7 => (tk_J_X6_greatest_36 g_c k_x1_rQ (rP_lt k_x2_r08 h2 q4))) (fun q8 => (ok_b2 (t_ofPhase g_c k_x1_rQ 12 rfl (by decide)) (fun v9 h10 => (tk_J_X6_greatest_36 g_c k_x1_rQ (rP_lt k_x2_r08 h2 q4))))))))))))
theorem tk_P_X6_greatest {c0 : mC} {c : mC} (g_c : G c0 c) : ok (fun v => rQ v) (P_X6_greatest c) :=
  (ok_wh _ tm_X6_greatest_4 (tb_X6_greatest_4 g_c) ⟨rQ_m, r08_0, trivial⟩)
theorem tb_X6_goneAll_4 {c0 : mC} {c : mC} (g_c : G c0 c) : ∀ s : Int32 × Int32, (fun s : Int32 × Int32 => r08 (s.2) ∧ True) s → ok2 (fun s : Int32 × Int32 => r08 (s.2) ∧ True) (fun _ => True) (B_X6_goneAll_4 c s) := by
  rintro ⟨x1, x2⟩ ⟨k_x2_r08, _⟩
  show ok2 (fun s : Int32 × Int32 => r08 (s.2) ∧ True) (fun _ => True) (mBo (α := Int32) (.inr none) (P_X6_of c 0) (fun v1 => (if v1 ≤ x2 then (.inr (some x1)) else (mBo (α := Int32) (.inr none) (P_X6_ofPhase c x2 15) (fun v2 => (.inl ((x1 + v2), (x2 + 1))))))))
  exact (ok_b2 (t_of0 g_c) (fun v1 h2 => (ok2_if (fun q3 => (ok2_r (ok_s trivial))) (fun q4 => (ok_b2 (t_ofPhase g_c (rP_Q (rP_lt k_x2_r08 h2 q4)) 15 rfl (by decide)) (fun v5 h6 => (ok2_l ⟨(rP_up (rP_lt k_x2_r08 h2 q4)), trivial⟩)))))))
theorem tk_P_X6_goneAll {c0 : mC} {c : mC} (g_c : G c0 c) : ok (fun _ => True) (P_X6_goneAll c) :=
  (ok_wh _ tm_X6_goneAll_4 (tb_X6_goneAll_4 g_c) ⟨r08_0, trivial⟩)
theorem hk_J_X6_sum_92 {c0 : mC} {c : mC} (g_c : H c0 c) {s1 : Int32} : ok (fun p : Int32 × mC => H c0 p.2) (J_X6_sum_92 c s1) :=
  (ok_bo (t_gives g_c) (fun v1 h2 => (ok_s h2)))
theorem hk_P_X6_sum {c0 : mC} {c : mC} (g_c : H c0 c) {x1 : Int32} : ok (fun p : Int32 × mC => H c0 p.2) (P_X6_sum c x1) :=
  (ok_if (fun q1 => (ok_bo (tk_P_X6_goneAll (G.rf g_c.1)) (fun v3 h4 => (ok_bo (t_gives g_c) (fun v5 h6 => (ok_s h6)))))) (fun q2 => (ok_if (fun q7 => (ok_bo (t_of (G.rf g_c.1) 11 rfl (by decide)) (fun v9 h10 => (ok_bo (t_gives g_c) (fun v11 h12 => (ok_s h12)))))) (fun q8 => (ok_if (fun q13 => (ok_bo (tk_P_X6_queues (G.rf g_c.1)) (fun v15 h16 => (ok_bo (t_gives g_c) (fun v17 h18 => (ok_s h18)))))) (fun q14 => (ok_if (fun q19 => (ok_bo (tk_P_X6_greatest (G.rf g_c.1)) (fun v21 h22 => (ok_if (fun q23 => (hk_J_X6_sum_92 g_c)) (fun q24 => (ok_bo (tk_P_X6_greatest (G.rf g_c.1)) (fun v25 h26 => (ok_bo (t_ofPhase (G.rf g_c.1) h26 12 rfl (by decide)) (fun v27 h28 => (hk_J_X6_sum_92 g_c)))))))))) (fun q20 => (ok_if (fun q29 => (ok_bo (tk_P_X6_greatest (G.rf g_c.1)) (fun v31 h32 => (ok_bo (t_gives g_c) (fun v33 h34 => (ok_s h34)))))) (fun q30 => (ok_if (fun q35 => (ok_bo (tk_P_X6_shown (G.rf g_c.1)) (fun v37 h38 => (ok_bo (t_gives g_c) (fun v39 h40 => (ok_s h40)))))) (fun q36 => (ok_bo (t_refuse g_c) (fun v41 h42 => (ok_s h42)))))))))))))))
theorem hk_J_X6_mark__25 {c0 : mC} {c : mC} (g_c : H c0 c) : ok (fun p : Int32 × mC => H c0 p.2) (J_X6_mark__25 c) :=
  (ok_bo (t_refuse g_c) (fun v1 h2 => (ok_s h2)))
theorem hk_P_X6_mark_ {c0 : mC} {c : mC} (g_c : H c0 c) {x1 : Int32} {x2 : Int32} {x3 : Int32} : ok (fun p : Int32 × mC => H c0 p.2) (P_X6_mark_ c x1 x2 x3) :=
  (ok_bd (fun v1 e2 => (ok_if (fun q3 => (hk_J_X6_mark__25 g_c)) (fun q4 => (ok_bd (fun v5 e6 => (ok_bd (fun v7 e8 => (ok_bd (fun v9 e10 => (ok_if (fun q11 => (hk_J_X6_mark__25 g_c)) (fun q12 => (ok_bo (t_isPhase g_c.1) (fun v13 h14 => (ok_if (fun q15 => (ok_bo (t_refuse g_c) (fun v17 h18 => (ok_s h18)))) (fun q16 => (ok_bo (t_mark_w (G.rf g_c.1) (rP_Q (h14 q16)) (isF_w (b := 9) (by decide) e2 q4)) (fun v19 h20 => (ok_bo (h_putsP g_c (h14 q16) (isF_2 (isF_w (b := 9) (by decide) e2 q4))) (fun v21 h22 => (ok_bo (t_gives h22) (fun v23 h24 => (ok_s h24)))))))))))))))))))))))
theorem hk_P_X6_calls {c0 : mC} {c : mC} (g_c : H c0 c) {x1 : Int32} (h_x1_rP : rP x1) : ok (H c0) (P_X6_calls c x1) :=
  (ok_bo (t_ofP0 (G.rf g_c.1) h_x1_rP) (fun v1 h2 => (ok_bo (tk_P_X6_isGreen (G.rf g_c.1) h2) (fun v3 h4 => (ok_if (fun q5 => (ok_bo (h_putsP g_c h_x1_rP ⟨13, by decide, by decide, rfl⟩) (fun v7 h8 => (ok_s h8)))) (fun q6 => (ok_bo (t_ofR0q (G.rf g_c.1) h2) (fun v9 h10 => (ok_if (fun q11 => (ok_bo (h_putsP g_c h_x1_rP ⟨16, by decide, by decide, rfl⟩) (fun v13 h14 => (ok_s h14)))) (fun q12 => (ok_bo (h_putsP g_c h_x1_rP ⟨13, by decide, by decide, rfl⟩) (fun v15 h16 => (ok_s h16)))))))))))))
theorem hk_J_X6_call_95 {c0 : mC} {c : mC} (g_c : H c0 c) : ok (fun p : Int32 × mC => H c0 p.2) (J_X6_call_95 c) :=
  (ok_bo (t_isSo g_c) (fun v1 h2 => (ok_s h2)))
theorem hk_P_X6_call {c0 : mC} {c : mC} (g_c : H c0 c) {x1 : Int32} {x2 : Int32} : ok (fun p : Int32 × mC => H c0 p.2) (P_X6_call c x1 x2) :=
  (ok_bo (t_isPhase g_c.1) (fun v1 h2 => (ok_if (fun q3 => (ok_bo (t_isSo g_c) (fun v5 h6 => (ok_s h6)))) (fun q4 => (ok_if (fun q7 => (ok_bo (t_ofPhase (G.rf g_c.1) (rP_Q (h2 q4)) 13 rfl (by decide)) (fun v9 h10 => (ok_if (fun q11 => (ok_bo (t_isSo g_c) (fun v13 h14 => (ok_s h14)))) (fun q12 => (ok_if (fun q15 => (ok_bo (t_of (G.rf g_c.1) 5 rfl (by decide)) (fun v17 h18 => (ok_if (fun q19 => (ok_bo (t_isSo g_c) (fun v21 h22 => (ok_s h22)))) (fun q20 => (ok_if (fun q23 => (ok_bo (hk_P_X6_calls g_c (h2 q4)) (fun v25 h26 => (hk_J_X6_call_95 h26)))) (fun q24 => (ok_bo (h_putsP g_c (h2 q4) ⟨14, by decide, by decide, rfl⟩) (fun v27 h28 => (hk_J_X6_call_95 h28)))))))))) (fun q16 => (ok_bo (t_mark (G.rf g_c.1) (rP_Q (h2 q4)) 5 rfl (by decide)) (fun v29 h30 => (ok_if (fun q31 => (ok_bo (t_isSo g_c) (fun v33 h34 => (ok_s h34)))) (fun q32 => (ok_bo (t_of (G.rf g_c.1) 5 rfl (by decide)) (fun v35 h36 => (ok_if (fun q37 => (ok_bo (t_isSo g_c) (fun v39 h40 => (ok_s h40)))) (fun q38 => (ok_if (fun q41 => (ok_bo (hk_P_X6_calls g_c (h2 q4)) (fun v43 h44 => (hk_J_X6_call_95 h44)))) (fun q42 => (ok_bo (h_putsP g_c (h2 q4) ⟨14, by decide, by decide, rfl⟩) (fun v45 h46 => (hk_J_X6_call_95 h46)))))))))))))))))))) (fun q8 => (ok_bo (t_ofPhase (G.rf g_c.1) (rP_Q (h2 q4)) 14 rfl (by decide)) (fun v47 h48 => (ok_if (fun q49 => (ok_bo (t_isSo g_c) (fun v51 h52 => (ok_s h52)))) (fun q50 => (ok_if (fun q53 => (ok_bo (t_of (G.rf g_c.1) 5 rfl (by decide)) (fun v55 h56 => (ok_if (fun q57 => (ok_bo (t_isSo g_c) (fun v59 h60 => (ok_s h60)))) (fun q58 => (ok_if (fun q61 => (ok_bo (hk_P_X6_calls g_c (h2 q4)) (fun v63 h64 => (hk_J_X6_call_95 h64)))) (fun q62 => (ok_bo (h_putsP g_c (h2 q4) ⟨14, by decide, by decide, rfl⟩) (fun v65 h66 => (hk_J_X6_call_95 h66)))))))))) (fun q54 => (ok_bo (t_mark (G.rf g_c.1) (rP_Q (h2 q4)) 5 rfl (by decide)) (fun v67 h68 => (ok_if (fun q69 => (ok_bo (t_isSo g_c) (fun v71 h72 => (ok_s h72)))) (fun q70 => (ok_bo (t_of (G.rf g_c.1) 5 rfl (by decide)) (fun v73 h74 => (ok_if (fun q75 => (ok_bo (t_isSo g_c) (fun v77 h78 => (ok_s h78)))) (fun q76 => (ok_if (fun q79 => (ok_bo (hk_P_X6_calls g_c (h2 q4)) (fun v81 h82 => (hk_J_X6_call_95 h82)))) (fun q80 => (ok_bo (h_putsP g_c (h2 q4) ⟨14, by decide, by decide, rfl⟩) (fun v83 h84 => (hk_J_X6_call_95 h84)))))))))))))))))))))))))
theorem hk_P_X6_come {c0 : mC} {c : mC} (g_c : H c0 c) {x1 : Int32} {x2 : Int32} : ok (fun p : Int32 × mC => H c0 p.2) (P_X6_come c x1 x2) :=
  (ok_bd (fun v1 e2 => (ok_if (fun q3 => (ok_bo (t_refuse g_c) (fun v5 h6 => (ok_s h6)))) (fun q4 => (ok_bo (t_isPhase g_c.1) (fun v7 h8 => (ok_if (fun q9 => (ok_bo (t_refuse g_c) (fun v11 h12 => (ok_s h12)))) (fun q10 => (ok_bo (t_ofPhase (G.rf g_c.1) (rP_Q (h8 q10)) 12 rfl (by decide)) (fun v13 h14 => (ok_if (fun q15 => (ok_bo (t_ofPhase (G.rf g_c.1) (rP_Q (h8 q10)) 12 rfl (by decide)) (fun v17 h18 => (ok_bo (h_putsP g_c (h8 q10) ⟨12, by decide, by decide, rfl⟩) (fun v19 h20 => (ok_bo (t_ofPhase (G.rf h20.1) (rP_Q (h8 q10)) 12 rfl (by decide)) (fun v21 h22 => (ok_bo (t_gives h20) (fun v23 h24 => (ok_s h24)))))))))) (fun q16 => (ok_bo (t_refuse g_c) (fun v25 h26 => (ok_s h26)))))))))))))))
theorem hk_P_X6_isWanted {c0 : mC} {c : mC} (g_c : H c0 c) {x1 : Int32} {x2 : Int32} (h_x2_r01 : r01 x2) : ok (fun p : Int32 × mC => H c0 p.2) (P_X6_isWanted c x1 x2) :=
  (ok_bd (fun v1 e2 => (ok_if (fun q3 => (ok_bo (t_isSo g_c) (fun v5 h6 => (ok_s h6)))) (fun q4 => (ok_bo (t_of (G.rf g_c.1) 10 rfl (by decide)) (fun v7 h8 => (ok_bd (fun v9 e10 => (ok_if (fun q11 => (ok_bo (t_isSo g_c) (fun v13 h14 => (ok_s h14)))) (fun q12 => (ok_bo (t_of (G.rf g_c.1) 10 rfl (by decide)) (fun v15 h16 => (ok_bo (h_puts g_c 10 rfl (by decide) (by decide) (by intro q hq; omega)) (fun v17 h18 => (ok_bo (t_isSo h18) (fun v19 h20 => (ok_s h20)))))))))))))))))
theorem hk_P_X6_ask {c0 : mC} {c : mC} (g_c : H c0 c) {x1 : Int32} : ok (fun p : Int32 × mC => H c0 p.2) (P_X6_ask c x1) :=
  (ok_bo (hk_P_X6_isWanted g_c r01_1) (fun v1 h2 => (ok_s h2)))
theorem hk_P_X6_let {c0 : mC} {c : mC} (g_c : H c0 c) {x1 : Int32} : ok (fun p : Int32 × mC => H c0 p.2) (P_X6_let c x1) :=
  (ok_bo (hk_P_X6_isWanted g_c r01_0) (fun v1 h2 => (ok_s h2)))
theorem tk_J_X6_isSet_18 {c0 : mC} {c : mC} (g_c : G c0 c) : ok (fun _ => True) (J_X6_isSet_18 c) :=
  (ok_s trivial)
theorem tk_P_X6_isSet {c0 : mC} {c : mC} (g_c : G c0 c) {x1 : Int32} : ok (fun _ => True) (P_X6_isSet c x1) :=
  (ok_if (fun q1 => (tk_J_X6_isSet_18 g_c)) (fun q2 => (ok_bo (t_of0 g_c) (fun v3 h4 => (ok_if (fun q5 => (ok_s trivial)) (fun q6 => (tk_J_X6_isSet_18 g_c)))))))
theorem hk_P_X6_stick {c0 : mC} {c : mC} (g_c : H c0 c) {x1 : Int32} {x2 : Int32} : ok (fun p : Int32 × mC => H c0 p.2) (P_X6_stick c x1 x2) :=
  (ok_bo (t_isPhase g_c.1) (fun v1 h2 => (ok_if (fun q3 => (ok_bo (t_isSo g_c) (fun v5 h6 => (ok_s h6)))) (fun q4 => (ok_bo (t_of (G.rf g_c.1) 6 rfl (by decide)) (fun v7 h8 => (ok_bd (fun v9 e10 => (ok_if (fun q11 => (ok_bo (t_isSo g_c) (fun v13 h14 => (ok_s h14)))) (fun q12 => (ok_bo (t_of (G.rf g_c.1) 6 rfl (by decide)) (fun v15 h16 => (ok_bo (h_puts g_c 6 rfl (by decide) (by decide) (by intro q hq; omega)) (fun v17 h18 => (ok_bo (t_isSo h18) (fun v19 h20 => (ok_s h20)))))))))))))))))
theorem hk_P_X6_reset {c0 : mC} {c : mC} (g_c : H c0 c) : ok (fun p : Int32 × mC => H c0 p.2) (P_X6_reset c) :=
  (ok_bo (t_of (G.rf g_c.1) 5 rfl (by decide)) (fun v1 h2 => (ok_if (fun q3 => (ok_bo (t_isSo g_c) (fun v5 h6 => (ok_s h6)))) (fun q4 => (ok_bo (h_puts g_c 5 rfl (by decide) (by decide) (by intro q hq; omega)) (fun v7 h8 => (ok_bo (H.up h8 (tk_P_X6_starts (G.rf h8.1))) (fun v9 h10 => (ok_bo (H.up h10 (t_happens (G.rf h10.1))) (fun v11 h12 => (ok_bo (t_isSo h12) (fun v13 h14 => (ok_s h14)))))))))))))
theorem hb_X6_tick_19 {c0 : mC} {x1 : Int32} : ∀ s : Int32 × mC, (fun s : Int32 × mC => H c0 s.2 ∧ True) s → ok2 (fun s : Int32 × mC => H c0 s.2 ∧ True) (fun p : Int32 × mC => H c0 p.2) (B_X6_tick_19 x1 s) := by
  rintro ⟨x2, c⟩ ⟨g_c, _⟩
  show ok2 (fun s : Int32 × mC => H c0 s.2 ∧ True) (fun p : Int32 × mC => H c0 p.2) (if x1 ≤ x2 then (.inr (mBo (α := Int32) none (P_X6_of c 1) (fun v1 => (mBo (α := Int32 × mC) none (P_X6_gives c v1) (fun p2 => (some (p2.1, p2.2))))))) else (mBo (α := mC) (.inr none) (P_X6_ticks c 0) (fun c3 => (.inl ((x2 + 1), c3)))))
  exact (ok2_if (fun q1 => (ok2_r (ok_bo (t_of (G.rf g_c.1) 1 rfl (by decide)) (fun v3 h4 => (ok_bo (t_gives g_c) (fun v5 h6 => (ok_s h6))))))) (fun q2 => (ok_b2 (h_ticks g_c) (fun v7 h8 => (ok2_l ⟨h8, trivial⟩)))))
theorem hk_P_X6_tick {c0 : mC} {c : mC} (g_c : H c0 c) {x1 : Int32} : ok (fun p : Int32 × mC => H c0 p.2) (P_X6_tick c x1) :=
  (ok_bd (fun v1 e2 => (ok_if (fun q3 => (ok_bo (t_refuse g_c) (fun v5 h6 => (ok_s h6)))) (fun q4 => (ok_wh _ tm_X6_tick_19 (hb_X6_tick_19 ) ⟨g_c, trivial⟩)))))
theorem hk_J_X6_run_22 {c0 : mC} {c : mC} (g_c : H c0 c) : ok (fun p : Int32 × mC => H c0 p.2) (J_X6_run_22 c) :=
  (ok_bo (t_refuse g_c) (fun v1 h2 => (ok_s h2)))
theorem hb_X6_run_40 {c0 : mC} {x1 : Int32} : ∀ s : Int32 × mC, (fun s : Int32 × mC => H c0 s.2 ∧ True) s → ok2 (fun s : Int32 × mC => H c0 s.2 ∧ True) (fun p : Int32 × mC => H c0 p.2) (B_X6_run_40 x1 s) := by
  rintro ⟨x3, c⟩ ⟨g_c, _⟩
  show ok2 (fun s : Int32 × mC => H c0 s.2 ∧ True) (fun p : Int32 × mC => H c0 p.2) (if x1 ≤ x3 then (.inr (mBo (α := Int32 × mC) none (P_X6_gives c (c 20 4)) (fun p1 => (some (p1.1, p1.2))))) else (mBo (α := mC) (.inr none) (P_X6_ticks c 1) (fun c2 => (.inl ((x3 + 1), c2)))))
  exact (ok2_if (fun q1 => (ok2_r (ok_bo (t_gives g_c) (fun v3 h4 => (ok_s h4))))) (fun q2 => (ok_b2 (h_ticks g_c) (fun v5 h6 => (ok2_l ⟨h6, trivial⟩)))))
theorem hk_P_X6_run {c0 : mC} {c : mC} (g_c : H c0 c) {x1 : Int32} {x2 : Int32} : ok (fun p : Int32 × mC => H c0 p.2) (P_X6_run c x1 x2) :=
  (ok_bd (fun v1 e2 => (ok_if (fun q3 => (hk_J_X6_run_22 g_c)) (fun q4 => (ok_bd (fun v5 e6 => (ok_if (fun q7 => (hk_J_X6_run_22 g_c)) (fun q8 => (ok_wh _ tm_X6_run_40 (hb_X6_run_40 ) ⟨(H.m (H.m g_c (Or.inr (Or.inl rfl))) (Or.inr (Or.inr (Or.inl rfl)))), trivial⟩)))))))))
theorem hk_J_X6_foes_37 {c0 : mC} {c : mC} (g_c : H c0 c) : ok (fun p : Int32 × mC => H c0 p.2) (J_X6_foes_37 c) :=
  (ok_bo (t_refuse g_c) (fun v1 h2 => (ok_s h2)))
theorem hk_J_X6_foes_31 {c0 : mC} {c : mC} (g_c : H c0 c) {s1 : Int32} (h_s1_r01 : r01 s1) : ok (fun p : Int32 × mC => H c0 p.2) (J_X6_foes_31 c s1) :=
  (ok_bo (t_gives g_c) (fun v1 h2 => (ok_s h2)))
theorem hk_P_X6_foes {c0 : mC} {c : mC} (g_c : H c0 c) {x1 : Int32} {x2 : Int32} : ok (fun p : Int32 × mC => H c0 p.2) (P_X6_foes c x1 x2) :=
  (ok_bo (t_isPhase g_c.1) (fun v1 h2 => (ok_if (fun q3 => (hk_J_X6_foes_37 g_c)) (fun q4 => (ok_bo (t_isPhase g_c.1) (fun v5 h6 => (ok_if (fun q7 => (hk_J_X6_foes_37 g_c)) (fun q8 => (ok_bo (tk_P_X6_areFoes (G.rf g_c.1) (rP_Q (h2 q4)) (rP_Q (h6 q8))) (fun v9 h10 => (ok_if (fun q11 => (hk_J_X6_foes_31 g_c r01_0)) (fun q12 => (hk_J_X6_foes_31 g_c r01_1)))))))))))))
theorem tk_J_X6_isFull_43 {c0 : mC} {c : mC} (g_c : G c0 c) {x1 : Int32} {x2 : Int32} (h_x2_rP : rP x2) : ok2 (fun s : Int32 => r08 s ∧ True) (fun _ => True) (J_X6_isFull_43 c x1 x2) :=
  (ok2_l ⟨(rP_up h_x2_rP), trivial⟩)
theorem tb_X6_isFull_12 {c0 : mC} {c : mC} (g_c : G c0 c) {x1 : Int32} : ∀ s : Int32, (fun s : Int32 => r08 s ∧ True) s → ok2 (fun s : Int32 => r08 s ∧ True) (fun _ => True) (B_X6_isFull_12 c x1 s) := by
  rintro x2 ⟨k_x2_r08, _⟩
  show ok2 (fun s : Int32 => r08 s ∧ True) (fun _ => True) (mBo (α := Int32) (.inr none) (P_X6_of c 0) (fun v1 => (if v1 ≤ x2 then (.inr (some 1)) else (mBd (α := Int32) (P_X6_has x1 x2) (fun v2 => (if v2 = 0 then (mBo (α := Int32) (.inr none) (P_X6_isPeace c (x1 ||| ((1 : Int32) <<< (x2 &&& 31)))) (fun v3 => (if v3 = 0 then (J_X6_isFull_43 c x1 x2) else (.inr (some 0))))) else (J_X6_isFull_43 c x1 x2)))))))
  exact (ok_b2 (t_of0 g_c) (fun v1 h2 => (ok2_if (fun q3 => (ok2_r (ok_s trivial))) (fun q4 => (ok2_bd (fun v5 e6 => (ok2_if (fun q7 => (ok_b2 (tk_P_X6_isPeace g_c) (fun v9 h10 => (ok2_if (fun q11 => (tk_J_X6_isFull_43 g_c (rP_lt k_x2_r08 h2 q4))) (fun q12 => (ok2_r (ok_s trivial))))))) (fun q8 => (tk_J_X6_isFull_43 g_c (rP_lt k_x2_r08 h2 q4))))))))))
theorem tk_P_X6_isFull {c0 : mC} {c : mC} (g_c : G c0 c) {x1 : Int32} : ok (fun _ => True) (P_X6_isFull c x1) :=
  (ok_bo (tk_P_X6_isPeace g_c) (fun v1 h2 => (ok_if (fun q3 => (ok_s trivial)) (fun q4 => (ok_wh _ tm_X6_isFull_12 (tb_X6_isFull_12 g_c) ⟨r08_0, trivial⟩)))))
theorem tk_J_X6_queuesIn_33 {c0 : mC} {c : mC} (g_c : G c0 c) {x1 : Int32} {x3 : Int32} (h_x3_rP : rP x3) {s0 : Int32} {s1 : Int32} : ok2 (fun s : Int32 × Int32 => r08 (s.2) ∧ True) (fun _ => True) (J_X6_queuesIn_33 c x1 x3 s0 s1) :=
  (ok2_l ⟨(rP_up h_x3_rP), trivial⟩)
theorem tb_X6_queuesIn_4 {c0 : mC} {c : mC} (g_c : G c0 c) {x1 : Int32} : ∀ s : Int32 × Int32, (fun s : Int32 × Int32 => r08 (s.2) ∧ True) s → ok2 (fun s : Int32 × Int32 => r08 (s.2) ∧ True) (fun _ => True) (B_X6_queuesIn_4 c x1 s) := by
  rintro ⟨x2, x3⟩ ⟨k_x3_r08, _⟩
  show ok2 (fun s : Int32 × Int32 => r08 (s.2) ∧ True) (fun _ => True) (mBo (α := Int32) (.inr none) (P_X6_of c 0) (fun v1 => (if v1 ≤ x3 then (.inr (some x2)) else (mBd (α := Int32) (P_X6_has x1 x3) (fun v2 => (if v2 = 0 then (J_X6_queuesIn_33 c x1 x3 x2 0) else (mBo (α := Int32) (.inr none) (P_X6_ofPhase c x3 12) (fun v3 => (J_X6_queuesIn_33 c x1 x3 x2 v3)))))))))
  exact (ok_b2 (t_of0 g_c) (fun v1 h2 => (ok2_if (fun q3 => (ok2_r (ok_s trivial))) (fun q4 => (ok2_bd (fun v5 e6 => (ok2_if (fun q7 => (tk_J_X6_queuesIn_33 g_c (rP_lt k_x3_r08 h2 q4))) (fun q8 => (ok_b2 (t_ofPhase g_c (rP_Q (rP_lt k_x3_r08 h2 q4)) 12 rfl (by decide)) (fun v9 h10 => (tk_J_X6_queuesIn_33 g_c (rP_lt k_x3_r08 h2 q4))))))))))))
theorem tk_P_X6_queuesIn {c0 : mC} {c : mC} (g_c : G c0 c) {x1 : Int32} : ok (fun _ => True) (P_X6_queuesIn c x1) :=
  (ok_wh _ tm_X6_queuesIn_4 (tb_X6_queuesIn_4 g_c) ⟨r08_0, trivial⟩)
theorem hk_J_X6_sets_90 {c0 : mC} {c : mC} (g_c : H c0 c) {s1 : Int32} : ok (fun p : Int32 × mC => H c0 p.2) (J_X6_sets_90 c s1) :=
  (ok_bo (t_gives g_c) (fun v1 h2 => (ok_s h2)))
theorem hk_J_X6_sets_74 {c0 : mC} {c : mC} (g_c : H c0 c) {x1 : Int32} (h_x1_r01 : r01 x1) {x2 : Int32} {x3 : Int32} {x4 : Int32} : ok2 (fun s : Int32 × Int32 × Int32 => True) (fun p : Int32 × mC => H c0 p.2) (J_X6_sets_74 c x1 x2 x3 x4) :=
  (ok2_l trivial)
theorem hk_J_X6_sets_73 {c0 : mC} {c : mC} (g_c : H c0 c) {x1 : Int32} (h_x1_r01 : r01 x1) {x2 : Int32} {x4 : Int32} {s0 : Int32} : ok2 (fun s : Int32 × Int32 × Int32 => True) (fun p : Int32 × mC => H c0 p.2) (J_X6_sets_73 c x1 x2 x4 s0) :=
  (hk_J_X6_sets_74 g_c h_x1_r01)
theorem hk_J_X6_sets_67 {c0 : mC} {c : mC} (g_c : H c0 c) {x1 : Int32} (h_x1_r01 : r01 x1) {x2 : Int32} {x4 : Int32} : ok2 (fun s : Int32 × Int32 × Int32 => True) (fun p : Int32 × mC => H c0 p.2) (J_X6_sets_67 c x1 x2 x4) :=
  (hk_J_X6_sets_73 g_c h_x1_r01)
theorem hb_X6_sets_22 {c0 : mC} {c : mC} (g_c : H c0 c) {x1 : Int32} (h_x1_r01 : r01 x1) : ∀ s : Int32 × Int32 × Int32, (fun s : Int32 × Int32 × Int32 => True) s → ok2 (fun s : Int32 × Int32 × Int32 => True) (fun p : Int32 × mC => H c0 p.2) (B_X6_sets_22 c x1 s) := by
  rintro ⟨x2, x3, x4⟩ ⟨_⟩
  show ok2 (fun s : Int32 × Int32 × Int32 => True) (fun p : Int32 × mC => H c0 p.2) (mBo (α := Int32) (.inr none) (P_X6_of c 0) (fun v1 => (if ((1 : Int32) <<< (v1 &&& 31)) ≤ x4 then (.inr (if x1 = 0 then (J_X6_sets_90 c x2) else (J_X6_sets_90 c x3))) else (mBo (α := Int32) (.inr none) (P_X6_isFull c x4) (fun v3 => (if v3 = 0 then (J_X6_sets_74 c x1 x2 x3 x4) else (if x3 = 0 then (J_X6_sets_67 c x1 (x2 + 1) x4) else (mBo (α := Int32) (.inr none) (P_X6_queuesIn c x4) (fun v4 => (mBo (α := Int32) (.inr none) (P_X6_queuesIn c x3) (fun v5 => (if v4 ≤ v5 then (J_X6_sets_73 c x1 (x2 + 1) x4 x3) else (J_X6_sets_67 c x1 (x2 + 1) x4)))))))))))))
  exact (ok_b2 (t_of0 (G.rf g_c.1)) (fun v1 h2 => (ok2_if (fun q3 => (ok2_r (ok_if (fun q5 => (hk_J_X6_sets_90 g_c)) (fun q6 => (hk_J_X6_sets_90 g_c))))) (fun q4 => (ok_b2 (tk_P_X6_isFull (G.rf g_c.1)) (fun v7 h8 => (ok2_if (fun q9 => (hk_J_X6_sets_74 g_c h_x1_r01)) (fun q10 => (ok2_if (fun q11 => (hk_J_X6_sets_67 g_c h_x1_r01)) (fun q12 => (ok_b2 (tk_P_X6_queuesIn (G.rf g_c.1)) (fun v13 h14 => (ok_b2 (tk_P_X6_queuesIn (G.rf g_c.1)) (fun v15 h16 => (ok2_if (fun q17 => (hk_J_X6_sets_73 g_c h_x1_r01)) (fun q18 => (hk_J_X6_sets_67 g_c h_x1_r01)))))))))))))))))
theorem hk_P_X6_sets {c0 : mC} {c : mC} (g_c : H c0 c) {x1 : Int32} : ok (fun p : Int32 × mC => H c0 p.2) (P_X6_sets c x1) :=
  (ok_bd (fun v1 e2 => (ok_if (fun q3 => (ok_bo (t_refuse g_c) (fun v5 h6 => (ok_s h6)))) (fun q4 => (ok_wh _ tm_X6_sets_22 (hb_X6_sets_22 g_c (isF_01 e2 q4)) trivial)))))
theorem tk_J_X6_isGreenAt_32 {c0 : mC} {c : mC} (g_c : G c0 c) : ok (fun _ => True) (J_X6_isGreenAt_32 c) :=
  (ok_s trivial)
theorem tk_P_X6_isGreenAt {c0 : mC} {c : mC} (g_c : G c0 c) {x1 : Int32} (h_x1_rP : rP x1) : ok (fun _ => True) (P_X6_isGreenAt c x1) :=
  (ok_bo (t_ofP0 g_c h_x1_rP) (fun v1 h2 => (ok_bo (tk_P_X6_isGreen g_c h2) (fun v3 h4 => (ok_if (fun q5 => (tk_J_X6_isGreenAt_32 g_c)) (fun q6 => (ok_bo (t_ofP0 g_c h_x1_rP) (fun v7 h8 => (ok_bo (t_ofR0q g_c h8) (fun v9 h10 => (ok_if (fun q11 => (ok_s trivial)) (fun q12 => (tk_J_X6_isGreenAt_32 g_c)))))))))))))
theorem hk_J_X6_callsOthers_29 {c0 : mC} {c : mC} (g_c : H c0 c) {x1 : Int32} {x2 : Int32} (h_x2_rP : rP x2) : ok2 (fun s : Int32 × mC => r08 (s.1) ∧ H c0 s.2 ∧ True) (H c0) (J_X6_callsOthers_29 c x1 x2) :=
  (ok2_l ⟨(rP_up h_x2_rP), g_c, trivial⟩)
theorem hb_X6_callsOthers_2 {c0 : mC} {x1 : Int32} : ∀ s : Int32 × mC, (fun s : Int32 × mC => r08 (s.1) ∧ H c0 s.2 ∧ True) s → ok2 (fun s : Int32 × mC => r08 (s.1) ∧ H c0 s.2 ∧ True) (H c0) (B_X6_callsOthers_2 x1 s) := by
  rintro ⟨x2, c⟩ ⟨k_x2_r08, g_c, _⟩
  show ok2 (fun s : Int32 × mC => r08 (s.1) ∧ H c0 s.2 ∧ True) (H c0) (mBo (α := Int32) (.inr none) (P_X6_of c 0) (fun v1 => (if v1 ≤ x2 then (.inr (some c)) else (if x2 = x1 then (J_X6_callsOthers_29 c x1 x2) else (mBo (α := Int32) (.inr none) (P_X6_of c 5) (fun v2 => (if v2 = 0 then (mBo (α := mC) (.inr none) (P_X6_calls c x2) (fun c3 => (J_X6_callsOthers_29 c3 x1 x2))) else (J_X6_callsOthers_29 c x1 x2))))))))
  exact (ok_b2 (t_of0 (G.rf g_c.1)) (fun v1 h2 => (ok2_if (fun q3 => (ok2_r (ok_s g_c))) (fun q4 => (ok2_if (fun q7 => (hk_J_X6_callsOthers_29 g_c (rP_lt k_x2_r08 h2 q4))) (fun q8 => (ok_b2 (t_of (G.rf g_c.1) 5 rfl (by decide)) (fun v9 h10 => (ok2_if (fun q11 => (ok_b2 (hk_P_X6_calls g_c (rP_lt k_x2_r08 h2 q4)) (fun v13 h14 => (hk_J_X6_callsOthers_29 h14 (rP_lt k_x2_r08 h2 q4))))) (fun q12 => (hk_J_X6_callsOthers_29 g_c (rP_lt k_x2_r08 h2 q4))))))))))))
theorem hk_P_X6_callsOthers {c0 : mC} {c : mC} (g_c : H c0 c) {x1 : Int32} : ok (H c0) (P_X6_callsOthers c x1) :=
  (ok_wh _ tm_X6_callsOthers_2 (hb_X6_callsOthers_2 ) ⟨r08_0, g_c, trivial⟩)
theorem hb_X6_waitsIn_14 {c0 : mC} {x1 : Int32} {x2 : Int32} : ∀ s : Int32 × mC, (fun s : Int32 × mC => H c0 s.2 ∧ True) s → ok2 (fun s : Int32 × mC => H c0 s.2 ∧ True) (fun p : Int32 × mC => H c0 p.2) (B_X6_waitsIn_14 x1 x2 s) := by
  rintro ⟨x3, c⟩ ⟨g_c, _⟩
  show ok2 (fun s : Int32 × mC => H c0 s.2 ∧ True) (fun p : Int32 × mC => H c0 p.2) (if x1 ≤ x3 then (.inr (mBo (α := Int32) none (P_X6_of c 11) (fun v1 => (mBo (α := mC) none (P_X6_copies c 288 0) (fun c2 => (some ((v1 - x2), c2))))))) else (mBo (α := mC) (.inr none) (P_X6_ticks c 0) (fun c3 => (.inl ((x3 + 1), c3)))))
  exact (ok2_if (fun q1 => (ok2_r (ok_bo (t_of (G.rf g_c.1) 11 rfl (by decide)) (fun v3 h4 => (ok_bo (h_load g_c) (fun v5 h6 => (ok_s h6))))))) (fun q2 => (ok_b2 (h_ticks g_c) (fun v7 h8 => (ok2_l ⟨h8, trivial⟩)))))
theorem hk_P_X6_waitsIn {c0 : mC} {c : mC} (g_c : H c0 c) {x1 : Int32} : ok (fun p : Int32 × mC => H c0 p.2) (P_X6_waitsIn c x1) :=
  (ok_bo (t_of (G.rf g_c.1) 11 rfl (by decide)) (fun v1 h2 => (ok_wh _ tm_X6_waitsIn_14 (hb_X6_waitsIn_14 ) ⟨(H.m g_c (Or.inr (Or.inr (Or.inl rfl)))), trivial⟩)))
theorem hk_J_X6_paper_20 {c0 : mC} {c : mC} (g_c : H c0 c) : ok (fun p : Int32 × mC => H c0 p.2) (J_X6_paper_20 c) :=
  (ok_bo (t_refuse g_c) (fun v1 h2 => (ok_s h2)))
theorem hk_J_X6_paper_53 {c0 : mC} {c : mC} (g_c : H c0 c) {s1 : Int32} : ok (fun p : Int32 × mC => H c0 p.2) (J_X6_paper_53 c s1) :=
  (ok_bo (t_gives g_c) (fun v1 h2 => (ok_s h2)))
theorem hk_P_X6_paper {c0 : mC} {c : mC} (g_c : H c0 c) {x1 : Int32} {x2 : Int32} : ok (fun p : Int32 × mC => H c0 p.2) (P_X6_paper c x1 x2) :=
  (ok_bd (fun v1 e2 => (ok_if (fun q3 => (hk_J_X6_paper_20 g_c)) (fun q4 => (ok_bd (fun v5 e6 => (ok_if (fun q7 => (hk_J_X6_paper_20 g_c)) (fun q8 => (ok_bo (h_save g_c) (fun v9 h10 => (ok_bo (hk_P_X6_waitsIn h10) (fun v11 h12 => (ok_if (fun q13 => (hk_J_X6_paper_53 h12)) (fun q14 => (hk_J_X6_paper_53 h12)))))))))))))))
theorem hk_J_X6_bestMax_90 {c0 : mC} {c : mC} (g_c : H c0 c) {x1 : Int32} (h_x1_rP : rP x1) {x2 : Int32} {x3 : Int32} {x4 : Int32} {x5 : Int32} : ok2 (fun s : Int32 × Int32 × Int32 × mC => H c0 s.2.2.2 ∧ True) (fun p : Int32 × mC => H c0 p.2) (J_X6_bestMax_90 c x1 x2 x3 x4 x5) :=
  (ok2_l ⟨g_c, trivial⟩)
theorem hk_J_X6_bestMax_83 {c0 : mC} {c : mC} (g_c : H c0 c) {x1 : Int32} (h_x1_rP : rP x1) {x2 : Int32} {x5 : Int32} {x6 : Int32} : ok2 (fun s : Int32 × Int32 × Int32 × mC => H c0 s.2.2.2 ∧ True) (fun p : Int32 × mC => H c0 p.2) (J_X6_bestMax_83 c x1 x2 x5 x6) :=
  (hk_J_X6_bestMax_90 g_c h_x1_rP)
theorem hb_X6_bestMax_46 {c0 : mC} {x1 : Int32} (h_x1_rP : rP x1) {x2 : Int32} : ∀ s : Int32 × Int32 × Int32 × mC, (fun s : Int32 × Int32 × Int32 × mC => H c0 s.2.2.2 ∧ True) s → ok2 (fun s : Int32 × Int32 × Int32 × mC => H c0 s.2.2.2 ∧ True) (fun p : Int32 × mC => H c0 p.2) (B_X6_bestMax_46 x1 x2 s) := by
  rintro ⟨x3, x4, x5, c⟩ ⟨g_c, _⟩
  show ok2 (fun s : Int32 × Int32 × Int32 × mC => H c0 s.2.2.2 ∧ True) (fun p : Int32 × mC => H c0 p.2) (if 60 < x5 then (.inr (mBo (α := Int32 × mC) none (P_X6_gives c x3) (fun p1 => (some (p1.1, p1.2))))) else (mBo (α := mC) (.inr none) (P_X6_putsPhase c x1 4 x5) (fun c2 => (mBo (α := Int32 × mC) (.inr none) (P_X6_waitsIn c2 x2) (fun p3 => (if x3 = (-1) then (J_X6_bestMax_83 p3.2 x1 x2 x5 p3.1) else (if p3.1 < x4 then (J_X6_bestMax_83 p3.2 x1 x2 x5 p3.1) else (J_X6_bestMax_90 p3.2 x1 x2 x3 x4 x5))))))))
  exact (ok2_if (fun q1 => (ok2_r (ok_bo (t_gives g_c) (fun v3 h4 => (ok_s h4))))) (fun q2 => (ok_b2 (h_putsP g_c h_x1_rP ⟨4, by decide, by decide, rfl⟩) (fun v5 h6 => (ok_b2 (hk_P_X6_waitsIn h6) (fun v7 h8 => (ok2_if (fun q9 => (hk_J_X6_bestMax_83 h8 h_x1_rP)) (fun q10 => (ok2_if (fun q11 => (hk_J_X6_bestMax_83 h8 h_x1_rP)) (fun q12 => (hk_J_X6_bestMax_90 h8 h_x1_rP)))))))))))
theorem hk_P_X6_bestMax {c0 : mC} {c : mC} (g_c : H c0 c) {x1 : Int32} {x2 : Int32} : ok (fun p : Int32 × mC => H c0 p.2) (P_X6_bestMax c x1 x2) :=
  (ok_bd (fun v1 e2 => (ok_if (fun q3 => (ok_bo (t_refuse g_c) (fun v5 h6 => (ok_s h6)))) (fun q4 => (ok_bo (t_isPhase g_c.1) (fun v7 h8 => (ok_if (fun q9 => (ok_bo (t_refuse g_c) (fun v11 h12 => (ok_s h12)))) (fun q10 => (ok_bo (h_save g_c) (fun v13 h14 => (ok_wh _ tm_X6_bestMax_46 (hb_X6_bestMax_46 (h8 q10)) ⟨h14, trivial⟩)))))))))))
theorem hk_J_X6_cheapest_87 {c0 : mC} {c : mC} (g_c : H c0 c) {x1 : Int32} {x2 : Int32} (h_x2_rQ : rQ x2) {x3 : Int32} {x4 : Int32} (h_x4_rP : rP x4) : ok2 (fun s : Int32 × Int32 × Int32 × mC => rQ (s.1) ∧ r08 (s.2.2.1) ∧ H c0 s.2.2.2 ∧ True) (fun p : Int32 × mC => H c0 p.2) (J_X6_cheapest_87 c x1 x2 x3 x4) :=
  (ok2_l ⟨h_x2_rQ, (rP_up h_x4_rP), g_c, trivial⟩)
theorem hk_J_X6_cheapest_81 {c0 : mC} {c : mC} (g_c : H c0 c) {x1 : Int32} {x4 : Int32} (h_x4_rP : rP x4) {x5 : Int32} : ok2 (fun s : Int32 × Int32 × Int32 × mC => rQ (s.1) ∧ r08 (s.2.2.1) ∧ H c0 s.2.2.2 ∧ True) (fun p : Int32 × mC => H c0 p.2) (J_X6_cheapest_81 c x1 x4 x5) :=
  (hk_J_X6_cheapest_87 g_c (rP_Q h_x4_rP) h_x4_rP)
theorem hb_X6_cheapest_31 {c0 : mC} {x1 : Int32} : ∀ s : Int32 × Int32 × Int32 × mC, (fun s : Int32 × Int32 × Int32 × mC => rQ (s.1) ∧ r08 (s.2.2.1) ∧ H c0 s.2.2.2 ∧ True) s → ok2 (fun s : Int32 × Int32 × Int32 × mC => rQ (s.1) ∧ r08 (s.2.2.1) ∧ H c0 s.2.2.2 ∧ True) (fun p : Int32 × mC => H c0 p.2) (B_X6_cheapest_31 x1 s) := by
  rintro ⟨x2, x3, x4, c⟩ ⟨k_x2_rQ, k_x4_r08, g_c, _⟩
  show ok2 (fun s : Int32 × Int32 × Int32 × mC => rQ (s.1) ∧ r08 (s.2.2.1) ∧ H c0 s.2.2.2 ∧ True) (fun p : Int32 × mC => H c0 p.2) (mBo (α := Int32) (.inr none) (P_X6_of c 0) (fun v1 => (if v1 ≤ x4 then (.inr (if x2 = (-1) then (mBo (α := Int32 × mC) none (P_X6_refuse c 5) (fun p2 => (some (p2.1, p2.2)))) else (mBo (α := Int32 × mC) none (P_X6_gives c x2) (fun p3 => (some (p3.1, p3.2)))))) else (mBo (α := Int32) (.inr none) (P_X6_ofPhase c x4 12) (fun v5 => (mBo (α := mC) (.inr none) (P_X6_putsPhase c x4 12 (v5 + 10)) (fun c6 => (mBo (α := Int32 × mC) (.inr none) (P_X6_waitsIn c6 x1) (fun p7 => (if x2 = (-1) then (J_X6_cheapest_81 p7.2 x1 x4 p7.1) else (if p7.1 < x3 then (J_X6_cheapest_81 p7.2 x1 x4 p7.1) else (J_X6_cheapest_87 p7.2 x1 x2 x3 x4))))))))))))
  exact (ok_b2 (t_of0 (G.rf g_c.1)) (fun v1 h2 => (ok2_if (fun q3 => (ok2_r (ok_if (fun q5 => (ok_bo (t_refuse g_c) (fun v7 h8 => (ok_s h8)))) (fun q6 => (ok_bo (t_gives g_c) (fun v9 h10 => (ok_s h10))))))) (fun q4 => (ok_b2 (t_ofPhase (G.rf g_c.1) (rP_Q (rP_lt k_x4_r08 h2 q4)) 12 rfl (by decide)) (fun v11 h12 => (ok_b2 (h_putsP g_c (rP_lt k_x4_r08 h2 q4) ⟨12, by decide, by decide, rfl⟩) (fun v13 h14 => (ok_b2 (hk_P_X6_waitsIn h14) (fun v15 h16 => (ok2_if (fun q17 => (hk_J_X6_cheapest_81 h16 (rP_lt k_x4_r08 h2 q4))) (fun q18 => (ok2_if (fun q19 => (hk_J_X6_cheapest_81 h16 (rP_lt k_x4_r08 h2 q4))) (fun q20 => (hk_J_X6_cheapest_87 h16 k_x2_rQ (rP_lt k_x4_r08 h2 q4))))))))))))))))
theorem hk_P_X6_cheapest {c0 : mC} {c : mC} (g_c : H c0 c) {x1 : Int32} : ok (fun p : Int32 × mC => H c0 p.2) (P_X6_cheapest c x1) :=
  (ok_bd (fun v1 e2 => (ok_if (fun q3 => (ok_bo (t_refuse g_c) (fun v5 h6 => (ok_s h6)))) (fun q4 => (ok_bo (h_save g_c) (fun v7 h8 => (ok_wh _ tm_X6_cheapest_31 (hb_X6_cheapest_31 ) ⟨rQ_m, r08_0, h8, trivial⟩)))))))
theorem t_ofRing_w {c0 c : mC} (h : G c0 c) {x y : Int32} (hx : r01 x) (hy : ∃ w, w < 8 ∧ y = nI w) : ok (fun _ => True) (P_X6_ofRing c x y) := by
  obtain ⟨w, hw, rfl⟩ := hy
  exact ok_mo (t_ofRing h hx w rfl hw) (fun _ _ => trivial)
theorem w_lt {x : Int32} {m : Nat} (hm : m ≤ 8) (h : ∃ w, w ≤ 9 ∧ x = nI w) (hn : ¬ nI m ≤ x) : ∃ w, w < 8 ∧ x = nI w := by
  obtain ⟨w, hw, rfl⟩ := h
  have : ¬ m ≤ w := fun z => hn ((nI_leI (by omega) (by omega)).mpr z)
  exact ⟨w, by omega, rfl⟩
theorem hk_fault {c : mC} {x : Int32} : ok (fun _ => True) (P_X6_fault c x) := ok_if (fun _ => ok_s trivial) (fun _ => ok_if (fun _ => ok_s trivial) (fun _ => ok_if (fun _ => ok_s trivial) (fun _ => ok_s trivial)))
theorem hk_ring117 {c0 c : mC} (h : H c0 c) {s : Int32} : ok (fun p : Int32 × mC => H c0 p.2) (J_X6_ring__117 c s) := ok_bo (t_gives h) (fun p h => ok_s h)
theorem hk_P_X6_ring_ {c0 c : mC} (h : H c0 c) {x1 x2 : Int32} : ok (fun p : Int32 × mC => H c0 p.2) (P_X6_ring_ c x1 x2) :=
  ok_bd (fun v1 e1 => ok_if (fun _ => ok_bo (t_refuse h) (fun p h => ok_s h)) (fun n1 => ok_bd (fun v3 e3 => ok_if (fun _ => ok_bo (t_refuse h) (fun p h => ok_s h)) (fun n3 =>
    have g := G.rf h.1
    have r := isF_01 e3 n3
    have w := isF_w (b := 9) (by decide) e1 n1
    ok_if (fun _ => ok_bo (tk_P_X6_isGreen g r) (fun v5 _ => ok_if (fun _ => ok_bo (t_gives h) (fun p h => ok_s h)) (fun _ => ok_if (fun _ => ok_if (fun _ => ok_bo (tk_P_X6_isDone g r) (fun v7 _ => ok_if (fun _ => hk_ring117 h) (fun _ => hk_ring117 h))) (fun _ => ok_bo (t_ofR0q g r) (fun v9 h9 => ok_bo (tk_P_X6_isForced g h9) (fun v10 _ => ok_if (fun _ => hk_ring117 h) (fun _ => hk_ring117 h))))) (fun n8 => ok_bo (t_ofRing_w g r (w_lt (m := 8) (by decide) w n8)) (fun v13 _ => hk_ring117 h)))))
      (fun n4 => ok_bo (t_ofRing_w g r (w_lt (m := 4) (by decide) w n4)) (fun v16 _ => ok_bo (t_gives h) (fun p h => ok_s h)))))))
theorem ev_sub (x y : Int32) : (x + 1 + y) - 1 - x = y := by
  rw [Int32.add_assoc, Int32.add_comm 1 y, ← Int32.add_assoc, Int32.add_sub_cancel, Int32.add_comm x y, Int32.add_sub_cancel]
theorem hk_P_X6_event {c0 c : mC} (h : H c0 c) {x1 x2 : Int32} : ok (fun p : Int32 × mC => H c0 p.2) (P_X6_event c x1 x2) := by
  have g := G.rf h.1
  have rf : ∀ {s : Int32}, ok (fun p : Int32 × mC => H c0 p.2) (mBo (α := Int32 × mC) none (P_X6_refuse c s) (fun p1 => (some (p1.1, p1.2)))) := ok_bo (t_refuse h) (fun p h => ok_s h)
  refine ok_bd (fun v1 e1 => ok_if (fun _ => rf) (fun n1 => ok_bd (fun v2 e2 => ok_if (fun _ => rf) (fun n2 => ok_bo (t_of g 12 rfl (by decide)) (fun v3 h3 => ok_if (fun _ => rf) (fun n3 => ok_bo (t_of g 12 rfl (by decide)) (fun v5 h5 => ?_)))))))
  obtain ⟨a, ha, rfl⟩ := isF_w (b := 31) (by decide) e1 n1
  obtain ⟨b, hb, rfl⟩ := isF_w (b := 2) (by decide) e2 n2
  obtain ⟨p, hp, e⟩ := h.1.2.2.2.1
  rw [e] at h3 h5
  subst h3 h5
  have hlt : a < p := by
    have : ¬ p ≤ a := fun z => n3 ((nI_leI (by omega) (by omega)).mpr z)
    omega
  obtain ⟨q, rfl⟩ : ∃ q, p = a + 1 + q := ⟨p - (a + 1), by omega⟩
  have es : nI (a + 1 + q) - 1 - nI a = nI q := by
    rw [← nI_add, ← nI_add]
    exact ev_sub (nI a) (nI q)
  rw [es, ev_n, nI_add]
  exact ok_bo (t_of g (192 + 3 * q + b) rfl (by omega)) (fun v6 _ => ok_bo (t_gives h) (fun p h => ok_s h))
theorem hk_clock87 {c0 c : mC} (h : H c0 c) {s : Int32} : ok (fun p : Int32 × mC => H c0 p.2) (J_X6_clock_87 c s) := ok_bo (t_gives h) (fun p h => ok_s h)
theorem hk_clock84 {c0 c : mC} (h : H c0 c) {x s : Int32} : ok (fun p : Int32 × mC => H c0 p.2) (J_X6_clock_84 c x 4 s) := ok_bo (h_puts h 4 rfl (by decide) (by decide) (by intro q hq; omega)) (fun c1 h1 => hk_clock87 h1)
theorem hk_clock36 {c0 c : mC} (h : H c0 c) {x1 x2 : Int32} (hx : r01 x1) : ok (fun p : Int32 × mC => H c0 p.2) (J_X6_clock_36 c x1 x2) := by
  have key : ∀ k, (k = 2 ∨ k = 3) → (2 : Int32) + x1 = nI k → ok (fun p : Int32 × mC => H c0 p.2) (J_X6_clock_36 c x1 x2) := fun k hk e =>
    ok_bo (t_of (G.rf h.1) k e (by omega)) (fun v1 _ => ok_if (fun _ => ok_bo (t_refuse h) (fun p h => ok_s h)) (fun _ => ok_bo (h_puts h k e (by omega) (by omega) (by intro q hq; omega)) (fun c3 h3 => ok_if (fun _ => ok_if (fun _ => hk_clock84 h3) (fun n2 => ok_bo (t_of (G.rf h3.1) 4 rfl (by decide)) (fun v4 _ => ok_if (fun z => absurd z n2) (fun _ => hk_clock84 h3)))) (fun _ => hk_clock87 h3))))
  rcases hx with rfl | rfl
  · exact key 2 (Or.inl rfl) rfl
  · exact key 3 (Or.inr rfl) rfl
theorem hk_P_X6_clock {c0 c : mC} (h : H c0 c) {x1 x2 : Int32} : ok (fun p : Int32 × mC => H c0 p.2) (P_X6_clock c x1 x2) := by
  have rf : ok (fun p : Int32 × mC => H c0 p.2) (J_X6_clock_30 c) := ok_bo (t_refuse h) (fun p h => ok_s h)
  exact ok_if (fun q => ok_bd (fun v1 _ => ok_if (fun _ => rf) (fun _ => hk_clock36 h (Or.inl q)))) (fun _ => ok_if (fun q => ok_bd (fun v1 _ => ok_if (fun _ => rf) (fun _ => hk_clock36 h (Or.inr q)))) (fun _ => rf))
theorem h_putsB {c0 c : mC} (h : H c0 c) {x y v : Int32} (hx : r01 x) (w : Nat) (hw : w < 5) (hy : y = nI w) : ok (H c0) (P_X6_puts c (((176 : Int32) + ((5 : Int32) * x)) + y) v) := by
  subst hy
  rcases hx with rfl | rfl
  · exact h_puts h (176 + w) (by rw [show (176 : Int32) + (5 : Int32) * 0 = nI 176 from by decide, nI_add]) (by omega) (by omega) (by intro q hq; omega)
  · exact h_puts h (181 + w) (by rw [show (176 : Int32) + (5 : Int32) * 1 = nI 181 from by decide, nI_add]) (by omega) (by omega) (by intro q hq; omega)
theorem hk_P_X6_brakes {c0 c : mC} (h : H c0 c) {x1 x2 x3 x4 x5 x6 : Int32} : ok (fun p : Int32 × mC => H c0 p.2) (P_X6_brakes c x1 x2 x3 x4 x5 x6) := by
  have g := G.rf h.1
  have so : ∀ {m : mC} {s : Int32}, H c0 m → ok (fun p : Int32 × mC => H c0 p.2) (mBo (α := Int32 × mC) none (P_X6_isSo m s) (fun p1 => (some (p1.1, p1.2)))) := fun h => ok_bo (t_isSo h) (fun p h => ok_s h)
  have j49 : ok (fun p : Int32 × mC => H c0 p.2) (J_X6_brakes_49 c) := so h
  have j103 : ok (fun p : Int32 × mC => H c0 p.2) (J_X6_brakes_103 c) := so h
  exact ok_bo (tk_P_X6_isSet g) (fun v1 _ => ok_if (fun _ => j49) (fun _ => ok_bo (tk_P_X6_isSet g) (fun v2 _ => ok_if (fun _ => j49) (fun _ => ok_bd (fun v3 _ => ok_if (fun _ => j49) (fun _ => ok_bd (fun v4 _ => ok_if (fun _ => j49) (fun _ => ok_bd (fun v5 _ => ok_if (fun _ => j49) (fun _ => ok_bd (fun v6 e6 => ok_if (fun _ => so h) (fun n6 => ok_bo (t_of7 g) (fun v8 _ => ok_if (fun _ => so h) (fun _ => ok_bo (tk_P_X6_isPeace g) (fun v10 _ => ok_if (fun _ => j103) (fun _ => ok_bo (tk_P_X6_isPeace g) (fun v11 _ => ok_if (fun _ => j103) (fun _ => ok_bo (h_putsB h (isF_01 e6 n6) 0 (by decide) rfl) (fun c12 h => ok_bo (h_putsB h (isF_01 e6 n6) 1 (by decide) rfl) (fun c13 h => ok_bo (h_putsB h (isF_01 e6 n6) 2 (by decide) rfl) (fun c14 h => ok_bo (h_putsB h (isF_01 e6 n6) 3 (by decide) rfl) (fun c15 h => ok_bo (h_putsB h (isF_01 e6 n6) 4 (by decide) rfl) (fun c16 h => so h)))))))))))))))))))))))
theorem tk_isReached {c : mC} (h : St c) {x1 x2 : Int32} (hr : x1 = 0 ∨ x1 = 1 → rP x2) (h3 : x1 = 3 → ¬ c 21 2 = 0) : ok (fun _ => True) (P_X6_isReached c x1 x2) :=
  have g := G.rf h
  ok_if (fun q => ok_bo (tk_P_X6_isGreenAt g (hr (Or.inl q))) (fun _ _ => ok_s trivial)) (fun _ => ok_if (fun q => ok_bo (tk_P_X6_isGreenAt g (hr (Or.inr q))) (fun _ _ => ok_s trivial)) (fun _ => ok_if (fun _ => ok_bo (tk_P_X6_queues g) (fun _ _ => ok_if (fun _ => ok_s trivial) (fun _ => ok_s trivial))) (fun _ => ok_if (fun q => ok_bo (t_due h (h3 q)) (fun _ _ => ok_bo (t_of g 4 rfl (by decide)) (fun _ _ => ok_if (fun _ => ok_s trivial) (fun _ => ok_s trivial)))) (fun _ => ok_bo (t_of7 g) (fun _ _ => ok_if (fun _ => ok_bo (t_of g 8 rfl (by decide)) (fun _ _ => ok_if (fun _ => ok_s trivial) (fun _ => ok_bo (t_of g 8 rfl (by decide)) (fun _ _ => ok_if (fun _ => ok_s trivial) (fun _ => ok_s trivial))))) (fun _ => ok_s trivial))))))
theorem hk_reaches86 {c0 c : mC} (h : H c0 c) {x1 x2 x3 : Int32} (hr : x1 = 0 ∨ x1 = 1 → rP x2) (h3 : x1 = 3 → ¬ c 21 2 = 0) : ok (fun p : Int32 × mC => H c0 p.2) (J_X6_reaches_86 c x1 x2 x3) :=
  ok_bo (tk_isReached h.1 hr h3) (fun _ _ => ok_bo (h_load h) (fun c2 h2 => ok_if (fun _ => ok_bo (t_refuse h2) (fun p h => ok_s h)) (fun _ => ok_bo (t_gives h2) (fun p h => ok_s h))))
theorem hk_reaches47 {c0 c : mC} (h : H c0 c) {x1 x2 : Int32} (hr : x1 = 0 ∨ x1 = 1 → rP x2) (h3 : x1 = 3 → ¬ c 21 2 = 0) : ok (fun p : Int32 × mC => H c0 p.2) (J_X6_reaches_47 c x1 x2) := by
  refine ok_wh (fun s : Int32 × mC => H c0 s.2 ∧ (x1 = 3 → ¬ s.2 21 2 = 0)) tm_X6_reaches_49 ?_ ⟨h, h3⟩
  rintro ⟨x3, c⟩ ⟨h, h3⟩
  have j75 : ∀ {m : mC}, H c0 m → (x1 = 3 → ¬ m 21 2 = 0) → ok2 (fun s : Int32 × mC => H c0 s.2 ∧ (x1 = 3 → ¬ s.2 21 2 = 0)) (fun p : Int32 × mC => H c0 p.2) (J_X6_reaches_75 m x1 x2 x3) := fun h h3 => ok_b2 (t_ticks h.1) (fun c1 z => ok2_l ⟨h.k z, fun q w => h3 q ((z.kept (k := 2) rfl (by decide) (by decide)).symm.trans w)⟩)
  show ok2 _ _ (if 600 ≤ x3 then _ else _)
  exact ok2_if (fun _ => ok2_r (hk_reaches86 h hr h3)) (fun _ => ok_b2 (tk_isReached h.1 hr h3) (fun v1 _ => ok2_if (fun _ => ok2_if (fun q => ok_b2 (hk_P_X6_callsOthers h) (fun c2 h2 => j75 h2 (fun z => absurd (q.symm.trans z) (by decide)))) (fun _ => j75 h h3)) (fun _ => ok2_r (hk_reaches86 h hr h3))))
theorem hk_reaches26 {c0 c : mC} (h : H c0 c) {x1 x2 : Int32} (hr : x1 = 0 ∨ x1 = 1 → rP x2) (h3 : x1 = 3 → ¬ c 21 2 = 0) : ok (fun p : Int32 × mC => H c0 p.2) (J_X6_reaches_26 c x1 x2) :=
  ok_if (fun q => ok_bo (t_of (G.rf h.1) 10 rfl (by decide)) (fun _ _ => ok_bo (h_puts h 10 rfl (by decide) (by decide) (by intro q hq; omega)) (fun c2 h2 => hk_reaches47 h2 hr (fun z => absurd (q.symm.trans z) (by decide))))) (fun _ => hk_reaches47 h hr h3)
theorem hk_reaches {c0 c : mC} (h : H c0 c) {x1 x2 : Int32} (hr : x1 = 0 ∨ x1 = 1 → rP x2) (h3 : x1 = 3 → ¬ c 21 2 = 0) : ok (fun p : Int32 × mC => H c0 p.2) (P_X6_reaches c x1 x2) := by
  obtain ⟨c1, e1, h1⟩ := h_save h
  have e : P_X6_copies c (nI 0) (nI 288) = some (cpC c 0 288 288) := copies_eq c (a := 0) (b := 288) (by decide) (by decide) (by decide)
  have ec : c1 = cpC c 0 288 288 := Option.some.inj (e1.symm.trans e)
  have h2 : x1 = 3 → ¬ c1 21 2 = 0 := fun q => by
    rw [ec]
    show ¬ (if 21 = 21 ∧ 288 ≤ 2 ∧ 2 < 288 + 288 then _ else c 21 2) = 0
    rw [if_neg (by omega)]; exact h3 q
  refine ok_bo (P := fun m => m = c1) ⟨c1, e1, rfl⟩ (fun m hm => ?_)
  subst hm
  exact ok_if (fun q => ok_bo (t_of (G.rf h1.1) 5 rfl (by decide)) (fun _ _ => ok_if (fun _ => ok_bo (hk_P_X6_calls h1 (hr (Or.inr q))) (fun c3 h3 => hk_reaches26 h3 hr (fun z => absurd (q.symm.trans z) (by decide)))) (fun _ => hk_reaches26 h1 hr h2))) (fun _ => hk_reaches26 h1 hr h2)
theorem hk_P_X6_when {c0 c : mC} (h : H c0 c) {x1 : Int32} : ok (fun p : Int32 × mC => H c0 p.2) (P_X6_when c x1) :=
  ok_bo (t_isPhase h.1) (fun v hv => ok_if (fun _ => ok_bo (t_refuse h) (fun p h => ok_s h)) (fun n => ok_bo (hk_reaches h (fun _ => hv n) (fun z => absurd z (by decide))) (fun p h => ok_s h)))
theorem hk_P_X6_worst {c0 c : mC} (h : H c0 c) {x1 : Int32} : ok (fun p : Int32 × mC => H c0 p.2) (P_X6_worst c x1) :=
  ok_bo (t_isPhase h.1) (fun v hv => ok_if (fun _ => ok_bo (t_refuse h) (fun p h => ok_s h)) (fun n => ok_bo (hk_reaches h (fun _ => hv n) (fun z => absurd z (by decide))) (fun p h => ok_s h)))
theorem hk_P_X6_cleared {c0 c : mC} (h : H c0 c) : ok (fun p : Int32 × mC => H c0 p.2) (P_X6_cleared c) :=
  ok_bo (hk_reaches h (fun z => absurd z (by decide)) (fun z => absurd z (by decide))) (fun p h => ok_s h)
theorem hk_P_X6_instep {c0 c : mC} (h : H c0 c) : ok (fun p : Int32 × mC => H c0 p.2) (P_X6_instep c) :=
  ok_bo (t_of (G.rf h.1) 2 rfl (by decide)) (fun v hv => ok_if (fun _ => ok_bo (t_refuse h) (fun p h => ok_s h)) (fun n => ok_bo (hk_reaches h (fun z => absurd z (by decide)) (fun _ z => n (hv.trans z))) (fun p h => ok_s h)))
theorem hk_P_X6_broken {c0 c : mC} (h : H c0 c) {x1 : Int32} : ok (fun p : Int32 × mC => H c0 p.2) (P_X6_broken c x1) :=
  ok_bd (fun v1 e1 => ok_if (fun _ => ok_bo (t_refuse h) (fun p h => ok_s h)) (fun n1 => ok_bo (hk_reaches h (fun z => absurd z (by decide)) (fun z => absurd z (by decide))) (fun p h => ok_s h)))
theorem keep_3 {c : mC} (e : c 20 2 = nI 3) : P_X6_keep c = some (-1, mP c 20 1 3) := by
  unfold P_X6_keep
  rw [if_pos (show c 20 2 = 3 from e)]
  rfl
theorem mk_n (k : Nat) : (576 : Int32) + (288 : Int32) * nI k = nI (576 + 288 * k) := by
  show nI 576 + nI 288 * nI k = _
  rw [show nI 288 * nI k = nI (288 * k) from (Int32.ofNat_mul 288 k).symm, nI_add]
theorem keep_n {c : mC} {k : Nat} (hk : k < 3) (e : c 20 2 = nI k) : P_X6_keep c = some (nI (k + 1), mP (mP (cpC c 0 (576 + 288 * k) 288) 20 2 (nI (k + 1))) 20 1 0) := by
  have hn : ¬ c 20 2 = 3 := by
    rw [e]
    have : k = 0 ∨ k = 1 ∨ k = 2 := by omega
    rcases this with rfl | rfl | rfl <;> decide
  have e2 : cpC c 0 (576 + 288 * k) 288 20 2 = nI k := e
  unfold P_X6_keep
  rw [if_neg hn, e, mk_n, show (0 : Int32) = nI 0 from rfl, copies_eq c (a := 0) (b := 576 + 288 * k) (by omega) (by omega) (by omega)]
  simp only [mBo]
  rw [e2, show nI k + 1 = nI (k + 1) from nI_1 k]
  rfl
theorem back_0 {c : mC} (e : c 20 2 = nI 0) : P_X6_back c = some (-1, mP c 20 1 5) := by
  unfold P_X6_back
  rw [if_pos (show c 20 2 = 0 from e)]
  rfl
theorem back_n {c : mC} {i : Nat} (hi : i < 3) (e : c 20 2 = nI (i + 1)) : P_X6_back c = some (nI i, mP (cpC (mP c 20 2 (nI i)) (576 + 288 * i) 0 288) 20 1 0) := by
  have hn : ¬ c 20 2 = 0 := by
    rw [e]
    have : i = 0 ∨ i = 1 ∨ i = 2 := by omega
    rcases this with rfl | rfl | rfl <;> decide
  have e1 : nI (i + 1) - 1 = nI i := by
    rw [← nI_1, Int32.add_sub_cancel]
  have e2 : mP c 20 2 (nI i) 20 2 = nI i := rfl
  unfold P_X6_back
  rw [if_neg hn, e, e1, e2, mk_n, show (0 : Int32) = nI 0 from rfl, copies_eq (mP c 20 2 (nI i)) (a := 576 + 288 * i) (b := 0) (by omega) (by omega) (by omega)]
  rfl
/-- the reference's state between calls -/
def Inv (k : Nat) (c : mC) : Prop := St c ∧ Sp c ∧ k ≤ 3 ∧ c 20 2 = nI k ∧ ∀ i, i < k → Sr (fun q => c 21 (576 + 288 * i + q))
theorem Inv.h {k : Nat} {c c' : mC} (h : Inv k c) (z : H c c') : Inv k c' := by
  obtain ⟨_, _, h3, h4, h5⟩ := h
  obtain ⟨z1, z2, z3, z4, z5⟩ := z
  exact ⟨z1, z2, h3, (z5 2 (by decide) (by decide) (by decide) (by decide)).trans h4, fun i hi => (h5 i hi).congr (fun q _ => z3 _ (by omega))⟩
theorem Inv.hh {k : Nat} {c : mC} (h : Inv k c) : H c c := H.rf h.1 h.2.1
theorem Inv.keep {k : Nat} {c : mC} (h : Inv k c) (hk : k < 3) : Inv (k + 1) (mP (mP (cpC c 0 (576 + 288 * k) 288) 20 2 (nI (k + 1))) 20 1 0) := by
  obtain ⟨h1, h2, h3, h4, h5⟩ := h
  have cell : ∀ q, (mP (mP (cpC c 0 (576 + 288 * k) 288) 20 2 (nI (k + 1))) 20 1 0) 21 q = if 21 = 21 ∧ 576 + 288 * k ≤ q ∧ q < 576 + 288 * k + 288 then c 21 (0 + (q - (576 + 288 * k))) else c 21 q := fun q => rfl
  refine ⟨Sr.to ((Sr.of h1).congr (fun q hq => ?_)), h2.congr (fun q hq => ?_), by omega, rfl, fun i hi => ?_⟩
  · rw [cell, if_neg (by omega)]
  · rw [cell, if_neg (by omega)]
  · by_cases e : i = k
    · subst e
      refine (Sr.of h1).congr (fun q hq => ?_)
      show (mP (mP (cpC c 0 (576 + 288 * i) 288) 20 2 (nI (i + 1))) 20 1 0) 21 (576 + 288 * i + q) = _
      rw [cell, if_pos (by omega), show 0 + (576 + 288 * i + q - (576 + 288 * i)) = q from by omega]
    · refine (h5 i (by omega)).congr (fun q hq => ?_)
      show (mP (mP (cpC c 0 (576 + 288 * k) 288) 20 2 (nI (k + 1))) 20 1 0) 21 (576 + 288 * i + q) = _
      rw [cell, if_neg (by omega)]
theorem Inv.back {i : Nat} {c : mC} (h : Inv (i + 1) c) : Inv i (mP (cpC (mP c 20 2 (nI i)) (576 + 288 * i) 0 288) 20 1 0) := by
  obtain ⟨h1, h2, h3, h4, h5⟩ := h
  have cell : ∀ q, (mP (cpC (mP c 20 2 (nI i)) (576 + 288 * i) 0 288) 20 1 0) 21 q = if 21 = 21 ∧ 0 ≤ q ∧ q < 0 + 288 then c 21 (576 + 288 * i + (q - 0)) else c 21 q := fun q => rfl
  refine ⟨Sr.to ((h5 i (by omega)).congr (fun q hq => ?_)), h2.congr (fun q hq => ?_), by omega, rfl, fun j hj => ?_⟩
  · rw [cell, if_pos (by omega), Nat.sub_zero]
  · rw [cell, if_neg (by omega)]
  · refine (h5 j (by omega)).congr (fun q hq => ?_)
    show (mP (cpC (mP c 20 2 (nI i)) (576 + 288 * i) 0 288) 20 1 0) 21 (576 + 288 * j + q) = _
    rw [cell, if_neg (by omega)]

