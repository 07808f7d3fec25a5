/-! The reference's simple rows leave CLOCK -/
def HD (c0 c : mC) : Prop := St c ∧ H c0 c ∧ c 21 4 = c0 21 4
theorem HD.rf {c : mC} (h : H c c) : HD c c := ⟨h.1, h, rfl⟩
theorem HD.g {c0 c c' : mC} (h : HD c0 c) (g : G c c') : HD c0 c' := ⟨g.1, h.2.1.g g, (g.2.1 4 rfl).trans h.2.2⟩
theorem HD.up {c0 c : mC} {o : Option mC} (h : HD c0 c) (k : ok (G c) o) : ok (HD c0) o := ok_mo k (fun _ z => h.g z)
theorem HD.m {c0 c : mC} {k : Nat} {v : Int32} (h : HD c0 c) (hk : k = 1 ∨ k = 3 ∨ k = 4 ∨ k = 5) : HD c0 (mP c 20 k v) := ⟨h.1, h.2.1.m hk, h.2.2⟩
theorem HD.w {c0 c : mC} {k : Nat} {v : Int32} (h : HD c0 c) (hk : k < 288) (h0 : k ≠ 0 ∧ k ≠ 16 ∧ k ≠ 19 ∧ k ≠ 24 ∧ k ≠ 27 ∧ k ≠ 12 ∧ k ≠ 7) (hr : ∀ p, p < 8 → k ≠ 32 + 18 * p) (hs : 4 ≠ k) : HD c0 (mP c 21 k v) := by
  have a := h.2.1.w (v := v) hk h0 hr
  refine ⟨a.1, a, ?_⟩
  rw [rd21, if_neg hs]
  exact h.2.2
theorem hD_puts {c0 c : mC} (h : HD c0 c) {x v : Int32} (k : Nat) (hx : x = nI k) (hk : k < 288) (h0 : k ≠ 0 ∧ k ≠ 16 ∧ k ≠ 19 ∧ k ≠ 24 ∧ k ≠ 27 ∧ k ≠ 12 ∧ k ≠ 7) (hr : ∀ p, p < 8 → k ≠ 32 + 18 * p) (hs : 4 ≠ k := by decide) : ok (HD c0) (P_X6_puts c x v) := by
  rw [hx, puts_n (by omega)]
  exact ok_s (h.w hk h0 hr hs)
theorem hD_putsP {c0 c : mC} (h : HD c0 c) {x : Int32} (hx : rP x) {y v : Int32} (hy : ∃ w, 2 ≤ w ∧ w < 18 ∧ y = nI w) : ok (HD c0) (P_X6_putsPhase c x y v) := by
  obtain ⟨w, hw2, hw, rfl⟩ := hy
  obtain ⟨p, hp, rfl⟩ := hx
  rw [putsP_n hp hw]
  exact ok_s (h.w (by omega) (by omega) (by intro q hq; omega) (by omega))
theorem hD_putsB {c0 c : mC} (h : HD c0 c) {x y v : Int32} (hx : r01 x) (w : Nat) (hw : w < 5) (hy : y = nI w) : ok (HD c0) (P_X6_puts c (((176 : Int32) + ((5 : Int32) * x)) + y) v) := by
  subst hy
  rcases hx with rfl | rfl
  · exact hD_puts h (176 + w) (by rw [show (176 : Int32) + (5 : Int32) * 0 = nI 176 from by decide, nI_add]) (by omega) (by omega) (by intro q hq; omega) (by omega)
  · exact hD_puts h (181 + w) (by rw [show (176 : Int32) + (5 : Int32) * 1 = nI 181 from by decide, nI_add]) (by omega) (by omega) (by intro q hq; omega) (by omega)
theorem tD_gives {c0 c : mC} (h : HD c0 c) {x : Int32} : ok (fun p : Int32 × mC => HD c0 p.2) (P_X6_gives c x) := ok_s (h.m (Or.inl rfl))
theorem tD_refuse {c0 c : mC} (h : HD c0 c) {x : Int32} : ok (fun p : Int32 × mC => HD c0 p.2) (P_X6_refuse c x) := ok_s (h.m (Or.inl rfl))
theorem tD_isSo {c0 c : mC} (h : HD c0 c) {x : Int32} : ok (fun p : Int32 × mC => HD c0 p.2) (P_X6_isSo c x) := ok_if (fun _ => ok_s (h.m (Or.inl rfl))) (fun _ => ok_s (h.m (Or.inl rfl)))
theorem hD_P_X6_many {c0 : mC} {c : mC} (g_c : HD c0 c) {x1 : Int32} : ok (fun p : Int32 × mC => HD c0 p.2) (P_X6_many c x1) :=
  (ok_bd (fun v1 e2 => (ok_if (fun q3 => (ok_if (fun q5 => (ok_bo (tD_gives g_c) (fun v7 h8 => (ok_s h8)))) (fun q6 => (ok_bo (tD_refuse g_c) (fun v9 h10 => (ok_s h10)))))) (fun q4 => (ok_bo (t_of_w (G.rf g_c.1) (isF_w (b := 10) (by decide) e2 q4)) (fun v11 h12 => (ok_bo (tD_gives g_c) (fun v13 h14 => (ok_s h14)))))))))
theorem hD_ring117 {c0 c : mC} (h : HD c0 c) {s : Int32} : ok (fun p : Int32 × mC => HD c0 p.2) (J_X6_ring__117 c s) := ok_bo (tD_gives h) (fun p h => ok_s h)
theorem hD_P_X6_ring_ {c0 c : mC} (h : HD c0 c) {x1 x2 : Int32} : ok (fun p : Int32 × mC => HD c0 p.2) (P_X6_ring_ c x1 x2) :=
  ok_bd (fun v1 e1 => ok_if (fun _ => ok_bo (tD_refuse h) (fun p h => ok_s h)) (fun n1 => ok_bd (fun v3 e3 => ok_if (fun _ => ok_bo (tD_refuse h) (fun p h => ok_s h)) (fun n3 =>
    have g := G.rf h.1
    have r := isF_01 e3 n3
    have w := isF_w (b := 9) (by decide) e1 n1
    ok_if (fun _ => ok_bo (tk_P_X6_isGreen g r) (fun v5 _ => ok_if (fun _ => ok_bo (tD_gives h) (fun p h => ok_s h)) (fun _ => ok_if (fun _ => ok_if (fun _ => ok_bo (tk_P_X6_isDone g r) (fun v7 _ => ok_if (fun _ => hD_ring117 h) (fun _ => hD_ring117 h))) (fun _ => ok_bo (t_ofR0q g r) (fun v9 h9 => ok_bo (tk_P_X6_isForced g h9) (fun v10 _ => ok_if (fun _ => hD_ring117 h) (fun _ => hD_ring117 h))))) (fun n8 => ok_bo (t_ofRing_w g r (w_lt (m := 8) (by decide) w n8)) (fun v13 _ => hD_ring117 h)))))
      (fun n4 => ok_bo (t_ofRing_w g r (w_lt (m := 4) (by decide) w n4)) (fun v16 _ => ok_bo (tD_gives h) (fun p h => ok_s h)))))))
theorem hD_J_X6_phase_123 {c0 : mC} {c : mC} (g_c : HD c0 c) {s1 : Int32} (h_s1_r01 : r01 s1) : ok (fun p : Int32 × mC => HD c0 p.2) (J_X6_phase_123 c s1) :=
  (ok_bo (tD_gives g_c) (fun v1 h2 => (ok_s h2)))
theorem hD_J_X6_phase_141 {c0 : mC} {c : mC} (g_c : HD c0 c) {s1 : Int32} (h_s1_r01 : r01 s1) : ok (fun p : Int32 × mC => HD c0 p.2) (J_X6_phase_141 c s1) :=
  (ok_bo (tD_gives g_c) (fun v1 h2 => (ok_s h2)))
theorem hD_P_X6_phase {c0 : mC} {c : mC} (g_c : HD c0 c) {x1 : Int32} {x2 : Int32} : ok (fun p : Int32 × mC => HD c0 p.2) (P_X6_phase c x1 x2) :=
  (ok_bd (fun v1 e2 => (ok_if (fun q3 => (ok_bo (tD_refuse g_c) (fun v5 h6 => (ok_s h6)))) (fun q4 => (ok_bo (t_isPhase g_c.1) (fun v7 h8 => (ok_if (fun q9 => (ok_bo (tD_refuse g_c) (fun v11 h12 => (ok_s h12)))) (fun q10 => (ok_if (fun q13 => (ok_bo (t_ofPhase_e (G.rf g_c.1) (rP_Q (h8 q10)) 0 q13 (by decide)) (fun v15 h16 => (ok_bo (tD_gives g_c) (fun v17 h18 => (ok_s h18)))))) (fun q14 => (ok_if (fun q19 => (ok_bo (t_ofPhase_e (G.rf g_c.1) (rP_Q (h8 q10)) 1 q19 (by decide)) (fun v21 h22 => (ok_bo (tD_gives g_c) (fun v23 h24 => (ok_s h24)))))) (fun q20 => (ok_if (fun q25 => (ok_bo (tk_P_X6_lampOf (G.rf g_c.1) (h8 q10)) (fun v27 h28 => (ok_bo (tD_gives g_c) (fun v29 h30 => (ok_s h30)))))) (fun q26 => (ok_if (fun q31 => (ok_bo (t_ofPhase (G.rf g_c.1) (rP_Q (h8 q10)) 12 rfl (by decide)) (fun v33 h34 => (ok_bo (tD_gives g_c) (fun v35 h36 => (ok_s h36)))))) (fun q32 => (ok_if (fun q37 => (ok_bo (tk_P_X6_isCalled (G.rf g_c.1) (h8 q10)) (fun v39 h40 => (ok_if (fun q41 => (hD_J_X6_phase_123 g_c r01_0)) (fun q42 => (hD_J_X6_phase_123 g_c r01_1)))))) (fun q38 => (ok_if (fun q43 => (ok_bo (tk_P_X6_isOnFoot (G.rf g_c.1) (h8 q10)) (fun v45 h46 => (ok_if (fun q47 => (hD_J_X6_phase_141 g_c r01_0)) (fun q48 => (hD_J_X6_phase_141 g_c r01_1)))))) (fun q44 => (ok_if (fun q49 => (ok_bo (t_ofPhase (G.rf g_c.1) (rP_Q (h8 q10)) 15 rfl (by decide)) (fun v51 h52 => (ok_bo (tD_gives g_c) (fun v53 h54 => (ok_s h54)))))) (fun q50 => (ok_if (fun q55 => (ok_bo (tk_P_X6_endOf (G.rf g_c.1) (rP_Q (h8 q10))) (fun v57 h58 => (ok_bo (tD_gives g_c) (fun v59 h60 => (ok_s h60)))))) (fun q56 => (ok_bo (tk_P_X6_foesOf (G.rf g_c.1) (h8 q10)) (fun v61 h62 => (ok_bo (tD_gives g_c) (fun v63 h64 => (ok_s h64)))))))))))))))))))))))))))))
theorem hD_P_X6_marked {c0 : mC} {c : mC} (g_c : HD c0 c) {x1 : Int32} {x2 : Int32} : ok (fun p : Int32 × mC => HD c0 p.2) (P_X6_marked c x1 x2) :=
  (ok_bd (fun v1 e2 => (ok_if (fun q3 => (ok_bo (tD_refuse g_c) (fun v5 h6 => (ok_s h6)))) (fun q4 => (ok_bo (t_isPhase g_c.1) (fun v7 h8 => (ok_if (fun q9 => (ok_bo (tD_refuse g_c) (fun v11 h12 => (ok_s h12)))) (fun q10 => (ok_bo (t_mark_w (G.rf g_c.1) (rP_Q (h8 q10)) (isF_w (b := 9) (by decide) e2 q4)) (fun v13 h14 => (ok_bo (tD_gives g_c) (fun v15 h16 => (ok_s h16)))))))))))))
theorem hD_J_X6_brake_55 {c0 : mC} {c : mC} (g_c : HD c0 c) {s1 : Int32} : ok (fun p : Int32 × mC => HD c0 p.2) (J_X6_brake_55 c s1) :=
  (ok_bo (tD_gives g_c) (fun v1 h2 => (ok_s h2)))
theorem hD_P_X6_brake {c0 : mC} {c : mC} (g_c : HD c0 c) {x1 : Int32} {x2 : Int32} : ok (fun p : Int32 × mC => HD c0 p.2) (P_X6_brake c x1 x2) :=
  (ok_bd (fun v1 e2 => (ok_if (fun q3 => (ok_bo (tD_refuse g_c) (fun v5 h6 => (ok_s h6)))) (fun q4 => (ok_bd (fun v7 e8 => (ok_if (fun q9 => (ok_bo (tD_refuse g_c) (fun v11 h12 => (ok_s h12)))) (fun q10 => (ok_if (fun q13 => (ok_bo (t_of (G.rf g_c.1) 10 rfl (by decide)) (fun v15 h16 => (hD_J_X6_brake_55 g_c)))) (fun q14 => (ok_bo (t_ofBreak_w (G.rf g_c.1) (r01_B (isF_01 e8 q10)) (isF_ne (isF_w (b := 5) (by decide) e2 q4) q14)) (fun v17 h18 => (hD_J_X6_brake_55 g_c)))))))))))))
theorem hD_J_X6_sum_92 {c0 : mC} {c : mC} (g_c : HD c0 c) {s1 : Int32} : ok (fun p : Int32 × mC => HD c0 p.2) (J_X6_sum_92 c s1) :=
  (ok_bo (tD_gives g_c) (fun v1 h2 => (ok_s h2)))
theorem hD_P_X6_sum {c0 : mC} {c : mC} (g_c : HD c0 c) {x1 : Int32} : ok (fun p : Int32 × mC => HD c0 p.2) (P_X6_sum c x1) :=
  (ok_if (fun q1 => (ok_bo (tk_P_X6_goneAll (G.rf g_c.1)) (fun v3 h4 => (ok_bo (tD_gives g_c) (fun v5 h6 => (ok_s h6)))))) (fun q2 => (ok_if (fun q7 => (ok_bo (t_of (G.rf g_c.1) 11 rfl (by decide)) (fun v9 h10 => (ok_bo (tD_gives g_c) (fun v11 h12 => (ok_s h12)))))) (fun q8 => (ok_if (fun q13 => (ok_bo (tk_P_X6_queues (G.rf g_c.1)) (fun v15 h16 => (ok_bo (tD_gives g_c) (fun v17 h18 => (ok_s h18)))))) (fun q14 => (ok_if (fun q19 => (ok_bo (tk_P_X6_greatest (G.rf g_c.1)) (fun v21 h22 => (ok_if (fun q23 => (hD_J_X6_sum_92 g_c)) (fun q24 => (ok_bo (tk_P_X6_greatest (G.rf g_c.1)) (fun v25 h26 => (ok_bo (t_ofPhase (G.rf g_c.1) h26 12 rfl (by decide)) (fun v27 h28 => (hD_J_X6_sum_92 g_c)))))))))) (fun q20 => (ok_if (fun q29 => (ok_bo (tk_P_X6_greatest (G.rf g_c.1)) (fun v31 h32 => (ok_bo (tD_gives g_c) (fun v33 h34 => (ok_s h34)))))) (fun q30 => (ok_if (fun q35 => (ok_bo (tk_P_X6_shown (G.rf g_c.1)) (fun v37 h38 => (ok_bo (tD_gives g_c) (fun v39 h40 => (ok_s h40)))))) (fun q36 => (ok_bo (tD_refuse g_c) (fun v41 h42 => (ok_s h42)))))))))))))))
theorem hD_P_X6_event {c0 c : mC} (h : HD c0 c) {x1 x2 : Int32} : ok (fun p : Int32 × mC => HD c0 p.2) (P_X6_event c x1 x2) := by
  have g := G.rf h.1
  have rf : ∀ {s : Int32}, ok (fun p : Int32 × mC => HD c0 p.2) (mBo (α := Int32 × mC) none (P_X6_refuse c s) (fun p1 => (some (p1.1, p1.2)))) := ok_bo (tD_refuse h) (fun p h => ok_s h)
  refine ok_bd (fun v1 e1 => ok_if (fun _ => rf) (fun n1 => ok_bd (fun v2 e2 => ok_if (fun _ => rf) (fun n2 => ok_bo (t_of g 12 rfl (by decide)) (fun v3 h3 => ok_if (fun _ => rf) (fun n3 => ok_bo (t_of g 12 rfl (by decide)) (fun v5 h5 => ?_)))))))
  obtain ⟨a, ha, rfl⟩ := isF_w (b := 31) (by decide) e1 n1
  obtain ⟨b, hb, rfl⟩ := isF_w (b := 2) (by decide) e2 n2
  obtain ⟨p, hp, e⟩ := h.1.2.2.2.1
  rw [e] at h3 h5
  subst h3 h5
  have hlt : a < p := by
    have : ¬ p ≤ a := fun z => n3 ((nI_leI (by omega) (by omega)).mpr z)
    omega
  obtain ⟨q, rfl⟩ : ∃ q, p = a + 1 + q := ⟨p - (a + 1), by omega⟩
  have es : nI (a + 1 + q) - 1 - nI a = nI q := by
    rw [← nI_add, ← nI_add]
    exact ev_sub (nI a) (nI q)
  rw [es, ev_n, nI_add]
  exact ok_bo (t_of g (192 + 3 * q + b) rfl (by omega)) (fun v6 _ => ok_bo (tD_gives h) (fun p h => ok_s h))
theorem hD_P_X6_calls {c0 : mC} {c : mC} (g_c : HD c0 c) {x1 : Int32} (h_x1_rP : rP x1) : ok (HD c0) (P_X6_calls c x1) :=
  (ok_bo (t_ofP0 (G.rf g_c.1) h_x1_rP) (fun v1 h2 => (ok_bo (tk_P_X6_isGreen (G.rf g_c.1) h2) (fun v3 h4 => (ok_if (fun q5 => (ok_bo (hD_putsP g_c h_x1_rP ⟨13, by decide, by decide, rfl⟩) (fun v7 h8 => (ok_s h8)))) (fun q6 => (ok_bo (t_ofR0q (G.rf g_c.1) h2) (fun v9 h10 => (ok_if (fun q11 => (ok_bo (hD_putsP g_c h_x1_rP ⟨16, by decide, by decide, rfl⟩) (fun v13 h14 => (ok_s h14)))) (fun q12 => (ok_bo (hD_putsP g_c h_x1_rP ⟨13, by decide, by decide, rfl⟩) (fun v15 h16 => (ok_s h16)))))))))))))
theorem hD_J_X6_call_95 {c0 : mC} {c : mC} (g_c : HD c0 c) : ok (fun p : Int32 × mC => HD c0 p.2) (J_X6_call_95 c) :=
  (ok_bo (tD_isSo g_c) (fun v1 h2 => (ok_s h2)))
theorem hD_P_X6_call {c0 : mC} {c : mC} (g_c : HD c0 c) {x1 : Int32} {x2 : Int32} : ok (fun p : Int32 × mC => HD c0 p.2) (P_X6_call c x1 x2) :=
  (ok_bo (t_isPhase g_c.1) (fun v1 h2 => (ok_if (fun q3 => (ok_bo (tD_isSo g_c) (fun v5 h6 => (ok_s h6)))) (fun q4 => (ok_if (fun q7 => (ok_bo (t_ofPhase (G.rf g_c.1) (rP_Q (h2 q4)) 13 rfl (by decide)) (fun v9 h10 => (ok_if (fun q11 => (ok_bo (tD_isSo g_c) (fun v13 h14 => (ok_s h14)))) (fun q12 => (ok_if (fun q15 => (ok_bo (t_of (G.rf g_c.1) 5 rfl (by decide)) (fun v17 h18 => (ok_if (fun q19 => (ok_bo (tD_isSo g_c) (fun v21 h22 => (ok_s h22)))) (fun q20 => (ok_if (fun q23 => (ok_bo (hD_P_X6_calls g_c (h2 q4)) (fun v25 h26 => (hD_J_X6_call_95 h26)))) (fun q24 => (ok_bo (hD_putsP g_c (h2 q4) ⟨14, by decide, by decide, rfl⟩) (fun v27 h28 => (hD_J_X6_call_95 h28)))))))))) (fun q16 => (ok_bo (t_mark (G.rf g_c.1) (rP_Q (h2 q4)) 5 rfl (by decide)) (fun v29 h30 => (ok_if (fun q31 => (ok_bo (tD_isSo g_c) (fun v33 h34 => (ok_s h34)))) (fun q32 => (ok_bo (t_of (G.rf g_c.1) 5 rfl (by decide)) (fun v35 h36 => (ok_if (fun q37 => (ok_bo (tD_isSo g_c) (fun v39 h40 => (ok_s h40)))) (fun q38 => (ok_if (fun q41 => (ok_bo (hD_P_X6_calls g_c (h2 q4)) (fun v43 h44 => (hD_J_X6_call_95 h44)))) (fun q42 => (ok_bo (hD_putsP g_c (h2 q4) ⟨14, by decide, by decide, rfl⟩) (fun v45 h46 => (hD_J_X6_call_95 h46)))))))))))))))))))) (fun q8 => (ok_bo (t_ofPhase (G.rf g_c.1) (rP_Q (h2 q4)) 14 rfl (by decide)) (fun v47 h48 => (ok_if (fun q49 => (ok_bo (tD_isSo g_c) (fun v51 h52 => (ok_s h52)))) (fun q50 => (ok_if (fun q53 => (ok_bo (t_of (G.rf g_c.1) 5 rfl (by decide)) (fun v55 h56 => (ok_if (fun q57 => (ok_bo (tD_isSo g_c) (fun v59 h60 => (ok_s h60)))) (fun q58 => (ok_if (fun q61 => (ok_bo (hD_P_X6_calls g_c (h2 q4)) (fun v63 h64 => (hD_J_X6_call_95 h64)))) (fun q62 => (ok_bo (hD_putsP g_c (h2 q4) ⟨14, by decide, by decide, rfl⟩) (fun v65 h66 => (hD_J_X6_call_95 h66)))))))))) (fun q54 => (ok_bo (t_mark (G.rf g_c.1) (rP_Q (h2 q4)) 5 rfl (by decide)) (fun v67 h68 => (ok_if (fun q69 => (ok_bo (tD_isSo g_c) (fun v71 h72 => (ok_s h72)))) (fun q70 => (ok_bo (t_of (G.rf g_c.1) 5 rfl (by decide)) (fun v73 h74 => (ok_if (fun q75 => (ok_bo (tD_isSo g_c) (fun v77 h78 => (ok_s h78)))) (fun q76 => (ok_if (fun q79 => (ok_bo (hD_P_X6_calls g_c (h2 q4)) (fun v81 h82 => (hD_J_X6_call_95 h82)))) (fun q80 => (ok_bo (hD_putsP g_c (h2 q4) ⟨14, by decide, by decide, rfl⟩) (fun v83 h84 => (hD_J_X6_call_95 h84)))))))))))))))))))))))))
theorem hD_P_X6_come {c0 : mC} {c : mC} (g_c : HD c0 c) {x1 : Int32} {x2 : Int32} : ok (fun p : Int32 × mC => HD c0 p.2) (P_X6_come c x1 x2) :=
  (ok_bd (fun v1 e2 => (ok_if (fun q3 => (ok_bo (tD_refuse g_c) (fun v5 h6 => (ok_s h6)))) (fun q4 => (ok_bo (t_isPhase g_c.1) (fun v7 h8 => (ok_if (fun q9 => (ok_bo (tD_refuse g_c) (fun v11 h12 => (ok_s h12)))) (fun q10 => (ok_bo (t_ofPhase (G.rf g_c.1) (rP_Q (h8 q10)) 12 rfl (by decide)) (fun v13 h14 => (ok_if (fun q15 => (ok_bo (t_ofPhase (G.rf g_c.1) (rP_Q (h8 q10)) 12 rfl (by decide)) (fun v17 h18 => (ok_bo (hD_putsP g_c (h8 q10) ⟨12, by decide, by decide, rfl⟩) (fun v19 h20 => (ok_bo (t_ofPhase (G.rf h20.1) (rP_Q (h8 q10)) 12 rfl (by decide)) (fun v21 h22 => (ok_bo (tD_gives h20) (fun v23 h24 => (ok_s h24)))))))))) (fun q16 => (ok_bo (tD_refuse g_c) (fun v25 h26 => (ok_s h26)))))))))))))))
theorem hD_P_X6_brakes {c0 c : mC} (h : HD c0 c) {x1 x2 x3 x4 x5 x6 : Int32} : ok (fun p : Int32 × mC => HD c0 p.2) (P_X6_brakes c x1 x2 x3 x4 x5 x6) := by
  have g := G.rf h.1
  have so : ∀ {m : mC} {s : Int32}, HD c0 m → ok (fun p : Int32 × mC => HD c0 p.2) (mBo (α := Int32 × mC) none (P_X6_isSo m s) (fun p1 => (some (p1.1, p1.2)))) := fun h => ok_bo (tD_isSo h) (fun p h => ok_s h)
  have j49 : ok (fun p : Int32 × mC => HD c0 p.2) (J_X6_brakes_49 c) := so h
  have j103 : ok (fun p : Int32 × mC => HD c0 p.2) (J_X6_brakes_103 c) := so h
  exact ok_bo (tk_P_X6_isSet g) (fun v1 _ => ok_if (fun _ => j49) (fun _ => ok_bo (tk_P_X6_isSet g) (fun v2 _ => ok_if (fun _ => j49) (fun _ => ok_bd (fun v3 _ => ok_if (fun _ => j49) (fun _ => ok_bd (fun v4 _ => ok_if (fun _ => j49) (fun _ => ok_bd (fun v5 _ => ok_if (fun _ => j49) (fun _ => ok_bd (fun v6 e6 => ok_if (fun _ => so h) (fun n6 => ok_bo (t_of7 g) (fun v8 _ => ok_if (fun _ => so h) (fun _ => ok_bo (tk_P_X6_isPeace g) (fun v10 _ => ok_if (fun _ => j103) (fun _ => ok_bo (tk_P_X6_isPeace g) (fun v11 _ => ok_if (fun _ => j103) (fun _ => ok_bo (hD_putsB h (isF_01 e6 n6) 0 (by decide) rfl) (fun c12 h => ok_bo (hD_putsB h (isF_01 e6 n6) 1 (by decide) rfl) (fun c13 h => ok_bo (hD_putsB h (isF_01 e6 n6) 2 (by decide) rfl) (fun c14 h => ok_bo (hD_putsB h (isF_01 e6 n6) 3 (by decide) rfl) (fun c15 h => ok_bo (hD_putsB h (isF_01 e6 n6) 4 (by decide) rfl) (fun c16 h => so h)))))))))))))))))))))))
theorem hD_P_X6_reset {c0 : mC} {c : mC} (g_c : HD c0 c) : ok (fun p : Int32 × mC => HD c0 p.2) (P_X6_reset c) :=
  (ok_bo (t_of (G.rf g_c.1) 5 rfl (by decide)) (fun v1 h2 => (ok_if (fun q3 => (ok_bo (tD_isSo g_c) (fun v5 h6 => (ok_s h6)))) (fun q4 => (ok_bo (hD_puts g_c 5 rfl (by decide) (by decide) (by intro q hq; omega)) (fun v7 h8 => (ok_bo (HD.up h8 (tk_P_X6_starts (G.rf h8.1))) (fun v9 h10 => (ok_bo (HD.up h10 (t_happens (G.rf h10.1))) (fun v11 h12 => (ok_bo (tD_isSo h12) (fun v13 h14 => (ok_s h14)))))))))))))
theorem hD_J_X6_foes_37 {c0 : mC} {c : mC} (g_c : HD c0 c) : ok (fun p : Int32 × mC => HD c0 p.2) (J_X6_foes_37 c) :=
  (ok_bo (tD_refuse g_c) (fun v1 h2 => (ok_s h2)))
theorem hD_J_X6_foes_31 {c0 : mC} {c : mC} (g_c : HD c0 c) {s1 : Int32} (h_s1_r01 : r01 s1) : ok (fun p : Int32 × mC => HD c0 p.2) (J_X6_foes_31 c s1) :=
  (ok_bo (tD_gives g_c) (fun v1 h2 => (ok_s h2)))
theorem hD_P_X6_foes {c0 : mC} {c : mC} (g_c : HD c0 c) {x1 : Int32} {x2 : Int32} : ok (fun p : Int32 × mC => HD c0 p.2) (P_X6_foes c x1 x2) :=
  (ok_bo (t_isPhase g_c.1) (fun v1 h2 => (ok_if (fun q3 => (hD_J_X6_foes_37 g_c)) (fun q4 => (ok_bo (t_isPhase g_c.1) (fun v5 h6 => (ok_if (fun q7 => (hD_J_X6_foes_37 g_c)) (fun q8 => (ok_bo (tk_P_X6_areFoes (G.rf g_c.1) (rP_Q (h2 q4)) (rP_Q (h6 q8))) (fun v9 h10 => (ok_if (fun q11 => (hD_J_X6_foes_31 g_c r01_0)) (fun q12 => (hD_J_X6_foes_31 g_c r01_1)))))))))))))
theorem hD_J_X6_sets_90 {c0 : mC} {c : mC} (g_c : HD c0 c) {s1 : Int32} : ok (fun p : Int32 × mC => HD c0 p.2) (J_X6_sets_90 c s1) :=
  (ok_bo (tD_gives g_c) (fun v1 h2 => (ok_s h2)))
theorem hD_J_X6_sets_74 {c0 : mC} {c : mC} (g_c : HD c0 c) {x1 : Int32} (h_x1_r01 : r01 x1) {x2 : Int32} {x3 : Int32} {x4 : Int32} : ok2 (fun s : Int32 × Int32 × Int32 => True) (fun p : Int32 × mC => HD c0 p.2) (J_X6_sets_74 c x1 x2 x3 x4) :=
  (ok2_l trivial)
theorem hD_J_X6_sets_73 {c0 : mC} {c : mC} (g_c : HD c0 c) {x1 : Int32} (h_x1_r01 : r01 x1) {x2 : Int32} {x4 : Int32} {s0 : Int32} : ok2 (fun s : Int32 × Int32 × Int32 => True) (fun p : Int32 × mC => HD c0 p.2) (J_X6_sets_73 c x1 x2 x4 s0) :=
  (hD_J_X6_sets_74 g_c h_x1_r01)
theorem hD_J_X6_sets_67 {c0 : mC} {c : mC} (g_c : HD c0 c) {x1 : Int32} (h_x1_r01 : r01 x1) {x2 : Int32} {x4 : Int32} : ok2 (fun s : Int32 × Int32 × Int32 => True) (fun p : Int32 × mC => HD c0 p.2) (J_X6_sets_67 c x1 x2 x4) :=
  (hD_J_X6_sets_73 g_c h_x1_r01)
theorem hDb_X6_sets_22 {c0 : mC} {c : mC} (g_c : HD c0 c) {x1 : Int32} (h_x1_r01 : r01 x1) : ∀ s : Int32 × Int32 × Int32, (fun s : Int32 × Int32 × Int32 => True) s → ok2 (fun s : Int32 × Int32 × Int32 => True) (fun p : Int32 × mC => HD c0 p.2) (B_X6_sets_22 c x1 s) := by
  rintro ⟨x2, x3, x4⟩ ⟨_⟩
  show ok2 (fun s : Int32 × Int32 × Int32 => True) (fun p : Int32 × mC => HD c0 p.2) (mBo (α := Int32) (.inr none) (P_X6_of c 0) (fun v1 => (if ((1 : Int32) <<< (v1 &&& 31)) ≤ x4 then (.inr (if x1 = 0 then (J_X6_sets_90 c x2) else (J_X6_sets_90 c x3))) else (mBo (α := Int32) (.inr none) (P_X6_isFull c x4) (fun v3 => (if v3 = 0 then (J_X6_sets_74 c x1 x2 x3 x4) else (if x3 = 0 then (J_X6_sets_67 c x1 (x2 + 1) x4) else (mBo (α := Int32) (.inr none) (P_X6_queuesIn c x4) (fun v4 => (mBo (α := Int32) (.inr none) (P_X6_queuesIn c x3) (fun v5 => (if v4 ≤ v5 then (J_X6_sets_73 c x1 (x2 + 1) x4 x3) else (J_X6_sets_67 c x1 (x2 + 1) x4)))))))))))))
  exact (ok_b2 (t_of0 (G.rf g_c.1)) (fun v1 h2 => (ok2_if (fun q3 => (ok2_r (ok_if (fun q5 => (hD_J_X6_sets_90 g_c)) (fun q6 => (hD_J_X6_sets_90 g_c))))) (fun q4 => (ok_b2 (tk_P_X6_isFull (G.rf g_c.1)) (fun v7 h8 => (ok2_if (fun q9 => (hD_J_X6_sets_74 g_c h_x1_r01)) (fun q10 => (ok2_if (fun q11 => (hD_J_X6_sets_67 g_c h_x1_r01)) (fun q12 => (ok_b2 (tk_P_X6_queuesIn (G.rf g_c.1)) (fun v13 h14 => (ok_b2 (tk_P_X6_queuesIn (G.rf g_c.1)) (fun v15 h16 => (ok2_if (fun q17 => (hD_J_X6_sets_73 g_c h_x1_r01)) (fun q18 => (hD_J_X6_sets_67 g_c h_x1_r01)))))))))))))))))
theorem hD_P_X6_sets {c0 : mC} {c : mC} (g_c : HD c0 c) {x1 : Int32} : ok (fun p : Int32 × mC => HD c0 p.2) (P_X6_sets c x1) :=
  (ok_bd (fun v1 e2 => (ok_if (fun q3 => (ok_bo (tD_refuse g_c) (fun v5 h6 => (ok_s h6)))) (fun q4 => (ok_wh _ tm_X6_sets_22 (hDb_X6_sets_22 g_c (isF_01 e2 q4)) trivial)))))
theorem hD_J_X6_mark__25 {c0 : mC} {c : mC} (g_c : HD c0 c) : ok (fun p : Int32 × mC => HD c0 p.2) (J_X6_mark__25 c) :=
  (ok_bo (tD_refuse g_c) (fun v1 h2 => (ok_s h2)))
theorem hD_P_X6_mark_ {c0 : mC} {c : mC} (g_c : HD c0 c) {x1 : Int32} {x2 : Int32} {x3 : Int32} : ok (fun p : Int32 × mC => HD c0 p.2) (P_X6_mark_ c x1 x2 x3) :=
  (ok_bd (fun v1 e2 => (ok_if (fun q3 => (hD_J_X6_mark__25 g_c)) (fun q4 => (ok_bd (fun v5 e6 => (ok_bd (fun v7 e8 => (ok_bd (fun v9 e10 => (ok_if (fun q11 => (hD_J_X6_mark__25 g_c)) (fun q12 => (ok_bo (t_isPhase g_c.1) (fun v13 h14 => (ok_if (fun q15 => (ok_bo (tD_refuse g_c) (fun v17 h18 => (ok_s h18)))) (fun q16 => (ok_bo (t_mark_w (G.rf g_c.1) (rP_Q (h14 q16)) (isF_w (b := 9) (by decide) e2 q4)) (fun v19 h20 => (ok_bo (hD_putsP g_c (h14 q16) (isF_2 (isF_w (b := 9) (by decide) e2 q4))) (fun v21 h22 => (ok_bo (tD_gives h22) (fun v23 h24 => (ok_s h24)))))))))))))))))))))))
theorem hD_P_X6_isWanted {c0 : mC} {c : mC} (g_c : HD c0 c) {x1 : Int32} {x2 : Int32} (h_x2_r01 : r01 x2) : ok (fun p : Int32 × mC => HD c0 p.2) (P_X6_isWanted c x1 x2) :=
  (ok_bd (fun v1 e2 => (ok_if (fun q3 => (ok_bo (tD_isSo g_c) (fun v5 h6 => (ok_s h6)))) (fun q4 => (ok_bo (t_of (G.rf g_c.1) 10 rfl (by decide)) (fun v7 h8 => (ok_bd (fun v9 e10 => (ok_if (fun q11 => (ok_bo (tD_isSo g_c) (fun v13 h14 => (ok_s h14)))) (fun q12 => (ok_bo (t_of (G.rf g_c.1) 10 rfl (by decide)) (fun v15 h16 => (ok_bo (hD_puts g_c 10 rfl (by decide) (by decide) (by intro q hq; omega)) (fun v17 h18 => (ok_bo (tD_isSo h18) (fun v19 h20 => (ok_s h20)))))))))))))))))
theorem hD_P_X6_ask {c0 : mC} {c : mC} (g_c : HD c0 c) {x1 : Int32} : ok (fun p : Int32 × mC => HD c0 p.2) (P_X6_ask c x1) :=
  (ok_bo (hD_P_X6_isWanted g_c r01_1) (fun v1 h2 => (ok_s h2)))
theorem hD_P_X6_let {c0 : mC} {c : mC} (g_c : HD c0 c) {x1 : Int32} : ok (fun p : Int32 × mC => HD c0 p.2) (P_X6_let c x1) :=
  (ok_bo (hD_P_X6_isWanted g_c r01_0) (fun v1 h2 => (ok_s h2)))
theorem hD_P_X6_stick {c0 : mC} {c : mC} (g_c : HD c0 c) {x1 : Int32} {x2 : Int32} : ok (fun p : Int32 × mC => HD c0 p.2) (P_X6_stick c x1 x2) :=
  (ok_bo (t_isPhase g_c.1) (fun v1 h2 => (ok_if (fun q3 => (ok_bo (tD_isSo g_c) (fun v5 h6 => (ok_s h6)))) (fun q4 => (ok_bo (t_of (G.rf g_c.1) 6 rfl (by decide)) (fun v7 h8 => (ok_bd (fun v9 e10 => (ok_if (fun q11 => (ok_bo (tD_isSo g_c) (fun v13 h14 => (ok_s h14)))) (fun q12 => (ok_bo (t_of (G.rf g_c.1) 6 rfl (by decide)) (fun v15 h16 => (ok_bo (hD_puts g_c 6 rfl (by decide) (by decide) (by intro q hq; omega)) (fun v17 h18 => (ok_bo (tD_isSo h18) (fun v19 h20 => (ok_s h20)))))))))))))))))
