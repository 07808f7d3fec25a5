/-! The two readers side by side: breaks, the text -/
theorem set_eq' {n : Nat} {b : Nat → Int32} {c r : mC} (h : TS n b c r) (hp : c 16 9 = 0 → PZ c (r 21)) : ok (Rn n b (P_X3_takeSet c) r (fun _ => True)) (P_X6_aSet r) := by
  rcases h.2.2.2.2 with ⟨h0, T⟩ | B
  · exact set_eq h (hp h0).e
  · have h9 : ¬ c 16 9 = 0 := by rw [B.1]; decide
    have ec : P_X3_takeSet c = (0, c) := by
      unfold P_X3_takeSet J_X3_takeSet_56 P_X3_takeNumber mBd
      simp only [if_neg h9]
    unfold P_X6_aSet
    rw [ec, if_neg (by rw [B.2.2.2]; decide)]
    exact ok_bo (fl_b (x := 2) h.2.1 h.2.2.1 B) (fun p z => ok_s (Or.inr ⟨z.1, z.2⟩))
theorem pz_k {c c' : mC} {f : Nat → Int32} (h : c 16 9 = 0 → PZ c f) (k : Kp s6 c c') (kf : ¬ c 16 9 = 0 → Kp sF c c') : c' 16 9 = 0 → PZ c' f := fun h9 => by
  by_cases z : c 16 9 = 0
  · exact (h z).k k
  · have := kf z 16 9 rfl
    rw [h9] at this
    exact absurd this.symm z
theorem putBreak_n {c : mC} {m w : Nat} {v : Int32} (hm : m < 2) (hw : w < 5) : P_X2_putBreak c (nI m) (nI w) v = mP c 6 (m * 5 + w) v := by
  show pt 10 c 6 (nI m * 5 + nI w) v = _
  rw [show nI m * 5 + nI w = nI (m * 5 + w) from by rw [show nI m * 5 = nI (m * 5) from (Int32.ofNat_mul m 5).symm, nI_add], pt_n (by omega) (by decide)]
theorem PZ.b {c : mC} {f : Nat → Int32} {q : Nat} {v : Int32} (hq : q < 10) (h : PZ c f) : PZ (mP c 6 q v) (upF f (176 + q) v) := by
  obtain ⟨N, ⟨h1, h2, h3, h4, h5, h6, h7⟩, g2, g3, g4⟩ := h
  refine ⟨N, ⟨h1, fun p hp => ⟨?_, ?_, fun k hk => ?_⟩, h3, h4, ?_, ?_, fun w hw => ?_⟩, g2, ?_, fun p k a b d => ?_⟩
  · rw [upF_n (by omega)]; exact (h2 p hp).1
  · rw [upF_n (by omega)]; exact (h2 p hp).2.1
  · rw [upF_n (by omega)]; exact (h2 p hp).2.2 k hk
  · rw [upF_n (by omega)]; exact h5
  · rw [upF_n (by omega)]; exact h6
  · by_cases z : w = q
    · rw [z, mP_s, upF_s]
    · rw [mP_n _ _ _ z, upF_n (by omega)]; exact h7 w hw
  · rw [upF_n (by omega)]; exact g3
  · rw [upF_n (by omega)]; exact g4 p k a b d
theorem word_t2 {n : Nat} {b : Nat → Int32} {c r : mC} (h : TS n b c r) {i k : Nat} (hi : i < 17) (hk : wd i = k) : ok (Rs n b (P_X3_takeWord k c) r) (P_X6_takesWord r (nI i)) := by
  subst hk
  exact word_tk h hi
/-- a goal of a break's line -/
noncomputable def cg (m w0 w1 : Int32) (k : Nat) (c : mC) : mC := mBd (P_X3_takeWord k c) (fun c2 => mBd (P_X3_takeSet c2) (fun p3 => mBd (P_X2_putBreak p3.2 m w0 p3.1) (fun c4 => mBd (P_X3_takeNumber c4 0 30) (fun p5 => P_X2_putBreak p5.2 m w1 p5.1))))
theorem kf_cg {c0 c : mC} (hn : ¬ c0 16 9 = 0) (h : Kp sF c0 c) {m w0 w1 : Int32} {k : Nat} : pp (fun p : mC => Kp sF c0 p) (cg m w0 w1 k c) :=
  pp_bo (kf_P_X3_takeWord hn h) (fun c2 h2 => pp_bo (kf_P_X3_takeSet hn h2) (fun p3 h3 => pp_bo (kf_P_X2_putBreak hn h3) (fun c4 h4 => pp_bo (kf_P_X3_takeNumber hn h4) (fun p5 h5 => kf_P_X2_putBreak hn h5))))
theorem goal_eq {n : Nat} {b : Nat → Int32} {c r : mC} (h : TS n b c r) (hz : c 16 9 = 0 → PZ c (r 21)) {m w i k : Nat} (hm : m < 2) (hw : w + 1 < 5) (hi : i < 17) (hk : wd i = k) : ok (Ln n b (cg (nI m) (nI w) (nI (w + 1)) k c)) (P_X6_aGoal r (nI (176 + (m * 5 + w))) (nI i)) := by
  subst hk
  unfold P_X6_aGoal cg mBd J_X6_aGoal_15
  dsimp only
  refine ok_bo (word_tk h hi) (fun p1 z1 => ?_)
  have z2 : c 16 9 = 0 → PZ c (r 21) := hz
  have zW := pz_k hz (k6_P_X3_takeWord (c0 := c) Kp.rf (n := wd i)) (fun hn => kf_P_X3_takeWord hn Kp.rf)
  generalize P_X3_takeWord (wd i) c = c2 at *
  rcases z1 with ⟨a1, a2, a3⟩ | ⟨a1, a2⟩
  · refine ok_if (fun z => absurd (a1.symm.trans z) (by decide)) (fun _ => ?_)
    refine ok_bo (set_eq' a2 (by rw [a3 21 (by decide)]; exact zW)) (fun p2 z2 => ?_)
    have zS := pz_k (f := p1.2 21) (by rw [a3 21 (by decide)]; exact zW) (k6_P_X3_takeSet (c0 := c2) Kp.rf) (fun hn => kf_P_X3_takeSet hn Kp.rf)
    generalize P_X3_takeSet c2 = w3 at *
    rcases z2 with ⟨d1, d2, d3, d4, _⟩ | ⟨d1, d2⟩
    · refine ok_if (fun z => absurd (d1.symm.trans z) (by decide)) (fun _ => ?_)
      rw [puts_n (by omega)]
      refine ok_bo (P := fun m' => m' = mP p2.2 21 (176 + (m * 5 + w)) (p2.2 20 20)) ⟨_, rfl, rfl⟩ (fun c3 e3 => ?_)
      subst e3
      rw [putBreak_n (m := m) (w := w) hm (by omega)]
      have hT : TS n b (mP w3.2 6 (m * 5 + w) w3.1) (mP p2.2 21 (176 + (m * 5 + w)) (p2.2 20 20)) := d2.pl rfl rfl rfl rfl
      have hZ : (mP w3.2 6 (m * 5 + w) w3.1) 16 9 = 0 → PZ (mP w3.2 6 (m * 5 + w) w3.1) ((mP p2.2 21 (176 + (m * 5 + w)) (p2.2 20 20)) 21) := fun h9 => by
        rw [up21, d4, d3 21 (by decide)]
        exact PZ.b (by omega) (zS h9)
      refine ok_bo (num_eq hT 0 30) (fun p4 z4 => ?_)
      have zN := pz_k hZ (k6_P_X3_takeNumber (c0 := mP w3.2 6 (m * 5 + w) w3.1) Kp.rf (x1 := 0) (x2 := 30)) (fun hn => kf_P_X3_takeNumber hn Kp.rf)
      generalize P_X3_takeNumber (mP w3.2 6 (m * 5 + w) w3.1) 0 30 = w5 at *
      rcases z4 with ⟨f1, f2, f3, f4, _⟩ | ⟨f1, f2⟩
      · refine ok_if (fun z => absurd (f1.symm.trans z) (by decide)) (fun _ => ?_)
        rw [nI_1, puts_n (by omega)]
        refine ok_bo (P := fun m' => m' = mP p4.2 21 (176 + (m * 5 + w) + 1) (p4.2 20 20)) ⟨_, rfl, rfl⟩ (fun c5 e5 => ?_)
        subst e5
        rw [putBreak_n hm hw]
        refine ok_s (Or.inl ⟨rfl, f2.pl rfl rfl rfl rfl, fun h9 => ?_⟩)
        show PZ _ ((mP p4.2 21 (176 + (m * 5 + w) + 1) (p4.2 20 20)) 21)
        rw [up21, f4, f3 21 (by decide)]
        exact PZ.b (by omega) (zN h9)
      · refine ok_if (fun _ => ok_s (Or.inr ⟨rfl, f2.k (kf_P_X2_putBreak f2.1 Kp.rf)⟩)) (fun z => absurd f1 z)
    · refine ok_if (fun _ => ok_s (Or.inr ⟨rfl, d2.k ?_⟩)) (fun z => absurd d1 z)
      exact kf_P_X2_putBreak d2.1 (kf_P_X3_takeNumber d2.1 (kf_P_X2_putBreak d2.1 (c := w3.2) Kp.rf))
  · refine ok_if (fun _ => ok_s (Or.inr ⟨rfl, a2.k ?_⟩)) (fun z => absurd a1 z)
    exact kf_P_X2_putBreak a2.1 (kf_P_X3_takeNumber a2.1 (kf_P_X2_putBreak a2.1 (kf_P_X3_takeSet a2.1 (c := c2) Kp.rf)))
/-- a break's line, behind its first number -/
noncomputable def cb (m : Int32) (c : mC) : mC := mBd (cg m (nI 0) (nI (0 + 1)) 4 c) (fun c6 => mBd (cg m (nI 2) (nI (2 + 1)) 5 c6) (fun c11 => mBd (P_X3_takeWord 6 c11) (fun c12 => mBd (P_X3_takeNumber c12 0 20) (fun p13 => P_X2_putBreak p13.2 m 4 p13.1))))
theorem kf_cb {c0 c : mC} (hn : ¬ c0 16 9 = 0) (h : Kp sF c0 c) {m : Int32} : pp (fun p : mC => Kp sF c0 p) (cb m c) :=
  pp_bo (kf_cg hn h) (fun c2 h2 => pp_bo (kf_cg hn h2) (fun c3 h3 => pp_bo (kf_P_X3_takeWord hn h3) (fun c4 h4 => pp_bo (kf_P_X3_takeNumber hn h4) (fun p5 h5 => kf_P_X2_putBreak hn h5))))
theorem j40_eq (c : mC) : J_X3_readBreak_40 c = P_X3_endLine (cb (P_X3_takeNumber c 0 1).1 (P_X3_takeNumber c 0 1).2) := by
  unfold J_X3_readBreak_40 cb cg mBd
  rfl
/-- the reference's row behind the break's number -/
theorem rest_eq {n : Nat} {b : Nat → Int32} {c r : mC} (h : TS n b c r) (hz : c 16 9 = 0 → PZ c (r 21)) {m : Nat} (hm : m < 2) {x0 x2 x4 : Int32} (hx0 : x0 = nI (176 + (m * 5 + 0))) (hx2 : x2 = nI (176 + (m * 5 + 2))) (hx4 : x4 = nI (176 + (m * 5 + 4))) : ok (Ln n b (cb (nI m) c)) (mBo (α := Int32 × mC) none (P_X6_aGoal r x0 14) (fun p4 => (if p4.1 = 0 then (J_X6_aBreak_125 p4.2) else (mBo (α := Int32 × mC) none (P_X6_aGoal p4.2 x2 15) (fun p5 => (if p5.1 = 0 then (J_X6_aBreak_125 p5.2) else (mBo (α := Int32 × mC) none (P_X6_takesWord p5.2 16) (fun p6 => (if p6.1 = 0 then (J_X6_aBreak_125 p6.2) else (mBo (α := Int32 × mC) none (P_X6_takesNumber p6.2 0 20) (fun p7 => (if p7.1 = 0 then (J_X6_aBreak_125 p7.2) else (mBo (α := mC) none (P_X6_puts p7.2 x4 (p7.2 20 20)) (fun c8 => (some (1, c8)))))))))))))))) := by
  subst hx0 hx2 hx4
  unfold cb J_X6_aBreak_125
  have g1 := goal_eq h hz (w := 0) hm (by decide) (i := 14) (by decide) (k := 4) rfl
  refine ok_bo g1 (fun p4 z4 => ?_)
  unfold mBd
  dsimp only
  generalize cg (nI m) (nI 0) (nI (0 + 1)) 4 c = c6 at *
  rcases z4 with ⟨a1, a2, a3⟩ | ⟨a1, a2⟩
  · refine ok_if (fun z => absurd (a1.symm.trans z) (by decide)) (fun _ => ?_)
    have g2 := goal_eq a2 a3 (w := 2) hm (by decide) (i := 15) (by decide) (k := 5) rfl
    refine ok_bo g2 (fun p5 z5 => ?_)
    generalize cg (nI m) (nI 2) (nI (2 + 1)) 5 c6 = c11 at *
    rcases z5 with ⟨b1, b2, b3⟩ | ⟨b1, b2⟩
    · refine ok_if (fun z => absurd (b1.symm.trans z) (by decide)) (fun _ => ?_)
      refine ok_bo (word_t2 b2 (i := 16) (k := 6) (by decide) rfl) (fun p6 z6 => ?_)
      have zW := pz_k b3 (k6_P_X3_takeWord (c0 := c11) Kp.rf (n := 6)) (fun hn => kf_P_X3_takeWord hn Kp.rf)
      generalize P_X3_takeWord 6 c11 = c12 at *
      rcases z6 with ⟨d1, d2, d3⟩ | ⟨d1, d2⟩
      · refine ok_if (fun z => absurd (d1.symm.trans z) (by decide)) (fun _ => ?_)
        refine ok_bo (num_eq d2 0 20) (fun p7 z7 => ?_)
        have zN := pz_k zW (k6_P_X3_takeNumber (c0 := c12) Kp.rf (x1 := 0) (x2 := 20)) (fun hn => kf_P_X3_takeNumber hn Kp.rf)
        generalize P_X3_takeNumber c12 0 20 = w13 at *
        rcases z7 with ⟨f1, f2, f3, f4, _⟩ | ⟨f1, f2⟩
        · refine ok_if (fun z => absurd (f1.symm.trans z) (by decide)) (fun _ => ?_)
          rw [puts_n (by omega)]
          refine ok_bo (P := fun m' => m' = mP p7.2 21 (176 + (m * 5 + 4)) (p7.2 20 20)) ⟨_, rfl, rfl⟩ (fun c8 e8 => ?_)
          subst e8
          rw [show P_X2_putBreak w13.2 (nI m) 4 w13.1 = mP w13.2 6 (m * 5 + 4) w13.1 from putBreak_n (w := 4) hm (by decide)]
          refine ok_s (Or.inl ⟨rfl, f2.pl rfl rfl rfl rfl, fun h9 => ?_⟩)
          show PZ _ ((mP p7.2 21 (176 + (m * 5 + 4)) (p7.2 20 20)) 21)
          rw [up21, f4, f3 21 (by decide), d3 21 (by decide)]
          exact PZ.b (by omega) (zN h9)
        · exact ok_if (fun _ => ok_s (Or.inr ⟨rfl, f2.k (kf_P_X2_putBreak f2.1 Kp.rf)⟩)) (fun z => absurd f1 z)
      · refine ok_if (fun _ => ok_s (Or.inr ⟨rfl, d2.k ?_⟩)) (fun z => absurd d1 z)
        exact kf_P_X2_putBreak d2.1 (kf_P_X3_takeNumber d2.1 (c := c12) Kp.rf)
    · refine ok_if (fun _ => ok_s (Or.inr ⟨rfl, b2.k ?_⟩)) (fun z => absurd b1 z)
      exact kf_P_X2_putBreak b2.1 (kf_P_X3_takeNumber b2.1 (kf_P_X3_takeWord b2.1 (c := c11) Kp.rf))
  · refine ok_if (fun _ => ok_s (Or.inr ⟨rfl, a2.k ?_⟩)) (fun z => absurd a1 z)
    exact kf_P_X2_putBreak a2.1 (kf_P_X3_takeNumber a2.1 (kf_P_X3_takeWord a2.1 (kf_cg a2.1 (c := c6) Kp.rf)))
theorem mBd_eq {α β : Type} (x : α) (f : α → β) : mBd x f = f x := rfl
theorem readBreak_0 (c : mC) : P_X3_readBreak c = mBd (P_X3_step c) (fun c1 => (if (c1 16 9) = 0 then (if (c1 16 5) = 2 then (mBd (α := Int32) (P_X5_isBreak (c1 16 6)) (fun v2 => (if v2 = 0 then (J_X3_readBreak_40 c1) else (mBd (α := Int32) (P_X5_bit (c1 16 6)) (fun v3 => (mBd (α := mC) (P_X3_tellOnce c1 v3) (fun c4 => (J_X3_readBreak_40 c4)))))))) else (J_X3_readBreak_40 c1)) else (J_X3_readBreak_40 c1))) := rfl
theorem break_eq {n : Nat} {b : Nat → Int32} {c r : mC} (h : TS n b c r) (h0 : c 16 9 = 0) (k1 : c 16 5 = 1) (hz : PZ c (r 21)) : ∃ c1, P_X3_readBreak c = P_X3_endLine c1 ∧ ok (Ln n b c1) (P_X6_aBreak r) := by
  obtain ⟨X, h14, h7, h8, _⟩ := id h
  have T := h.tok h0
  obtain ⟨e, he, p3, p12⟩ := T.p (by rw [k1]; decide)
  obtain ⟨r1, a1, a2, a3⟩ := ts_step X h14 h7 h8 h0 he p3 p12
  have s6a : Kp s6 c (P_X3_step c) := k6_P_X3_step (c0 := c) Kp.rf
  have eC := readBreak_0 c
  rw [mBd_eq] at eC
  generalize P_X3_step c = c1 at *
  have o1 : r1 21 = r 21 := sR_o a3 21 (by decide)
  obtain ⟨X1, i14, i7, i8, it⟩ := id a2
  -- a number that is refused
  have num_f : ∀ x : Int32, P_X3_takeNumber c1 0 1 = (0, P_X3_fail c1 x) → ∀ p : Int32 × mC, Fa (P_X3_fail c1 x) p.2 → Fa (cb (P_X3_takeNumber c1 0 1).1 (P_X3_takeNumber c1 0 1).2) p.2 := fun x ex p hp => by
    rw [ex]
    exact hp.k (kf_cb hp.1 Kp.rf)
  rcases it with ⟨i0, T1⟩ | B
  · rw [if_pos i0] at eC
    by_cases k : c1 16 5 = 2
    · obtain ⟨m, hm, e6, e13⟩ := T1.n k
      obtain ⟨e', he', q3, q12⟩ := T1.p (by rw [k]; decide)
      have r10 := T1.k.1.mp k
      rw [if_pos k, e6, mBd_eq] at eC
      by_cases hm2 : m < 2
      · have eb : P_X5_isBreak (nI m) = 1 := by
          have : m = 0 ∨ m = 1 := by omega
          rcases this with rfl | rfl <;> rfl
        rw [eb, if_neg (by decide), mBd_eq, mBd_eq] at eC
        obtain ⟨a, ha, t1, t2⟩ := id i8
        have tA := (td_all a ha).2.2 m hm2
        have tU := (td_up a ha).2.2 m hm2
        rw [← t1, ← t2] at tA
        by_cases hb : P_X6_has (r1 20 19) (nI m) = 0
        · have e1 : P_X3_tellOnce c1 (P_X5_bit (nI m)) = mP c1 16 8 (c1 16 8 ||| P_X5_bit (nI m)) := by
            unfold P_X3_tellOnce J_X3_tellOnce_21
            rw [if_pos i0, if_pos (tA.mpr hb)]
          have eN : P_X3_takeNumber (mP c1 16 8 (c1 16 8 ||| P_X5_bit (nI m))) 0 1 = (nI m, P_X3_step (mP c1 16 8 (c1 16 8 ||| P_X5_bit (nI m)))) := by
            unfold P_X3_takeNumber mBd
            have f6 : (mP c1 16 8 (c1 16 8 ||| P_X5_bit (nI m))) 16 6 = nI m := e6
            rw [if_pos (show (mP c1 16 8 (c1 16 8 ||| P_X5_bit (nI m))) 16 9 = 0 from i0), if_pos (show (mP c1 16 8 (c1 16 8 ||| P_X5_bit (nI m))) 16 5 = 2 from k), f6, if_neg (nI_pos (by omega)), if_pos (show nI m ≤ 1 from (nI_leI (b := 1) (by omega) (by decide)).mpr (by omega))]
          obtain ⟨r3, b1, b2, b3⟩ := ts_step (c := mP c1 16 8 (c1 16 8 ||| P_X5_bit (nI m))) (r := mP r1 20 19 (r1 20 19 ||| ((1 : Int32) <<< (nI m &&& 31)))) ((X1.c rfl rfl).r rfl rfl) i14 i7 (by
            show Td (c1 16 8 ||| P_X5_bit (nI m)) (r1 20 19 ||| ((1 : Int32) <<< (nI m &&& 31)))
            rw [t1, t2]; exact tU) i0 he' q3 q12
          refine ⟨_, by rw [eC, e1, j40_eq, eN], ?_⟩
          have hz3 : (P_X3_step (mP c1 16 8 (c1 16 8 ||| P_X5_bit (nI m)))) 16 9 = 0 → PZ (P_X3_step (mP c1 16 8 (c1 16 8 ||| P_X5_bit (nI m)))) (r3 21) := fun _ => by
            rw [sR_o b3 21 (by decide)]
            show PZ _ (r1 21)
            rw [o1]
            exact (hz.k s6a).k (k6_P_X3_step (Kp.rf.w rfl))
          unfold P_X6_aBreak
          rw [a1]
          refine ok_bo (P := fun m' => m' = r1) ⟨_, rfl, rfl⟩ (fun m' em => ?_)
          subst em
          rw [if_pos r10, e13, if_pos (show nI m ≤ 1 from (nI_leI (b := 1) (by omega) (by decide)).mpr (by omega))]
          unfold mBd
          dsimp only
          rw [if_pos hb, b1]
          refine ok_bo (P := fun m'' => m'' = r3) ⟨_, rfl, rfl⟩ (fun m'' em => ?_)
          subst em
          have row : ∀ w : Nat, ((176 : Int32) + ((5 : Int32) * nI m)) + nI w = nI (176 + (m * 5 + w)) := fun w => by
            show (nI 176 + nI 5 * nI m) + nI w = _
            rw [show nI 5 * nI m = nI (5 * m) from (Int32.ofNat_mul 5 m).symm, nI_add, nI_add, show 176 + 5 * m + w = 176 + (m * 5 + w) from by omega]
          have row0 : ((176 : Int32) + ((5 : Int32) * ((mP m' 20 19 (m' 20 19 ||| ((1 : Int32) <<< (nI m &&& 31)))) 20 13))) + 0 = nI (176 + (m * 5 + 0)) := by
            rw [show (mP m' 20 19 (m' 20 19 ||| ((1 : Int32) <<< (nI m &&& 31)))) 20 13 = nI m from e13]; exact row 0
          have row2 : ((176 : Int32) + ((5 : Int32) * ((mP m' 20 19 (m' 20 19 ||| ((1 : Int32) <<< (nI m &&& 31)))) 20 13))) + 2 = nI (176 + (m * 5 + 2)) := by
            rw [show (mP m' 20 19 (m' 20 19 ||| ((1 : Int32) <<< (nI m &&& 31)))) 20 13 = nI m from e13]; exact row 2
          have row4 : ((176 : Int32) + ((5 : Int32) * ((mP m' 20 19 (m' 20 19 ||| ((1 : Int32) <<< (nI m &&& 31)))) 20 13))) + 4 = nI (176 + (m * 5 + 4)) := by
            rw [show (mP m' 20 19 (m' 20 19 ||| ((1 : Int32) <<< (nI m &&& 31)))) 20 13 = nI m from e13]; exact row 4
          exact rest_eq b2 hz3 hm2 row0 row2 row4
        · have hn : ¬ c1 16 8 &&& P_X5_bit (nI m) = 0 := fun z => hb (tA.mp z)
          obtain ⟨p, ep, f1, f2⟩ := told_f i14 i7 i0 T1.1 T1.k.2.2.2.2 hn
          have f3 := f2.k (kf_P_X3_takeNumber f2.1 Kp.rf (x1 := 0) (x2 := 1))
          have f4 := f3.k (kf_cb f3.1 Kp.rf (m := (P_X3_takeNumber (P_X3_tellOnce c1 (P_X5_bit (nI m))) 0 1).1))
          refine ⟨_, by rw [eC, j40_eq], ?_⟩
          unfold P_X6_aBreak
          rw [a1]
          refine ok_bo (P := fun m' => m' = r1) ⟨_, rfl, rfl⟩ (fun m' em => ?_)
          subst em
          rw [if_pos r10, e13, if_pos (show nI m ≤ 1 from (nI_leI (b := 1) (by omega) (by decide)).mpr (by omega))]
          unfold mBd
          dsimp only
          rw [if_neg hb, ep]
          exact ok_s (Or.inr ⟨f1, f4⟩)
      · have eb : P_X5_isBreak (nI m) = 0 := by
          unfold P_X5_isBreak
          rw [if_neg (show ¬ nI m = 0 from fun y => by have := nI_j (a := m) (b := 0) (by omega) (by decide) y; omega), if_neg (show ¬ nI m = 1 from fun y => by have := nI_j (a := m) (b := 1) (by omega) (by decide) y; omega)]
        rw [eb, if_pos rfl] at eC
        have nl : ¬ nI m ≤ 1 := fun z => by have := (nI_leI (b := 1) (by omega) (by decide)).mp z; omega
        have eN : P_X3_takeNumber c1 0 1 = (0, P_X3_fail c1 4) := by
          unfold P_X3_takeNumber J_X3_takeNumber_39 mBd
          rw [if_pos i0, if_pos k, e6, if_neg (nI_pos (by omega)), if_neg nl]
        refine ⟨_, by rw [eC, j40_eq], ?_⟩
        unfold P_X6_aBreak
        rw [a1]
        refine ok_bo (P := fun m' => m' = r1) ⟨_, rfl, rfl⟩ (fun m' em => ?_)
        subst em
        rw [if_pos r10, e13, if_neg nl]
        exact ok_bo (fl_t (x := 4) i14 i7 i0 T1.1 T1.k.2.2.2.2 (by decide)) (fun p z => ok_s (Or.inr ⟨z.1, num_f 4 eN p z.2⟩))
    · rw [if_neg k] at eC
      have eN : P_X3_takeNumber c1 0 1 = (0, P_X3_fail c1 2) := by
        unfold P_X3_takeNumber mBd
        rw [if_pos i0, if_neg k]
      refine ⟨_, by rw [eC, j40_eq], ?_⟩
      unfold P_X6_aBreak
      rw [a1]
      refine ok_bo (P := fun m' => m' = r1) ⟨_, rfl, rfl⟩ (fun m' em => ?_)
      subst em
      rw [if_neg (fun z => k (T1.k.1.mpr z))]
      exact ok_bo (fl_t (x := 2) i14 i7 i0 T1.1 T1.k.2.2.2.2 (by decide)) (fun p z => ok_s (Or.inr ⟨z.1, num_f 2 eN p z.2⟩))
  · have hn : ¬ c1 16 9 = 0 := by rw [B.1]; decide
    rw [if_neg hn] at eC
    refine ⟨_, by rw [eC, j40_eq], ?_⟩
    unfold P_X6_aBreak
    rw [a1]
    refine ok_bo (P := fun m' => m' = r1) ⟨_, rfl, rfl⟩ (fun m' em => ?_)
    subst em
    rw [if_neg (by rw [B.2.2.2]; decide)]
    refine ok_bo (fl_b (x := 2) i14 i7 B) (fun p z => ok_s (Or.inr ⟨z.1, ?_⟩))
    have f3 := z.2.k (kf_P_X3_takeNumber z.2.1 Kp.rf (x1 := 0) (x2 := 1))
    exact f3.k (kf_cb f3.1 Kp.rf (m := (P_X3_takeNumber c1 0 1).1))
