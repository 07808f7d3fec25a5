/-! The two readers side by side: the marks of a phase -/
theorem TS.pl {n : Nat} {b : Nat → Int32} {c c' r r' : mC} (h : TS n b c r) (e16 : c' 16 = c 16) (e19 : c' 19 = c 19) (e20 : r' 20 = r 20) (e23 : r' 23 = r 23) : TS n b c' r' := by
  unfold TS CX Tok Bad Z14 at h ⊢
  rw [e16, e19, e20, e23]
  exact h
theorem s6_o {c c' : mC} (k : Kp s6 c c') : ∀ j, j ≠ 16 → c' j = c j := fun j hj => by
  funext q
  refine k j q ?_
  unfold s6
  rw [show Nat.beq j 16 = false from by
    cases z : Nat.beq j 16 with
    | false => rfl
    | true => exact absurd (Nat.eq_of_beq_eq_true z) hj]
  rfl
def PZ (c : mC) (f : Nat → Int32) : Prop := ∃ N, PX N c f ∧ c 1 0 = nI N ∧ f 0 = nI N ∧ ∀ p k, N ≤ p → p < 8 → k < 10 → f (32 + 18 * p + 2 + k) = 0
theorem PZ.e {c : mC} {f : Nat → Int32} (h : PZ c f) : PE c f := by
  obtain ⟨N, h1, h2, h3, _⟩ := h
  exact ⟨N, h1, h2, h3⟩
theorem PX.c {N : Nat} {c c' : mC} {f : Nat → Int32} (h : PX N c f) (e : ∀ j, j ≤ 6 → c' j = c j) : PX N c' f := by
  unfold PX at h ⊢
  rw [e 1 (by decide), e 2 (by decide), e 3 (by decide), e 4 (by decide), e 5 (by decide), e 6 (by decide)]
  exact h
theorem PZ.c {c c' : mC} {f : Nat → Int32} (h : PZ c f) (e : ∀ j, j ≤ 6 → c' j = c j) : PZ c' f := by
  obtain ⟨N, h1, h2, h3, h4⟩ := h
  exact ⟨N, h1.c e, by rw [e 1 (by decide)]; exact h2, h3, h4⟩
theorem PZ.k {c c' : mC} {f : Nat → Int32} (h : PZ c f) (k : Kp s6 c c') : PZ c' f := h.c (fun j hj => s6_o k j (by omega))
/-- the end of a row of the reader ahead of its line's end -/
def Ln (n : Nat) (b : Nat → Int32) (c' : mC) (p : Int32 × mC) : Prop := (p.1 = 1 ∧ TS n b c' p.2 ∧ (c' 16 9 = 0 → PZ c' (p.2 21))) ∨ (p.1 = 0 ∧ Fa c' p.2)
theorem endLine_f {c : mC} (h : ¬ c 16 9 = 0) : P_X3_endLine c = c := by
  unfold P_X3_endLine
  rw [if_neg h]
theorem ln_56 {n : Nat} {b : Nat → Int32} {c : mC} {p : Int32 × mC} (h : Ln n b c p) : ok (Ln n b (P_X3_endLine c)) (J_X6_aLine_56 p.2 p.1) := by
  rcases h with ⟨e, h, z⟩ | ⟨e, h⟩
  · rw [e]
    refine ok_mo (end_eq h) (fun q hq => ?_)
    rcases hq with ⟨a1, a2, a3⟩ | ⟨a1, a2⟩
    · refine Or.inl ⟨a1, a2, fun h9 => ?_⟩
      have h0 : c 16 9 = 0 := by
        by_cases w : c 16 9 = 0
        · exact w
        · rw [endLine_f w] at h9; exact h9
      rw [a3 21 (by decide)]
      exact (z h0).k (k6_P_X3_endLine (c0 := c) Kp.rf)
    · exact Or.inr ⟨a1, a2⟩
  · rw [e]
    exact ok_s (Or.inr ⟨rfl, h.k (kf_P_X3_endLine h.1 Kp.rf)⟩)
/-- while the marks of the phase N are read -/
def PM (N : Nat) (c : mC) (f : Nat → Int32) : Prop := PX (N + 1) c f ∧ c 1 0 = nI (N + 1) ∧ f 0 = nI N ∧ ∀ p k, N + 1 ≤ p → p < 8 → k < 10 → f (32 + 18 * p + 2 + k) = 0
theorem PM.k {N : Nat} {c c' : mC} {f : Nat → Int32} (h : PM N c f) (k : Kp s6 c c') : PM N c' f := by
  obtain ⟨h1, h2, h3, h4⟩ := h
  have e := s6_o k
  exact ⟨h1.c (fun j hj => e j (by omega)), by rw [e 1 (by decide)]; exact h2, h3, h4⟩
theorem PM.m {N : Nat} {c r : mC} {k : Nat} {v : Int32} (h : PM N c (r 21)) (hN : N < 8) (hk : k < 10) : PM N (P_X2_putMark c (nI N) (nI k) v) ((mP r 21 (32 + 18 * N + 2 + k) v) 21) := by
  obtain ⟨⟨h1, h2, h3, h4, h5, h6, h7⟩, g2, g3, g4⟩ := h
  have e := putMark_eq (c := c) (v := v) hN hk
  have ej : ∀ j, j ≠ 1 → ∀ q, P_X2_putMark c (nI N) (nI k) v j q = mP c 5 (N * 10 + k) v j q := fun j hj q => by
    refine e j q ?_
    unfold sV
    rw [show Nat.beq j 1 = false from by
      cases z : Nat.beq j 1 with
      | false => rfl
      | true => exact absurd (Nat.eq_of_beq_eq_true z) hj]
    rfl
  have e2 : P_X2_putMark c (nI N) (nI k) v 2 = c 2 := funext (fun q => ej 2 (by decide) q)
  have e3 : P_X2_putMark c (nI N) (nI k) v 3 = c 3 := funext (fun q => ej 3 (by decide) q)
  have e4 : P_X2_putMark c (nI N) (nI k) v 4 = c 4 := funext (fun q => ej 4 (by decide) q)
  have e6 : P_X2_putMark c (nI N) (nI k) v 6 = c 6 := funext (fun q => ej 6 (by decide) q)
  refine ⟨⟨h1, fun p hp => ⟨?_, ?_, fun q hq => ?_⟩, fun p hp => ?_, fun p a1 a2 => ?_, ?_, ?_, fun w hw => ?_⟩, ?_, ?_, fun p q a1 a2 a3 => ?_⟩
  · rw [e2, rd21, if_neg (by omega)]; exact (h2 p hp).1
  · rw [e3, rd21, if_neg (by omega)]; exact (h2 p hp).2.1
  · rw [ej 5 (by decide), rd21]
    by_cases z : p = N ∧ q = k
    · rw [z.1, z.2, mP_s, if_pos rfl]
    · rw [mP_n _ _ _ (by omega), if_neg (by omega)]; exact (h2 p hp).2.2 q hq
  · rw [e2, e3, e4]; exact h3 p hp
  · rw [e4]; exact h4 p a1 a2
  · rw [e 1 1 rfl, rd21, if_neg (by omega)]; exact h5
  · rw [e 1 2 rfl, rd21, if_neg (by omega)]; exact h6
  · rw [e6, rd21, if_neg (by omega)]; exact h7 w hw
  · rw [e 1 0 rfl]; exact g2
  · rw [rd21, if_neg (by omega)]; exact g3
  · rw [rd21, if_neg (by omega)]; exact g4 p q a1 a2 a3
theorem putsP_n {r : mC} {p w : Nat} {v : Int32} (hp : p < 8) (hw : w < 18) : P_X6_putsPhase r (nI p) (nI w) v = some (mP r 21 (32 + 18 * p + w) v) := by
  unfold P_X6_putsPhase
  rw [phase_n, puts_n (by omega)]; rfl
theorem PM.i {N : Nat} {c c' : mC} {f f' : Nat → Int32} {x1 x2 : Int32} (hN : N < 8) (h : PX N c f) (h0 : f 0 = nI N) (hz : ∀ p k, N ≤ p → p < 8 → k < 10 → f (32 + 18 * p + 2 + k) = 0) (g : NP N x1 x2 c c') (hf : ∀ q, f' q = if q = 32 + 18 * N then x1 else if q = 32 + 18 * N + 1 then x2 else if 32 + 18 * N + 2 ≤ q ∧ q < 32 + 18 * N + 7 then us (q - (32 + 18 * N + 2)) else f q) : PM N c' f' := by
  obtain ⟨h1, h2, h3, h4, h5, h6, h7⟩ := h
  obtain ⟨g0, g1, g2, gR, gS, g4, g40, g5, g6, _⟩ := g
  have us0 : ∀ k, k < 10 → 5 ≤ k → us k = 0 := by decide
  refine ⟨⟨by omega, fun p hp => ⟨?_, ?_, fun q hq => ?_⟩, g4, g40, ?_, ?_, fun w hw => ?_⟩, g0, ?_, fun p q a1 a2 a3 => ?_⟩
  · rw [gR, hf]
    by_cases z : p = N
    · rw [z, upF_s, if_pos rfl]
    · rw [upF_n z, if_neg (by omega), if_neg (by omega), if_neg (by omega)]; exact (h2 p (by omega)).1
  · rw [gS, hf]
    by_cases z : p = N
    · rw [z, upF_s, if_neg (by omega), if_pos rfl]
    · rw [upF_n z, if_neg (by omega), if_neg (by omega), if_neg (by omega)]; exact (h2 p (by omega)).2.1
  · have e1 : f' (32 + 18 * p + 2 + q) = (if 32 + 18 * N + 2 ≤ (32 + 18 * p + 2 + q) ∧ (32 + 18 * p + 2 + q) < 32 + 18 * N + 7 then us ((32 + 18 * p + 2 + q) - (32 + 18 * N + 2)) else f (32 + 18 * p + 2 + q)) := by rw [hf, if_neg (by omega), if_neg (by omega)]
    rw [g5, e1]
    by_cases z : p = N
    · rw [z, if_pos (show N * 10 ≤ N * 10 + q ∧ N * 10 + q < N * 10 + 10 from by omega), show N * 10 + q - N * 10 = q from by omega]
      by_cases w : q < 5
      · rw [if_pos (by omega), show 32 + 18 * N + 2 + q - (32 + 18 * N + 2) = q from by omega]
      · rw [if_neg (by omega), hz N q (Nat.le_refl _) hN hq, us0 q hq (by omega)]
    · rw [if_neg (show ¬ (N * 10 ≤ p * 10 + q ∧ p * 10 + q < N * 10 + 10) from by omega), if_neg (by omega)]; exact (h2 p (by omega)).2.2 q hq
  · rw [g1, hf, if_neg (by omega), if_neg (by omega), if_neg (by omega)]; exact h5
  · rw [g2, hf, if_neg (by omega), if_neg (by omega), if_neg (by omega)]; exact h6
  · rw [g6, hf, if_neg (by omega), if_neg (by omega), if_neg (by omega)]; exact h7 w hw
  · rw [hf, if_neg (by omega), if_neg (by omega), if_neg (by omega)]; exact h0
  · rw [hf, if_neg (by omega), if_neg (by omega), if_neg (by omega)]; exact hz p q (by omega) a2 a3
def pc (a : Nat) : Nat := a % 2 + a / 2 % 2 + a / 4 % 2 + a / 8 % 2 + a / 16 % 2 + a / 32 % 2 + a / 64 % 2 + a / 128 % 2 + a / 256 % 2 + a / 512 % 2
theorem pc_le (a : Nat) : pc a ≤ 10 := by unfold pc; omega
theorem pc_up : ∀ a, a < 1024 → ∀ k, k < 10 → P_X6_has (nI a) (nI k) = 0 → a + 2 ^ k < 1024 ∧ pc (a + 2 ^ k) = pc a + 1 ∧ nI a ||| ((1 : Int32) <<< (nI k &&& 31)) = nI (a + 2 ^ k) := by decide +kernel
theorem lm_n : ∀ k, k < 10 → cl 10 (mRO (fun _ => 0, 0) 9 27) (nI k) = P_X6_leastOf (nI k) ∧ cl 10 (mRO (fun _ => 0, 0) 9 28) (nI k) = P_X6_mostOf (nI k) := by decide +kernel
theorem mk_stop {N x2 x3 : Int32} {s : mC} (h : ¬ s 16 9 = 0) : mWh (fun _ _ => 0) (B_X3_readMarks_4 N) (x2, x3, s) = s := by
  rw [mWh_eq tm_X3_readMarks_4]
  have eB : B_X3_readMarks_4 N (x2, x3, s) = .inr s := by
    unfold B_X3_readMarks_4
    dsimp only
    by_cases z : 10 < x3
    · rw [if_pos z]
    · rw [if_neg z, if_neg h]
  rw [eB]
theorem marks_aux {n : Nat} {b : Nat → Int32} {N : Nat} (hN : N < 8) (m : Nat) (ih : ∀ a' c' r', a' < 1024 → pc a' + m = 11 → TS n b c' r' → PM N c' (r' 21) → ∃ c1, P_X3_endLine (mWh (fun _ _ => 0) (B_X3_readMarks_4 (nI N)) (nI a', nI (pc a'), c')) = P_X3_endLine c1 ∧ ok (Ln n b c1) (mWh none (B_X6_aPhase_108 (nI N)) (nI a', r'))) (a : Nat) (c r : mC) (ha : a < 1024) (hp : pc a + m = 10) (hT : TS n b c r) (hM : PM N c (r 21)) : ∃ c1, P_X3_endLine (mWh (fun _ _ => 0) (B_X3_readMarks_4 (nI N)) (nI a, nI (pc a), c)) = P_X3_endLine c1 ∧ ok (Ln n b c1) (mWh none (B_X6_aPhase_108 (nI N)) (nI a, r)) := by
  have h10 : ¬ (10 : Int32) < nI (pc a) := fun z => by have := (nI_ltI (a := 10) (by decide) (by have := pc_le a; omega)).mp z; omega
  -- leaving the loop
  have leave : ∀ v, P_X6_key r = some v → P_X6_isFrom v 0 9 = 0 → ok (Ln n b c) (mWh none (B_X6_aPhase_108 (nI N)) (nI a, r)) := fun v ev hv => by
    rw [mWh_eq tm_X6_aPhase_108]
    have eB : B_X6_aPhase_108 (nI N) (nI a, r) = .inr (some (1, mP r 21 0 (nI (N + 1)))) := by
      unfold B_X6_aPhase_108 mBd
      dsimp only
      rw [ev]
      simp only [mBo]
      rw [if_pos hv, show P_X6_adds r 0 1 = some (mP r 21 0 (r 21 0 + 1)) from rfl, hM.2.2.1, nI_1]
    rw [eB]
    have key : ∀ q, q ≠ 0 → (mP r 21 0 (nI (N + 1))) 21 q = r 21 q := fun q hq => by rw [rd21, if_neg hq]
    refine ok_s (Or.inl ⟨rfl, hT.pl rfl rfl rfl rfl, fun _ => ⟨N + 1, ?_, hM.2.1, ?_, fun p k a1 a2 a3 => ?_⟩⟩)
    · obtain ⟨⟨h1, h2, h3, h4, h5, h6, h7⟩, _⟩ := hM
      exact ⟨h1, fun p hp => ⟨(h2 p hp).1.trans (key _ (by omega)).symm, (h2 p hp).2.1.trans (key _ (by omega)).symm, fun q hq => ((h2 p hp).2.2 q hq).trans (key _ (by omega)).symm⟩, h3, h4, h5.trans (key _ (by decide)).symm, h6.trans (key _ (by decide)).symm, fun w hw => (h7 w hw).trans (key _ (by omega)).symm⟩
    · rfl
    · exact (key _ (by omega)).trans (hM.2.2.2 p k a1 a2 a3)
  obtain ⟨X, h14, h7, h8, ht⟩ := id hT
  rcases ht with ⟨h0, T⟩ | B
  · obtain ⟨v, ev, hv, hk1, hw⟩ := key_eq X T
    have hm := mark_eq X hv hw
    by_cases k1 : c 16 5 = 1
    · by_cases hF : P_X6_isFrom v 0 9 = 0
      · -- a word that is no mark
        refine ⟨c, ?_, leave v ev hF⟩
        rw [if_pos hF] at hm
        rw [mWh_eq tm_X3_readMarks_4]
        have eB : B_X3_readMarks_4 (nI N) (nI a, nI (pc a), c) = .inl (nI a, nI (pc a) + 1, P_X3_fail c 2) := by
          unfold B_X3_readMarks_4 mBd
          dsimp only
          rw [if_neg h10, if_pos h0, if_pos k1, hm, if_pos rfl]
          rfl
        rw [eB]
        have hf : ¬ (P_X3_fail c 2) 16 9 = 0 := by rw [fail_0 h0]; exact (by decide : ¬ (2 : Int32) = 0)
        dsimp only
        rw [mk_stop hf, endLine_f hf]
        unfold P_X3_endLine mBd
        rw [if_pos h0, if_neg (by rw [k1]; decide)]
      · -- a mark
        rw [if_neg hF] at hm
        obtain ⟨k, hk, rfl⟩ : ∃ k, k < 10 ∧ v = nI k := by
          rcases hv with rfl | ⟨i, hi, rfl⟩
          · exact absurd (by decide) hF
          · refine ⟨i, ?_, rfl⟩
            have : ¬ 10 ≤ i := fun z => hF (isF_or.mpr (Or.inr ((nI_ltI (a := 9) (by decide) (by omega)).mpr (by omega))))
            omega
        have nm : ¬ nI k = -1 := fun z => by
          have : ¬ nI k < 0 := nI_pos (by omega)
          rw [z] at this; exact this (by decide)
        have hbit : ((nI a >>> (nI k &&& 31)) &&& 1 = 0) ↔ P_X6_has (nI a) (nI k) = 0 := by
          unfold P_X6_has
          rcases and1 (nI a >>> (nI k &&& 31)) with z | z
          · rw [z, if_neg (by decide)]
          · rw [z, if_pos rfl]
        by_cases hb : P_X6_has (nI a) (nI k) = 0
        · obtain ⟨u1, u2, u3⟩ := pc_up a ha k hk hb
          obtain ⟨e, he, p3, p12⟩ := T.p (by rw [k1]; decide)
          obtain ⟨r1, a1, a2, a3⟩ := ts_step X h14 h7 h8 h0 he p3 p12
          obtain ⟨p9, e9, h9⟩ := num_eq a2 (P_X6_leastOf (nI k)) (P_X6_mostOf (nI k))
          have eC : B_X3_readMarks_4 (nI N) (nI a, nI (pc a), c) = .inl (nI (a + 2 ^ k), nI (pc (a + 2 ^ k)), P_X2_putMark (P_X3_takeNumber (P_X3_step c) (P_X6_leastOf (nI k)) (P_X6_mostOf (nI k))).2 (nI N) (nI k) (P_X3_takeNumber (P_X3_step c) (P_X6_leastOf (nI k)) (P_X6_mostOf (nI k))).1) := by
            unfold B_X3_readMarks_4 mBd
            dsimp only
            rw [if_neg h10, if_pos h0, if_pos k1, hm, if_neg nm, if_pos (hbit.mpr hb), (lm_n k hk).1, (lm_n k hk).2]
            unfold J_X3_readMarks_103
            rw [u3, u2, nI_1]
          rw [mWh_eq tm_X3_readMarks_4, eC, mWh_eq tm_X6_aPhase_108]
          dsimp only
          have s6a : Kp s6 c (P_X3_step c) := k6_P_X3_step (c0 := c) Kp.rf
          have s6b : Kp s6 c (P_X3_takeNumber (P_X3_step c) (P_X6_leastOf (nI k)) (P_X6_mostOf (nI k))).2 := k6_P_X3_takeNumber s6a
          rcases h9 with ⟨b1, b2, b3, b4, b5⟩ | ⟨b1, b2⟩
          · have eB : B_X6_aPhase_108 (nI N) (nI a, r) = .inl (nI (a + 2 ^ k), mP p9.2 21 (32 + 18 * N + (2 + k)) (p9.2 20 20)) := by
              unfold B_X6_aPhase_108 mBd
              dsimp only
              rw [ev]
              simp only [mBo]
              rw [if_neg hF, if_pos hb, a1]
              dsimp only
              rw [e9]
              dsimp only
              rw [if_neg (by rw [b1]; decide), show (2 : Int32) + nI k = nI (2 + k) from nI_add 2 k, putsP_n hN (by omega)]
              dsimp only
              rw [u3]
            rw [eB]
            dsimp only
            generalize (P_X3_takeNumber (P_X3_step c) (P_X6_leastOf (nI k)) (P_X6_mostOf (nI k))) = w at *
            have hq := kq_P_X2_putMark (c0 := w.2) Kp.rf (x1 := nI N) (x2 := nI k) (x3 := w.1)
            refine ih _ _ _ u1 (by omega) (b2.pl ?_ ?_ rfl rfl) ?_
            · funext q; exact hq 16 q rfl
            · funext q; exact hq 19 q rfl
            · have hM1 : PM N w.2 (p9.2 21) := by
                rw [b3 21 (by decide), sR_o a3 21 (by decide)]
                exact hM.k s6b
              have := hM1.m (v := w.1) hN hk
              rw [b4, show 32 + 18 * N + (2 + k) = 32 + 18 * N + 2 + k from by omega]
              exact this
          · have eB : B_X6_aPhase_108 (nI N) (nI a, r) = .inr (some (0, p9.2)) := by
              unfold B_X6_aPhase_108 mBd
              dsimp only
              rw [ev]
              simp only [mBo]
              rw [if_neg hF, if_pos hb, a1]
              dsimp only
              rw [e9]
              dsimp only
              rw [if_pos b1]
            rw [eB]
            have hq := kf_P_X2_putMark (c0 := (P_X3_takeNumber (P_X3_step c) (P_X6_leastOf (nI k)) (P_X6_mostOf (nI k))).2) b2.1 Kp.rf (x1 := nI N) (x2 := nI k) (x3 := (P_X3_takeNumber (P_X3_step c) (P_X6_leastOf (nI k)) (P_X6_mostOf (nI k))).1)
            have b3 := b2.k hq
            rw [mk_stop b3.1]
            exact ⟨_, rfl, ok_s (Or.inr ⟨rfl, b3⟩)⟩
        · -- told twice
          rw [mWh_eq tm_X3_readMarks_4, mWh_eq tm_X6_aPhase_108]
          have eC : B_X3_readMarks_4 (nI N) (nI a, nI (pc a), c) = .inl (nI a, nI (pc a) + 1, P_X3_fail c 5) := by
            unfold B_X3_readMarks_4 mBd
            dsimp only
            rw [if_neg h10, if_pos h0, if_pos k1, hm, if_neg nm, if_neg (fun z => hb (hbit.mp z))]
            rfl
          have hf : ¬ (P_X3_fail c 5) 16 9 = 0 := by rw [fail_0 h0]; exact (by decide : ¬ (5 : Int32) = 0)
          obtain ⟨p, e5, f1, f2⟩ := fl_t (x := 5) h14 h7 h0 T.1 T.k.2.2.2.2 (by decide)
          have eB : B_X6_aPhase_108 (nI N) (nI a, r) = .inr (some (p.1, p.2)) := by
            unfold B_X6_aPhase_108 mBd
            dsimp only
            rw [ev]
            simp only [mBo]
            rw [if_neg hF, if_neg hb, e5]
          rw [eC, eB]
          dsimp only
          rw [mk_stop hf]
          exact ⟨_, rfl, ok_s (Or.inr ⟨f1, f2⟩)⟩
    · -- no word
      have hvm : v = -1 := hk1.resolve_right k1
      refine ⟨c, ?_, leave v ev (by rw [hvm]; decide)⟩
      rw [mWh_eq tm_X3_readMarks_4]
      have eB : B_X3_readMarks_4 (nI N) (nI a, nI (pc a), c) = .inr c := by
        unfold B_X3_readMarks_4
        dsimp only
        rw [if_neg h10, if_pos h0, if_neg k1]
      rw [eB]
  · have ek : P_X6_key r = some (-1) := by
      unfold P_X6_key
      rw [if_neg (by rw [B.2.2.2]; decide)]
    refine ⟨c, ?_, leave (-1) ek (by decide)⟩
    rw [mk_stop (by rw [B.1]; decide)]
theorem marks_eq {n : Nat} {b : Nat → Int32} {N : Nat} (hN : N < 8) : ∀ m a c r, a < 1024 → pc a + m = 10 → TS n b c r → PM N c (r 21) → ∃ c1, P_X3_endLine (mWh (fun _ _ => 0) (B_X3_readMarks_4 (nI N)) (nI a, nI (pc a), c)) = P_X3_endLine c1 ∧ ok (Ln n b c1) (mWh none (B_X6_aPhase_108 (nI N)) (nI a, r)) := by
  intro m
  induction m with
  | zero =>
    intro a c r ha hp hT hM
    exact marks_aux hN 0 (fun a' c' r' _ h => by have := pc_le a'; omega) a c r ha hp hT hM
  | succ m ih =>
    intro a c r ha hp hT hM
    exact marks_aux hN (m + 1) (fun a' c' r' h1 h2 => ih a' c' r' h1 (by omega)) a c r ha hp hT hM
