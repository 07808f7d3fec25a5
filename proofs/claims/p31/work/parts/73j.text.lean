/-! The two readers side by side: the text -/
/-- a line of the class's text -/
noncomputable def clL (c : mC) : mC := if P_X3_isWord 0 c = 0 then (if P_X3_isWord 1 c = 0 then (if P_X3_isWord 2 c = 0 then (if P_X3_isWord 3 c = 0 then P_X3_fail c 2 else P_X3_readBreak c) else P_X3_readOffset c) else P_X3_readCycle c) else P_X3_readPhase c
theorem wd_x : wd 10 = 0 ∧ wd 11 = 1 ∧ wd 12 = 2 ∧ wd 13 = 3 := by decide
theorem line_eq {n : Nat} {b : Nat → Int32} {c r : mC} (h : TS n b c r) (h0 : c 16 9 = 0) (hz : PZ c (r 21)) : ok (Ln n b (clL c)) (P_X6_aLine r) := by
  obtain ⟨X, h14, h7, h8, _⟩ := id h
  have T := h.tok h0
  obtain ⟨v, ev, hv, hk, hw⟩ := key_eq X T
  have w0 := hw 10 (by decide)
  have w1 := hw 11 (by decide)
  have w2 := hw 12 (by decide)
  have w3 := hw 13 (by decide)
  rw [wd_x.1] at w0
  rw [wd_x.2.1] at w1
  rw [wd_x.2.2.1] at w2
  rw [wd_x.2.2.2] at w3
  have k1 : ∀ i : Nat, i < 17 → v = nI i → c 16 5 = 1 := fun i hi e => hk.resolve_left (fun z => by
    have : ¬ nI i < 0 := nI_pos (by omega)
    rw [← e, z] at this; exact this (by decide))
  unfold P_X6_aLine J_X6_aLine_30
  refine ok_bo (P := fun w => w = v) ⟨v, ev, rfl⟩ (fun w ew => ?_)
  subst ew
  have jn : ∀ {i j : Nat}, i < 17 → j < 17 → i ≠ j → ¬ (nI i : Int32) = nI j := fun hi hj hn z => hn (nI_j (by omega) (by omega) z)
  unfold clL
  refine ok_if (fun q => ?_) (fun q => ?_)
  · have q' : w = nI 10 := q
    obtain ⟨c1, e1, g⟩ := phase_eq h h0 (k1 10 (by decide) q') hz
    rw [w0, if_pos q', if_neg (by decide), e1]
    exact ok_bo g (fun p z => ln_56 z)
  · have q' : ¬ w = nI 10 := q
    rw [w0, if_neg q', if_pos rfl]
    refine ok_if (fun q2 => ?_) (fun q2 => ?_)
    · have q2' : w = nI 11 := q2
      obtain ⟨c1, e1, g⟩ := cycle_eq h h0 (q2' ▸ ev) hz
      rw [w1, if_pos q2', if_neg (by decide), e1, q2]
      exact ok_bo g (fun p z => ln_56 z)
    · have q2' : ¬ w = nI 11 := q2
      rw [w1, if_neg q2', if_pos rfl]
      refine ok_if (fun q3 => ?_) (fun q3 => ?_)
      · have q3' : w = nI 12 := q3
        obtain ⟨c1, e1, g⟩ := offset_eq h h0 (q3' ▸ ev) hz
        rw [w2, if_pos q3', if_neg (by decide), e1, q3]
        exact ok_bo g (fun p z => ln_56 z)
      · have q3' : ¬ w = nI 12 := q3
        rw [w2, if_neg q3', if_pos rfl]
        refine ok_if (fun q4 => ?_) (fun q4 => ?_)
        · have q4' : w = nI 13 := q4
          obtain ⟨c1, e1, g⟩ := break_eq h h0 (k1 13 (by decide) q4') hz
          rw [w3, if_pos q4', if_neg (by decide), e1]
          exact ok_bo g (fun p z => ln_56 z)
        · have q4' : ¬ w = nI 13 := q4
          rw [w3, if_neg q4', if_pos rfl]
          refine ok_bo (fl_t (x := 2) h14 h7 h0 T.1 T.k.2.2.2.2 (by decide)) (fun p z => ?_)
          rw [z.1]
          exact ok_s (Or.inr ⟨rfl, z.2⟩)
theorem readText_B (x2 : Int32) (c : mC) : B_X3_readText_56 (x2, c) = if 700 < x2 then .inr c else if c 16 9 = 0 then (if c 16 5 = 0 then .inr c else .inl (x2 + 1, clL c)) else .inr c := by
  unfold B_X3_readText_56 clL J_X3_readText_146
  dsimp only
  by_cases a : 700 < x2
  · rw [if_pos a, if_pos a]
  rw [if_neg a, if_neg a]
  by_cases b : c 16 9 = 0
  · rw [if_pos b, if_pos b]
    by_cases d : c 16 5 = 0
    · rw [if_pos d, if_pos d]
    rw [if_neg d, if_neg d, mBd_eq]
    by_cases e : P_X3_isWord 0 c = 0
    · rw [if_pos e, if_pos e, mBd_eq]
      by_cases f : P_X3_isWord 1 c = 0
      · rw [if_pos f, if_pos f, mBd_eq]
        by_cases g : P_X3_isWord 2 c = 0
        · rw [if_pos g, if_pos g, mBd_eq]
          by_cases h : P_X3_isWord 3 c = 0
          · rw [if_pos h, if_pos h, mBd_eq]
          · rw [if_neg h, if_neg h, mBd_eq]
        · rw [if_neg g, if_neg g, mBd_eq]
      · rw [if_neg f, if_neg f, mBd_eq]
    · rw [if_neg e, if_neg e, mBd_eq]
  · rw [if_neg b, if_neg b]
/-- the end of both loops -/
def Te (c r : mC) : Prop := (c 16 9 = 0 ∧ Z14 r ∧ PZ c (r 21)) ∨ Fa c r
theorem text_eq {n : Nat} {b : Nat → Int32} {c0 : mC} : ∀ (M i : Nat) (c r : mC), mEnd r < M → i + mEnd r ≤ 2147483647 → TS n b c r → (c 16 9 = 0 → PZ c (r 21)) → Ar c0 r → ∃ r', mWh none B_X6_load_101 (1, r) = J_X6_load_120 r' ∧ L c0 r' ∧ Te (mWh (fun _ _ => 0) B_X3_readText_56 (nI i, c)) r' := by
  intro M
  induction M with
  | zero => intro i c r h; omega
  | succ M ih =>
    intro i c r hM hi h hz hA
    have hn := h.1.1
    rcases h.2.2.2.2 with ⟨h0, T⟩ | B
    · by_cases k0 : c 16 5 = 0
      · -- the end
        refine ⟨r, ?_, hA.1, Or.inl ?_⟩
        · rw [mWh_eq tm_X6_load_101]
          have eB : B_X6_load_101 (1, r) = .inr (J_X6_load_120 r) := by
            unfold B_X6_load_101
            dsimp only
            rw [if_neg (by decide), if_pos (T.k.2.2.1.mp k0)]
          rw [eB]
        · have e : mWh (fun _ _ => 0) B_X3_readText_56 (nI i, c) = c := by
            rw [mWh_eq tm_X3_readText_56, readText_B]
            by_cases a : 700 < nI i
            · rw [if_pos a]
            · rw [if_neg a, if_pos h0, if_pos k0]
          rw [e]
          exact ⟨h0, h.2.1, hz h0⟩
      · obtain ⟨e, he, p3, p12⟩ := T.p k0
        have mE : mEnd r = 2147483647 - e := by
          unfold mEnd mMx
          rw [p12, show (nI e).toInt = (e : Int) from Int32.toInt_ofNat_of_lt (by omega)]
          omega
        have hi7 : i ≤ 700 := by omega
        obtain ⟨p, ep, hp⟩ := line_eq h h0 (hz h0)
        have hA2 : Ar c0 p.2 := by
          obtain ⟨p', e', h'⟩ := t_aLine hA
          rw [ep] at e'
          rw [Option.some.inj e']; exact h'
        have eB : B_X6_load_101 (1, r) = .inl (p.1, p.2) := by
          unfold B_X6_load_101
          dsimp only
          rw [if_neg (by decide), if_neg (fun z => k0 (T.k.2.2.1.mpr z)), ep]
          rfl
        have eC : B_X3_readText_56 (nI i, c) = .inl (nI (i + 1), clL c) := by
          rw [readText_B, if_neg (fun z => by have := (nI_ltI (a := 700) (by decide) (by omega)).mp z; omega), if_pos h0, if_neg k0, nI_1]
        rw [mWh_eq tm_X6_load_101, eB, mWh_eq tm_X3_readText_56, eC]
        dsimp only
        rcases hp with ⟨a1, a2, a3⟩ | ⟨a1, a2⟩
        · rw [a1]
          have hm : mEnd p.2 < mEnd r := by
            rcases adv_aLine ep with z | z
            · exact absurd (a1.symm.trans z) (by decide)
            · exact z
          exact ih (i + 1) (clL c) p.2 (by omega) (by omega) a2 a3 hA2
        · rw [a1]
          refine ⟨p.2, ?_, hA2.1, Or.inr ?_⟩
          · rw [mWh_eq tm_X6_load_101]
            have eB2 : B_X6_load_101 (0, p.2) = .inr (J_X6_load_120 p.2) := by
              unfold B_X6_load_101
              dsimp only
              rw [if_pos rfl]
            rw [eB2]
          · have e : mWh (fun _ _ => 0) B_X3_readText_56 (nI (i + 1), clL c) = clL c := by
              rw [mWh_eq tm_X3_readText_56, readText_B]
              by_cases a : 700 < nI (i + 1)
              · rw [if_pos a]
              · rw [if_neg a, if_neg a2.1]
            rw [e]
            exact a2
    · -- a bad token: the class has its fault
      have hnf : ¬ c 16 9 = 0 := by rw [B.1]; decide
      have ek : P_X6_key r = some (-1) := by
        unfold P_X6_key
        rw [if_neg (by rw [B.2.2.2]; decide)]
      obtain ⟨p, ep, f1, f2⟩ := fl_b (x := 2) h.2.1 h.2.2.1 B
      have hA2 : Ar c0 p.2 := by
        obtain ⟨p', e', h'⟩ := t_fails hA (x := 2)
        rw [ep] at e'
        rw [Option.some.inj e']; exact h'.2.1
      have eL : P_X6_aLine r = some (0, p.2) := by
        unfold P_X6_aLine
        rw [ek]
        simp only [mBo]
        rw [if_neg (by decide), if_neg (by decide), if_neg (by decide), if_neg (by decide), ep]
        dsimp only
        unfold J_X6_aLine_56
        rw [if_pos f1]
      have eB : B_X6_load_101 (1, r) = .inl (0, p.2) := by
        unfold B_X6_load_101
        dsimp only
        rw [if_neg (by decide), if_neg (by rw [B.2.2.2]; decide), eL]
        rfl
      refine ⟨p.2, ?_, hA2.1, Or.inr ?_⟩
      · rw [mWh_eq tm_X6_load_101, eB]
        dsimp only
        rw [mWh_eq tm_X6_load_101]
        have eB2 : B_X6_load_101 (0, p.2) = .inr (J_X6_load_120 p.2) := by
          unfold B_X6_load_101
          dsimp only
          rw [if_pos rfl]
        rw [eB2]
      · have e : mWh (fun _ _ => 0) B_X3_readText_56 (nI i, c) = c := by
          rw [mWh_eq tm_X3_readText_56, readText_B]
          by_cases a : 700 < nI i
          · rw [if_pos a]
          · rw [if_neg a, if_neg hnf]
        rw [e]
        exact f2
theorem nf_loop (c : mC) (h : NF c) {x2 : Int32} : NF (mWh (fun _ _ => 0) B_X3_readText_56 (x2, c)) :=
  show pp (fun p : mC => NFr c p) _ from pp_wh (fun s : Int32 × mC => NFr c s.2) tm_X3_readText_56 nf_B_X3_readText_56 h
theorem i8_i8 : ∀ k : Fin 256, ((⟨⟨⟨k⟩⟩⟩ : Int8).toInt32).toInt8.toInt32 = (⟨⟨⟨k⟩⟩⟩ : Int8).toInt32 := by decide +kernel
theorem isB.s {v : Int32} (h : isB v) : v.toInt8.toInt32 = v := by
  obtain ⟨⟨⟨⟨k⟩⟩⟩, rfl⟩ := h
  exact i8_i8 k
/-- the reference's text is its tape's -/
theorem load25_eq {n : Nat} (hn : n ≤ 700) : ∀ m q (r : mC), q + m = n → ∃ r1, (∀ k, k < q → r1 23 k = r 23 k) ∧ (∀ k, q ≤ k → k < n → r1 23 k = (r 22 k).toInt8.toInt32) ∧ (∀ j, j ≠ 23 → r1 j = r j) ∧ mWh none (B_X6_load_25 (nI n)) (nI q, r) = (mBo (α := mC) none (P_X6_copies (mP (mP (mP (mP (mP (mP (mP r1 20 8 0) 20 14 0) 20 15 (-1)) 20 16 (-1)) 20 18 0) 20 19 0) 20 12 0) 0 288) (fun c1 => (mBo (α := mC) none (P_X6_begins c1) (fun c2 => (mBo (α := mC) none (P_X6_ahead c2) (fun c3 => (mWh none B_X6_load_101 (1, c3)))))))) := by
  intro m
  induction m with
  | zero =>
    intro q r hq
    refine ⟨r, fun _ _ => rfl, fun k a b => by omega, fun _ _ => rfl, ?_⟩
    rw [mWh_eq tm_X6_load_25]
    have eB : B_X6_load_25 (nI n) (nI q, r) = .inr (mBo (α := mC) none (P_X6_copies (mP (mP (mP (mP (mP (mP (mP r 20 8 0) 20 14 0) 20 15 (-1)) 20 16 (-1)) 20 18 0) 20 19 0) 20 12 0) 0 288) (fun c1 => (mBo (α := mC) none (P_X6_begins c1) (fun c2 => (mBo (α := mC) none (P_X6_ahead c2) (fun c3 => (mWh none B_X6_load_101 (1, c3)))))))) := by
      unfold B_X6_load_25
      dsimp only
      rw [if_pos ((nI_leI (by omega) (by omega)).mpr (by omega))]
    rw [eB]
  | succ m ih =>
    intro q r hq
    obtain ⟨r1, h1, h2, h3, h4⟩ := ih (q + 1) (mP r 23 q ((r 22 q).toInt8.toInt32)) (by omega)
    refine ⟨r1, fun k hk => ?_, fun k a d => ?_, fun j hj => ?_, ?_⟩
    · rw [h1 k (by omega), mP_n _ _ _ (by omega)]
    · by_cases z : k = q
      · rw [z, h1 q (by omega), mP_s]
      · exact h2 k (by omega) d
    · rw [h3 j hj, mP_other _ _ _ _ _ hj]
    · rw [mWh_eq tm_X6_load_25]
      have eB : B_X6_load_25 (nI n) (nI q, r) = .inl (nI (q + 1), mP r 23 q ((r 22 q).toInt8.toInt32)) := by
        unfold B_X6_load_25
        dsimp only
        rw [if_neg (fun z => by have := (nI_leI (by omega) (by omega)).mp z; omega), if_neg (nI_in (by omega) (by decide)), if_neg (nI_in (by omega) (by decide)), nI_clamp (by omega), nI_1]
      rw [eB]
      exact h4
/-- both read the same text to the same end -/
theorem read_eq {n : Nat} {c r : mC} (hc : St r) (hn : n ≤ 700) (hb : ∀ k, k < n → c 19 k = r 22 k ∧ isB (c 19 k)) : ∃ r' r2, mWh none (B_X6_load_25 (nI n)) (0, mP r 20 9 (nI n)) = J_X6_load_120 r' ∧ (L r2 r' ∧ (∀ k, k < 288 → r2 21 (288 + k) = r 21 k) ∧ (r2 21 1 = 0 ∧ r2 21 4 = 0 ∧ r2 21 6 = 0 ∧ r2 21 10 = 0)) ∧ Te (P_X3_readText c (nI n)) r' ∧ NF (P_X3_readText c (nI n)) := by
  obtain ⟨r1, _, h2, h3, h4⟩ := load25_eq hn n 0 (mP r 20 9 (nI n)) (Nat.zero_add n)
  rw [show (0 : Int32) = nI 0 from rfl, h4]
  generalize hmm : mP (mP (mP (mP (mP (mP (mP r1 20 8 0) 20 14 0) 20 15 (-1)) 20 16 (-1)) 20 18 0) 20 19 0) 20 12 0 = mm
  show ∃ r' r2, mBo none (P_X6_copies mm (nI 0) (nI 288)) _ = _ ∧ _
  rw [copies_eq mm (a := 0) (b := 288) (by decide) (by decide) (by decide)]
  show ∃ r' r2, mBo none (P_X6_begins (cpC mm 0 288 288)) _ = _ ∧ _
  rw [begins_eq]
  show ∃ r' r2, mBo none (P_X6_ahead (mP (zC (cpC mm 0 288 288) 288) 21 7 (-1))) _ = _ ∧ _
  generalize hr2 : mP (zC (cpC mm 0 288 288) 288) 21 7 (-1) = r2
  have f20 : ∀ k, r2 20 k = mm 20 k := fun k => by rw [← hr2]; rfl
  have f23 : ∀ k, r2 23 k = r1 23 k := fun k => by rw [← hr2, ← hmm]; rfl
  have f21 : ∀ k, k < 288 → k ≠ 7 → r2 21 k = 0 := fun k a d => by
    rw [← hr2, rd21, if_neg d]
    show (if 21 = 21 ∧ k < 288 then (0 : Int32) else _) = 0
    rw [if_pos ⟨rfl, a⟩]
  have g9 : r2 20 9 = nI n := by rw [f20, ← hmm]; exact congrFun (h3 20 (by decide)) 9
  have g12 : r2 20 12 = nI 0 := by rw [f20, ← hmm]; rfl
  have g14 : Z14 r2 := ⟨by rw [f20, ← hmm]; rfl, by rw [f20, ← hmm]; rfl, by rw [f20, ← hmm]; rfl⟩
  have g18 : r2 20 18 = 0 := by rw [f20, ← hmm]; rfl
  have g19 : r2 20 19 = 0 := by rw [f20, ← hmm]; rfl
  -- the class
  have hmin : P_J9_min_7cf53 (nI n) 700 = nI n := by
    unfold P_J9_min_7cf53
    rw [if_neg (fun z => by have := (nI_ltI (a := 700) (by decide) (by omega)).mp z; omega)]
  have eC : P_X3_readText c (nI n) = mWh (fun _ _ => 0) B_X3_readText_56 (nI 0, P_X3_step (mP (mP (mP (mP (mP (mP (mP (P_X2_wipe c) 16 2 (nI n)) 16 3 0) 16 7 0) 16 8 0) 16 9 0) 16 10 (-1)) 16 11 (-1))) := by
    unfold P_X3_readText
    rw [mBd_eq, mBd_eq, mBd_eq, hmin]
    rfl
  rw [eC]
  have w1 : ∀ k, k < 3 → (P_X2_wipe c) 1 k = 0 := by
    intro k hk
    have : k = 0 ∨ k = 1 ∨ k = 2 := by omega
    rcases this with rfl | rfl | rfl <;> rfl
  have w19 : (P_X2_wipe c) 19 = c 19 := rfl
  have fi : ∀ (n : Nat) (m : mC) (j : Nat) (v : Int32) (k : Nat), k < n → mFi n m j v j k = v := fun n m j v k hk => by
    unfold mFi mA
    rw [if_pos rfl, if_pos hk]
  have w4 : ∀ p, p < 8 → (P_X2_wipe c) 4 p = 0 := fun p hp => fi 8 _ 4 0 p hp
  have w6 : ∀ p, p < 10 → (P_X2_wipe c) 6 p = 0 := fun p hp => fi 10 _ 6 0 p hp
  generalize hc2 : mP (mP (mP (mP (mP (mP (mP (P_X2_wipe c) 16 2 (nI n)) 16 3 0) 16 7 0) 16 8 0) 16 9 0) 16 10 (-1)) 16 11 (-1) = c2
  have o : ∀ j, j ≠ 16 → c2 j = (P_X2_wipe c) j := fun j hj => by
    rw [← hc2, mP_other _ _ _ _ _ hj, mP_other _ _ _ _ _ hj, mP_other _ _ _ _ _ hj, mP_other _ _ _ _ _ hj, mP_other _ _ _ _ _ hj, mP_other _ _ _ _ _ hj, mP_other _ _ _ _ _ hj]
  have X : CX n (c 19) c2 r2 := by
    refine ⟨hn, by rw [← hc2]; rfl, g9, fun k hk => ⟨?_, ?_, (hb k hk).2⟩⟩
    · rw [o 19 (by decide), w19]
    · rw [f23, h2 k (Nat.zero_le _) hk]
      show (r 22 k).toInt8.toInt32 = c 19 k
      rw [← (hb k hk).1]
      exact (hb k hk).2.s
  obtain ⟨r3, a1, a2, a3⟩ := ts_step (e := 0) X g14 (by rw [← hc2, g18]; rfl) ⟨0, by decide, by rw [← hc2]; rfl, by rw [g19]; rfl⟩ (by rw [← hc2]; rfl) (Nat.zero_le _) (by rw [← hc2]; rfl) g12
  rw [a1]
  show ∃ r' r2, mWh none B_X6_load_101 (1, r3) = _ ∧ _
  have hz2 : PZ c2 (r2 21) := by
    refine ⟨0, ⟨by decide, fun p hp => absurd hp (by omega), fun p hp => absurd hp (by omega), fun p _ hp => ?_, ?_, ?_, fun w hw => ?_⟩, ?_, f21 0 (by decide) (by decide), fun p k _ a d => f21 _ (by omega) (by omega)⟩
    · rw [o 4 (by decide)]; exact w4 p hp
    · rw [o 1 (by decide), w1 1 (by decide), f21 2 (by decide) (by decide)]
    · rw [o 1 (by decide), w1 2 (by decide), f21 3 (by decide) (by decide)]
    · rw [o 6 (by decide), w6 w hw, f21 _ (by omega) (by omega)]
    · rw [o 1 (by decide)]; exact w1 0 (by decide)
  have hz3 : PZ (P_X3_step c2) (r3 21) := by
    rw [sR_o a3 21 (by decide)]
    exact hz2.k (k6_P_X3_step (c0 := c2) Kp.rf)
  have mE : mEnd r3 ≤ 2147483647 := by
    refine Nat.le_trans (adv_ahead a1).1 ?_
    unfold mEnd mMx
    rw [g12]
    decide
  have cell : ∀ k, k < 288 → r2 21 (288 + k) = r 21 k := fun k hk => by
    rw [← hr2, rd21, if_neg (by omega)]
    show (if 21 = 21 ∧ 288 + k < 288 then (0 : Int32) else cpC mm 0 288 288 21 (288 + k)) = _
    rw [if_neg (by omega)]
    show (if 21 = 21 ∧ 288 ≤ 288 + k ∧ 288 + k < 288 + 288 then mm 21 (0 + (288 + k - 288)) else _) = _
    rw [if_pos (by omega), show 0 + (288 + k - 288) = k from by omega, ← hmm]
    exact congrFun (h3 21 (by decide)) k
  have hL : L r2 r2 := ⟨by rw [← hr2]; exact zS _, (Sr.of hc).congr (fun k hk => cell k hk), fun _ _ => rfl, rfl, by rw [f20, ← hmm]; rfl, n, 0, hn, Nat.zero_le _, g9, g12⟩
  have hA3 : Ar r2 r3 := by
    obtain ⟨r4, e4, h4⟩ := tr_ahead hL
    rw [a1] at e4
    rw [Option.some.inj e4]; exact h4.r
  obtain ⟨r', b1, b0, b2⟩ := text_eq (n := n) (b := c 19) (mEnd r3 + 1) 0 (P_X3_step c2) r3 (by omega) (by omega) a2 (fun _ => hz3) hA3
  refine ⟨r', r2, b1, ⟨b0, cell, f21 1 (by decide) (by decide), f21 4 (by decide) (by decide), f21 6 (by decide) (by decide), f21 10 (by decide) (by decide)⟩, b2, nf_loop _ ?_⟩
  have hN : NF c2 := fun _ => ⟨by rw [← hc2]; rfl, by rw [← hc2]; rfl⟩
  exact nf_P_X3_step (c0 := c2) hN
