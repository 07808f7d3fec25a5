/-! The two readers side by side: words -/
/-- the class's text that is the reference's i-th word -/
def wd (i : Nat) : Nat := ([7, 8, 9, 10, 11, 12, 13, 14, 15, 16, 0, 1, 2, 3, 4, 5, 6] : List Nat).getD i 0
theorem wd_l : ∀ i, i < 17 → mSL.getD (wd i) 0 = ke i - ks i ∧ ks i ≤ ke i ∧ ke i - ks i ≤ 6 ∧ ke i < 96 ∧ P_J0_length_8abf5 (wd i) = nI (ke i - ks i) := by decide +kernel
theorem wd_c : ∀ i, i < 17 → ∀ j, j < ke i - ks i → mSg (wd i) (nI j) = mSg 17 (nI (ks i + j)) := by decide +kernel
def mt (b : Nat → Int32) (s i : Nat) : Nat → Nat → Bool
  | 0, _ => true
  | m + 1, j => decide (b (s + j) = mSg 17 (nI (ks i + j))) && mt b s i m (j + 1)
theorem mt_s (b : Nat → Int32) (s i m j : Nat) : mt b s i (m + 1) j = (decide (b (s + j) = mSg 17 (nI (ks i + j))) && mt b s i m (j + 1)) := rfl
/-- the token from s to e is the i-th word -/
def isK (b : Nat → Int32) (s e i : Nat) : Bool := decide (e - s = ke i - ks i) && mt b s i (ke i - ks i) 0
theorem mt_all {b : Nat → Int32} {s i : Nat} : ∀ m j, mt b s i m j = true → ∀ q, j ≤ q → q < j + m → b (s + q) = mSg 17 (nI (ks i + q)) := by
  intro m
  induction m with
  | zero => intro j _ q h1 h2; omega
  | succ m ih =>
    intro j h q h1 h2
    rw [mt_s, Bool.and_eq_true] at h
    by_cases z : q = j
    · rw [z]; exact of_decide_eq_true h.1
    · exact ih (j + 1) h.2 q (by omega) (by omega)
theorem wd_d : ∀ i, i < 17 → ∀ j, j < 17 → i ≠ j → ke i - ks i = ke j - ks j → ¬ ∀ q, q < ke i - ks i → mSg 17 (nI (ks i + q)) = mSg 17 (nI (ks j + q)) := by decide +kernel
theorem isK_u {b : Nat → Int32} {s e i j : Nat} (hi : i < 17) (hj : j < 17) (h1 : isK b s e i = true) (h2 : isK b s e j = true) : i = j := by
  unfold isK at h1 h2
  rw [Bool.and_eq_true] at h1 h2
  have l1 := of_decide_eq_true h1.1
  have l2 := of_decide_eq_true h2.1
  by_cases z : i = j
  · exact z
  · exfalso
    refine wd_d i hi j hj z (by omega) (fun q hq => ?_)
    rw [← mt_all _ _ h1.2 q (by omega) (by omega), ← mt_all _ _ h2.2 q (by omega) (by omega)]
theorem isW_eq {n : Nat} {b : Nat → Int32} {c r : mC} (X : CX n b c r) {s e i : Nat} (h4 : c 16 4 = nI s) (he : e ≤ n) (hi : i < 17) (hl : e - s = ke i - ks i) : ∀ m k, k + m = ke i - ks i → isW (wd i) c m k = if mt b s i m k = true then 1 else 0 := by
  have hn := X.1
  intro m
  induction m with
  | zero => intro k _; rfl
  | succ m ih =>
    intro k hk
    have hlt : s + k < n := by omega
    have eS : P_X3_signAt c (c 16 4 + Int32.ofNat k) = b (s + k) := by
      rw [h4]
      show P_X3_signAt c (nI s + nI k) = _
      rw [nI_add]
      unfold P_X3_signAt
      rw [if_neg (nI_pos (by omega)), if_neg (fun z => by have := (nI_leI (a := 700) (by decide) (by omega)).mp z; omega), nI_clamp (by omega), (X.2.2.2 _ hlt).1]
    show (if P_X3_signAt c (c 16 4 + Int32.ofNat k) = mSg (wd i) (Int32.ofNat k) then isW (wd i) c m (k + 1) else 0) = _
    rw [eS, show mSg (wd i) (Int32.ofNat k) = mSg 17 (nI (ks i + k)) from wd_c i hi k (by omega), mt_s]
    by_cases z : b (s + k) = mSg 17 (nI (ks i + k))
    · rw [if_pos z, decide_eq_true z, Bool.true_and]
      exact ih (k + 1) (by omega)
    · rw [if_neg z, decide_eq_false z, Bool.false_and]
      rfl
theorem isWord_eq {n : Nat} {b : Nat → Int32} {c r : mC} (X : CX n b c r) {s e i : Nat} (h5 : c 16 5 = 1) (h4 : c 16 4 = nI s) (h3 : c 16 3 = nI e) (hs : s < e) (he : e ≤ n) (hi : i < 17) : P_X3_isWord (wd i) c = if isK b s e i = true then 1 else 0 := by
  have hn := X.1
  obtain ⟨w1, w2, w3, w4, w5⟩ := wd_l i hi
  unfold P_X3_isWord isK
  rw [if_pos h5, h3, h4, nI_subn (by omega), w5, w1]
  by_cases z : e - s = ke i - ks i
  · rw [if_pos (by rw [z]), decide_eq_true z, Bool.true_and, isW_eq X h4 he hi z (ke i - ks i) 0 (by omega)]
  · rw [if_neg (fun y => z (nI_j (by omega) (by omega) y)), decide_eq_false z, Bool.false_and]
    rfl
theorem k67_eq {n : Nat} {b : Nat → Int32} {c r : mC} (X : CX n b c r) {s e i : Nat} (h11 : r 20 11 = nI s) (he : e ≤ n) (hi : i < 17) (hl : e - s = ke i - ks i) (hw : ∀ j, s ≤ j → j < e → kd (b j) = 1) : ∀ m j, j + m = ke i - ks i → ∃ x, mWh none (B_key_67 r (nI (ks i)) (nI (ke i))) (1, nI j) = some (if mt b s i m j = true then 1 else 0, x) := by
  have hn := X.1
  obtain ⟨w1, w2, w3, w4, w5⟩ := wd_l i hi
  intro m
  induction m with
  | zero =>
    intro j hj
    rw [mWh_eq tm_key_67]
    have eB : B_key_67 r (nI (ks i)) (nI (ke i)) (1, nI j) = .inr (some (1, nI j)) := by
      unfold B_key_67
      dsimp only
      rw [nI_subn w2, if_pos ((nI_leI (by omega) (by omega)).mpr (by omega))]
    rw [eB]
    exact ⟨_, rfl⟩
  | succ m ih =>
    intro j hj
    have hlt : s + j < n := by omega
    have bB := (X.2.2.2 _ hlt).2.2
    have ec : P_J0_charAt_5068e 17 (nI (ks i) + nI j) = some (mSg 17 (nI (ks i + j))) := by
      unfold P_J0_charAt_5068e
      rw [nI_add, key_l, if_neg (nI_in (by omega) (by decide))]
    have eb : P_X6_byteAt r (r 20 11 + nI j) = some (b (s + j)) := by
      rw [h11, nI_add, byteAt_n X hlt, bB.f.2.2.2.1 (Or.inr (hw _ (by omega) (by omega)))]
    rw [mWh_eq tm_key_67, mt_s]
    by_cases z : b (s + j) = mSg 17 (nI (ks i + j))
    · have eB : B_key_67 r (nI (ks i)) (nI (ke i)) (1, nI j) = .inl (1, nI (j + 1)) := by
        unfold B_key_67
        dsimp only
        rw [nI_subn w2, if_neg (fun y => by have := (nI_leI (by omega) (by omega)).mp y; omega), if_neg (by decide), ec]
        simp only [mBo]
        rw [eb]
        simp only [mBo]
        rw [if_pos z.symm, nI_1]
      rw [eB, decide_eq_true z, Bool.true_and]
      exact ih (j + 1) (by omega)
    · have eB : B_key_67 r (nI (ks i)) (nI (ke i)) (1, nI j) = .inl (0, nI (j + 1)) := by
        unfold B_key_67
        dsimp only
        rw [nI_subn w2, if_neg (fun y => by have := (nI_leI (by omega) (by omega)).mp y; omega), if_neg (by decide), ec]
        simp only [mBo]
        rw [eb]
        simp only [mBo]
        rw [if_neg (fun y => z y.symm), nI_1]
      rw [eB, decide_eq_false z, Bool.false_and]
      dsimp only
      rw [mWh_eq tm_key_67]
      refine ⟨nI (j + 1), ?_⟩
      have eB2 : B_key_67 r (nI (ks i)) (nI (ke i)) (0, nI (j + 1)) = .inr (some (0, nI (j + 1))) := by
        unfold B_key_67
        dsimp only
        by_cases y : nI (ke i) - nI (ks i) ≤ nI (j + 1)
        · rw [if_pos y]
        · rw [if_neg y, if_pos rfl]
      rw [eB2]
      rfl
theorem key_from {n : Nat} {b : Nat → Int32} {c r : mC} (X : CX n b c r) {s e : Nat} (h11 : r 20 11 = nI s) (h12 : r 20 12 = nI e) (hs : s < e) (he : e ≤ n) (hw : ∀ j, s ≤ j → j < e → kd (b j) = 1) : ∀ m i, i + m = 17 → (∃ j, i ≤ j ∧ j < 17 ∧ isK b s e j = true ∧ mWh none (B_key_14 r) (nI i, nI (ks i)) = some (nI j)) ∨ ((∀ j, i ≤ j → j < 17 → isK b s e j = false) ∧ mWh none (B_key_14 r) (nI i, nI (ks i)) = some (-1)) := by
  have hn := X.1
  intro m
  induction m with
  | zero =>
    intro i hi
    right
    have e17 : i = 17 := by omega
    subst e17
    refine ⟨fun j h1 h2 => by omega, ?_⟩
    rw [mWh_eq tm_key_14]
    have eB : B_key_14 r (nI 17, nI (ks 17)) = .inr (some (-1)) := by
      unfold B_key_14 mBd
      dsimp only
      rw [if_pos (by decide +kernel)]
    rw [eB]
  | succ m ih =>
    intro i hi
    have hi2 : i < 17 := by omega
    obtain ⟨w1, w2, w3, w4, w5⟩ := wd_l i hi2
    have ln : ¬ P_J0_length_8abf5 17 ≤ nI (ks i) := by
      rw [show P_J0_length_8abf5 17 = nI 96 from by decide +kernel]
      exact fun y => by have := (nI_leI (by omega) (by omega)).mp y; omega
    have e25 : mWh none B_key_25 (nI (ks i)) = some (nI (ke i)) := mWh_of (key25 i hi2)
    -- the comparison
    have hc : ∃ x, mWh none (B_key_67 r (nI (ks i)) (nI (ke i))) ((if nI (ke i) - nI (ks i) = r 20 12 - r 20 11 then 1 else 0), 0) = some (if isK b s e i = true then 1 else 0, x) := by
      unfold isK
      rw [h12, h11, nI_subn w2, nI_subn (by omega)]
      by_cases z : e - s = ke i - ks i
      · rw [if_pos (by rw [z]), decide_eq_true z, Bool.true_and]
        exact k67_eq X h11 he hi2 z hw (ke i - ks i) 0 (by omega)
      · rw [if_neg (fun y => z (nI_j (by omega) (by omega) y.symm)), decide_eq_false z, Bool.false_and, mWh_eq tm_key_67]
        refine ⟨0, ?_⟩
        have eB2 : B_key_67 r (nI (ks i)) (nI (ke i)) (0, 0) = .inr (some (0, 0)) := by
          unfold B_key_67
          dsimp only
          by_cases y : nI (ke i) - nI (ks i) ≤ 0
          · rw [if_pos y]
          · rw [if_neg y, if_pos rfl]
        rw [eB2]
        rfl
    obtain ⟨x, hc⟩ := hc
    have eB : B_key_14 r (nI i, nI (ks i)) = if (if isK b s e i = true then (1 : Int32) else 0) = 0 then .inl (nI i + 1, nI (ke i) + 1) else .inr (some (nI i)) := by
      unfold B_key_14 mBd
      dsimp only
      rw [if_neg ln, e25]
      simp only [mBo]
      rw [hc]
    rw [mWh_eq tm_key_14, eB]
    cases hk : isK b s e i with
    | true =>
      left
      refine ⟨i, Nat.le_refl _, hi2, hk, ?_⟩
      rw [if_pos rfl, if_neg (by decide)]
    | false =>
      rw [show (if (false = true) then (1 : Int32) else 0) = 0 from rfl, if_pos rfl]
      dsimp only
      rw [nI_1, show nI (ke i) + 1 = nI (ks (i + 1)) from by rw [nI_1, (key_s i hi2).1]]
      rcases ih (i + 1) (by omega) with ⟨j, h1, h2, h3, h4⟩ | ⟨h1, h2⟩
      · exact Or.inl ⟨j, by omega, h2, h3, h4⟩
      · refine Or.inr ⟨fun j a1 a2 => ?_, h2⟩
        by_cases z : j = i
        · rw [z]; exact hk
        · exact h1 j (by omega) a2
theorem key_eq {n : Nat} {b : Nat → Int32} {c r : mC} (X : CX n b c r) (T : Tok n b c r) : ∃ v, P_X6_key r = some v ∧ (v = -1 ∨ ∃ i, i < 17 ∧ v = nI i) ∧ (v = -1 ∨ c 16 5 = 1) ∧ ∀ i, i < 17 → P_X3_isWord (wd i) c = if v = nI i then 1 else 0 := by
  have hn := X.1
  obtain ⟨t1, t2⟩ := T
  have none : ¬ c 16 5 = 1 → ¬ r 20 10 = 2 → ∃ v, P_X6_key r = some v ∧ (v = -1 ∨ ∃ i, i < 17 ∧ v = nI i) ∧ (v = -1 ∨ c 16 5 = 1) ∧ ∀ i, i < 17 → P_X3_isWord (wd i) c = if v = nI i then 1 else 0 := fun h1 h2 => by
    refine ⟨-1, ?_, Or.inl rfl, Or.inl rfl, fun i hi => ?_⟩
    · unfold P_X6_key
      rw [if_neg h2]
    · unfold P_X3_isWord
      rw [if_neg h1, if_neg (fun y => by have : ¬ nI i < 0 := nI_pos (by omega)
                                         rw [← y] at this; exact this (by decide))]
  rcases t2 with ⟨k1, k2⟩ | ⟨s, e, l1, l2, f4, f3, f12, ⟨k1, k2, hw⟩ | ⟨k1, k2, _⟩ | ⟨k1, k2⟩⟩
  · exact none (by rw [k1]; decide) (by rw [k2]; decide)
  · have h11 : r 20 11 = nI s := t1.symm.trans f4
    have hK : P_X6_key r = mWh Option.none (B_key_14 r) (nI 0, nI (ks 0)) := by
      unfold P_X6_key
      rw [if_pos k2]
      rfl
    rcases key_from X h11 f12 l1 l2 hw 17 0 rfl with ⟨j, _, hj, hk, e⟩ | ⟨hk, e⟩
    · refine ⟨nI j, hK.trans e, Or.inr ⟨j, hj, rfl⟩, Or.inr k1, fun i hi => ?_⟩
      rw [isWord_eq X k1 f4 f3 l1 l2 hi]
      by_cases z : i = j
      · rw [z, if_pos hk, if_pos rfl]
      · rw [if_neg (fun y => z (isK_u hi hj y hk)), if_neg (fun y => z (nI_j (by omega) (by omega) y).symm)]
    · refine ⟨-1, hK.trans e, Or.inl rfl, Or.inl rfl, fun i hi => ?_⟩
      rw [isWord_eq X k1 f4 f3 l1 l2 hi, hk i (by omega) hi, if_neg (by decide), if_neg (fun y => by
        have : ¬ nI i < 0 := nI_pos (by omega)
        rw [← y] at this; exact this (by decide))]
  · exact none (by rw [k1]; decide) (by rw [k2]; decide)
  · exact none (by rw [k1]; decide) (by rw [k2]; decide)
theorem wordOf_n : ∀ i, i < 10 → P_X3_wordOf (nI i) = wd i := by decide +kernel
/-- which mark's word the token is -/
theorem mark_eq {n : Nat} {b : Nat → Int32} {c r : mC} (X : CX n b c r) {v : Int32} (hv : v = -1 ∨ ∃ i, i < 17 ∧ v = nI i) (hw : ∀ i, i < 17 → P_X3_isWord (wd i) c = if v = nI i then 1 else 0) : P_X3_markHere c = if P_X6_isFrom v 0 9 = 0 then -1 else v := by
  have key : ∀ m i, i + m = 10 → (∀ j, j < i → ¬ v = nI j) → mWh 0 (B_X3_markHere_2 c) (nI i) = if P_X6_isFrom v 0 9 = 0 then -1 else v := by
    intro m
    induction m with
    | zero =>
      intro i hi hj
      have e10 : i = 10 := by omega
      subst e10
      rw [mWh_eq tm_X3_markHere_2]
      have eB : B_X3_markHere_2 c (nI 10) = .inr (-1) := by
        unfold B_X3_markHere_2
        rw [if_pos (show (10 : Int32) ≤ nI 10 by decide)]
      rw [eB]
      have : P_X6_isFrom v 0 9 = 0 := by
        rcases hv with rfl | ⟨j, h1, rfl⟩
        · decide
        · have h2 : 10 ≤ j := by
            by_cases z : j < 10
            · exact absurd rfl (hj j z)
            · omega
          unfold P_X6_isFrom J_X6_isFrom_14
          rw [if_neg (show ¬ nI j < 0 from nI_pos (by omega)), if_pos (show (9 : Int32) < nI j from (nI_ltI (a := 9) (by decide) (by omega)).mpr (by omega))]
      rw [if_pos this]
    | succ m ih =>
      intro i hi hj
      have hi2 : i < 10 := by omega
      rw [mWh_eq tm_X3_markHere_2]
      by_cases z : v = nI i
      · have eB : B_X3_markHere_2 c (nI i) = .inr (nI i) := by
          unfold B_X3_markHere_2 mBd
          dsimp only
          rw [if_neg (show ¬ (10 : Int32) ≤ nI i from nI_ge (a := i) (b := 10) (by omega) (by decide)), wordOf_n i hi2, hw i (by omega), if_pos z, if_neg (by decide)]
        rw [eB]
        have : ¬ P_X6_isFrom v 0 9 = 0 := by
          rw [z]
          unfold P_X6_isFrom
          rw [if_neg (show ¬ nI i < 0 from nI_pos (by omega)), if_neg (show ¬ (9 : Int32) < nI i from fun y => by have := (nI_ltI (a := 9) (by decide) (by omega)).mp y; omega)]
          decide
        rw [if_neg this, z]
      · have eB : B_X3_markHere_2 c (nI i) = .inl (nI (i + 1)) := by
          unfold B_X3_markHere_2 mBd
          dsimp only
          rw [if_neg (show ¬ (10 : Int32) ≤ nI i from nI_ge (a := i) (b := 10) (by omega) (by decide)), wordOf_n i hi2, hw i (by omega), if_neg z, if_pos rfl, nI_1]
        rw [eB]
        exact ih (i + 1) (by omega) (fun j h => by
          by_cases y : j = i
          · rw [y]; exact z
          · exact hj j (by omega))
  exact key 10 0 rfl (fun j h => by omega)
