/-! the fresh objects: call by call -/
theorem zk_of2 {p : Int32 × mG} {V : Int32} {f : mC → Option (Int32 × mC)} (h1 : p.1 = V ∧ p.2 7 = zM2) (h2 : ∃ c', f zM2 = some (V, c')) : ∃ w g2, mBo none (f (p.2 7)) (fun q : Int32 × mC => some ((p.1, q.1), mU p.2 7 q.2)) = some ((w, w), g2) := by
  obtain ⟨c', hc⟩ := h2
  rw [h1.2, hc, h1.1]
  exact ⟨V, _, rfl⟩
theorem hp0 (x : Int32) : P_X2_hasPhase (g1 0) x = 0 := by
  unfold P_X2_hasPhase J_X2_hasPhase_16
  by_cases h : x < 0
  · rw [if_pos h]
  · rw [if_neg h, if_pos (show g1 0 1 0 ≤ x from Int32.not_lt.mp h)]
theorem ip0 (x : Int32) : P_X6_isPhase zM2 x = some 0 := by
  unfold P_X6_isPhase J_X6_isPhase_17
  by_cases h : x < 0
  · rw [if_pos h]
  · rw [if_neg h]
    show (if (0 : Int32) ≤ x then some 0 else some 1) = _
    rw [if_pos (Int32.not_lt.mp h)]
theorem zM2_Z : ZM zM2 := ⟨rfl, rfl, rfl, rfl, ⟨rfl, rfl, rfl⟩, rfl, rfl, rfl⟩
theorem g1_Z : ZC (g1 0) := ⟨rfl, rfl, rfl, rfl, ⟨rfl, rfl, rfl⟩, rfl, rfl, rfl⟩
theorem g1_Q : ZQ (g1 0) := ⟨g1_Z, rfl, rfl, rfl, rfl, rfl⟩
theorem rng_n {x : Int32} {n : Nat} (hn : n < 2 ^ 31) : (∃ k, k ≤ n ∧ x = nI k) ∨ (x < 0 ∨ nI n < x) := by
  by_cases h0 : x < 0
  · exact Or.inr (Or.inl h0)
  · obtain ⟨k, hk, rfl⟩ := nI_of h0
    by_cases h : k ≤ n
    · exact Or.inl ⟨k, h, rfl⟩
    · exact Or.inr (Or.inr (Int32.not_le.mp (fun z => h ((nI_leI hk hn).mp z))))
theorem zcl_6 (x1 x2 : Int32) : (P_X5_phase g1 x1 x2).1 = -1 ∧ (P_X5_phase g1 x1 x2).2 7 = zM2 := by
  unfold P_X5_phase J_X5_phase_10
  simp only [zb_d, hp0, if_true]
  (repeat' split) <;> exact ⟨rfl, rfl⟩
theorem zrf_6 (x1 x2 : Int32) : ∃ c', P_X6_phase zM2 x1 x2 = some (-1, c') := by
  unfold P_X6_phase 
  simp only [zb_d, ip0, zb_s, if_true]
  (repeat' split) <;> exact ⟨_, rfl⟩
theorem zcl_7 (x1 x2 : Int32) : (P_X5_marked g1 x1 x2).1 = -1 ∧ (P_X5_marked g1 x1 x2).2 7 = zM2 := by
  unfold P_X5_marked J_X5_marked_10
  simp only [zb_d, hp0, if_true]
  (repeat' split) <;> exact ⟨rfl, rfl⟩
theorem zrf_7 (x1 x2 : Int32) : ∃ c', P_X6_marked zM2 x1 x2 = some (-1, c') := by
  unfold P_X6_marked 
  simp only [zb_d, ip0, zb_s, if_true]
  (repeat' split) <;> exact ⟨_, rfl⟩
theorem zcl_11 (x1 x2 x3 : Int32) : (P_X5_mark g1 x1 x2 x3).1 = -1 ∧ (P_X5_mark g1 x1 x2 x3).2 7 = zM2 := by
  unfold P_X5_mark J_X5_mark_32
  simp only [zb_d, hp0, if_true]
  (repeat' split) <;> exact ⟨rfl, rfl⟩
theorem zrf_11 (x1 x2 x3 : Int32) : ∃ c', P_X6_mark_ zM2 x1 x2 x3 = some (-1, c') := by
  unfold P_X6_mark_ J_X6_mark__25
  simp only [zb_d, ip0, zb_s, if_true]
  (repeat' split) <;> exact ⟨_, rfl⟩
theorem zcl_14 (x1 x2 : Int32) : (P_X5_come g1 x1 x2).1 = -1 ∧ (P_X5_come g1 x1 x2).2 7 = zM2 := by
  unfold P_X5_come J_X5_come_11
  simp only [zb_d, hp0, if_true]
  (repeat' split) <;> exact ⟨rfl, rfl⟩
theorem zrf_14 (x1 x2 : Int32) : ∃ c', P_X6_come zM2 x1 x2 = some (-1, c') := by
  unfold P_X6_come 
  simp only [zb_d, ip0, zb_s, if_true]
  (repeat' split) <;> exact ⟨_, rfl⟩
theorem zcl_24 (x1 x2 : Int32) : (P_X5_foes g1 x1 x2).1 = -1 ∧ (P_X5_foes g1 x1 x2).2 7 = zM2 := by
  unfold P_X5_foes J_X5_foes_28
  simp only [zb_d, hp0, if_true]
  (repeat' split) <;> exact ⟨rfl, rfl⟩
theorem zrf_24 (x1 x2 : Int32) : ∃ c', P_X6_foes zM2 x1 x2 = some (-1, c') := by
  unfold P_X6_foes J_X6_foes_37
  simp only [zb_d, ip0, zb_s, if_true]
  (repeat' split) <;> exact ⟨_, rfl⟩
theorem zcl_26 (x1 : Int32) : (P_X5_when g1 x1).1 = -1 ∧ (P_X5_when g1 x1).2 7 = zM2 := by
  unfold P_X5_when 
  simp only [zb_d, hp0, if_true]
  (repeat' split) <;> exact ⟨rfl, rfl⟩
theorem zrf_26 (x1 : Int32) : ∃ c', P_X6_when zM2 x1 = some (-1, c') := by
  unfold P_X6_when 
  simp only [zb_d, ip0, zb_s, if_true]
  (repeat' split) <;> exact ⟨_, rfl⟩
theorem zcl_27 (x1 : Int32) : (P_X5_worst g1 x1).1 = -1 ∧ (P_X5_worst g1 x1).2 7 = zM2 := by
  unfold P_X5_worst 
  simp only [zb_d, hp0, if_true]
  (repeat' split) <;> exact ⟨rfl, rfl⟩
theorem zrf_27 (x1 : Int32) : ∃ c', P_X6_worst zM2 x1 = some (-1, c') := by
  unfold P_X6_worst 
  simp only [zb_d, ip0, zb_s, if_true]
  (repeat' split) <;> exact ⟨_, rfl⟩
theorem zcl_32 (x1 x2 : Int32) : (P_X5_bestMax g1 x1 x2).1 = -1 ∧ (P_X5_bestMax g1 x1 x2).2 7 = zM2 := by
  unfold P_X5_bestMax J_X5_bestMax_11
  simp only [zb_d, hp0, if_true]
  (repeat' split) <;> exact ⟨rfl, rfl⟩
theorem zrf_32 (x1 x2 : Int32) : ∃ c', P_X6_bestMax zM2 x1 x2 = some (-1, c') := by
  unfold P_X6_bestMax 
  simp only [zb_d, ip0, zb_s, if_true]
  (repeat' split) <;> exact ⟨_, rfl⟩
theorem zk_6 (a : Nat → Int32) : ∃ w g2, lwR_6 g1 a = some ((w, w), g2) := by
  unfold lwR_6
  exact zk_of2 (p := P_X5_phase g1 (a 1) (a 2)) (f := fun c => P_X6_phase c (a 1) (a 2)) (zcl_6 (a 1) (a 2)) (zrf_6 (a 1) (a 2))
theorem zk_7 (a : Nat → Int32) : ∃ w g2, lwR_7 g1 a = some ((w, w), g2) := by
  unfold lwR_7
  exact zk_of2 (p := P_X5_marked g1 (a 1) (a 2)) (f := fun c => P_X6_marked c (a 1) (a 2)) (zcl_7 (a 1) (a 2)) (zrf_7 (a 1) (a 2))
theorem zk_11 (a : Nat → Int32) : ∃ w g2, lwR_11 g1 a = some ((w, w), g2) := by
  unfold lwR_11
  exact zk_of2 (p := P_X5_mark g1 (a 1) (a 2) (a 3)) (f := fun c => P_X6_mark_ c (a 1) (a 2) (a 3)) (zcl_11 (a 1) (a 2) (a 3)) (zrf_11 (a 1) (a 2) (a 3))
theorem zk_14 (a : Nat → Int32) : ∃ w g2, lwR_14 g1 a = some ((w, w), g2) := by
  unfold lwR_14
  exact zk_of2 (p := P_X5_come g1 (a 1) (a 2)) (f := fun c => P_X6_come c (a 1) (a 2)) (zcl_14 (a 1) (a 2)) (zrf_14 (a 1) (a 2))
theorem zk_24 (a : Nat → Int32) : ∃ w g2, lwR_24 g1 a = some ((w, w), g2) := by
  unfold lwR_24
  exact zk_of2 (p := P_X5_foes g1 (a 1) (a 2)) (f := fun c => P_X6_foes c (a 1) (a 2)) (zcl_24 (a 1) (a 2)) (zrf_24 (a 1) (a 2))
theorem zk_26 (a : Nat → Int32) : ∃ w g2, lwR_26 g1 a = some ((w, w), g2) := by
  unfold lwR_26
  exact zk_of2 (p := P_X5_when g1 (a 1)) (f := fun c => P_X6_when c (a 1)) (zcl_26 (a 1)) (zrf_26 (a 1))
theorem zk_27 (a : Nat → Int32) : ∃ w g2, lwR_27 g1 a = some ((w, w), g2) := by
  unfold lwR_27
  exact zk_of2 (p := P_X5_worst g1 (a 1)) (f := fun c => P_X6_worst c (a 1)) (zcl_27 (a 1)) (zrf_27 (a 1))
theorem zk_32 (a : Nat → Int32) : ∃ w g2, lwR_32 g1 a = some ((w, w), g2) := by
  unfold lwR_32
  exact zk_of2 (p := P_X5_bestMax g1 (a 1) (a 2)) (f := fun c => P_X6_bestMax c (a 1) (a 2)) (zcl_32 (a 1) (a 2)) (zrf_32 (a 1) (a 2))
theorem zcl_13 (x1 x2 : Int32) : (P_X5_call g1 x1 x2).1 = 0 ∧ (P_X5_call g1 x1 x2).2 7 = zM2 := by
  unfold P_X5_call
  simp only [zb_d, hp0, if_true]
  exact ⟨rfl, rfl⟩
theorem zrf_13 (x1 x2 : Int32) : ∃ c', P_X6_call zM2 x1 x2 = some (0, c') := by
  unfold P_X6_call
  simp only [zb_d, ip0, zb_s, if_true]
  exact ⟨_, rfl⟩
theorem zcl_18 (x1 x2 : Int32) : (P_X5_stick g1 x1 x2).1 = 0 ∧ (P_X5_stick g1 x1 x2).2 7 = zM2 := by
  unfold P_X5_stick
  simp only [zb_d, hp0, if_true]
  exact ⟨rfl, rfl⟩
theorem zrf_18 (x1 x2 : Int32) : ∃ c', P_X6_stick zM2 x1 x2 = some (0, c') := by
  unfold P_X6_stick
  simp only [zb_d, ip0, zb_s, if_true]
  exact ⟨_, rfl⟩
theorem zk_19 (a : Nat → Int32) : ∃ w g2, lwR_19 g1 a = some ((w, w), g2) := ⟨0, _, rfl⟩
theorem zk_23 (a : Nat → Int32) : ∃ w g2, lwR_23 g1 a = some ((w, w), g2) := ⟨-1, _, rfl⟩
theorem zk_29 (a : Nat → Int32) : ∃ w g2, lwR_29 g1 a = some ((w, w), g2) := ⟨-1, _, rfl⟩
theorem zk_0 (a : Nat → Int32) : ∃ w g2, lwR_0 g1 a = some ((w, w), g2) := ⟨0, _, rfl⟩
theorem zk_3 (a : Nat → Int32) : ∃ w g2, lwR_3 g1 a = some ((w, w), g2) := by
  unfold lwR_3 P_X6_fault
  (repeat' split) <;> exact ⟨-1, _, rfl⟩
theorem zk_13 (a : Nat → Int32) : ∃ w g2, lwR_13 g1 a = some ((w, w), g2) := by
  unfold lwR_13
  exact zk_of2 (p := P_X5_call g1 (a 1) (if a 2 = 0 then 0 else 1)) (f := fun c => P_X6_call c (a 1) (if a 2 = 0 then 0 else 1)) (zcl_13 (a 1) (if a 2 = 0 then 0 else 1)) (zrf_13 (a 1) (if a 2 = 0 then 0 else 1))
theorem zk_18 (a : Nat → Int32) : ∃ w g2, lwR_18 g1 a = some ((w, w), g2) := by
  unfold lwR_18
  exact zk_of2 (p := P_X5_stick g1 (a 1) (if a 2 = 0 then 0 else 1)) (f := fun c => P_X6_stick c (a 1) (if a 2 = 0 then 0 else 1)) (zcl_18 (a 1) (if a 2 = 0 then 0 else 1)) (zrf_18 (a 1) (if a 2 = 0 then 0 else 1))
theorem zcl_10 (x1 x2 : Int32) : (P_X5_event g1 x1 x2).1 = -1 ∧ (P_X5_event g1 x1 x2).2 7 = zM2 := by
  unfold P_X5_event J_X5_event_19
  by_cases h : x1 < 0
  · rw [if_pos h]; exact ⟨rfl, rfl⟩
  · rw [if_neg h]
    have h2 : ¬ x1 < g1 0 10 3 := h
    rw [if_neg h2]
    (repeat' split) <;> exact ⟨rfl, rfl⟩
theorem zrf_10 (x1 x2 : Int32) : ∃ c', P_X6_event zM2 x1 x2 = some (-1, c') := by
  unfold P_X6_event J_X6_event_19
  simp only [zb_d]
  unfold P_X6_isFrom
  by_cases h : x1 < 0
  · rw [if_pos h]; exact ⟨_, rfl⟩
  · rw [if_neg h]
    have h2 : (0 : Int32) ≤ x1 := Int32.not_lt.mp h
    have e : P_X6_of zM2 12 = some 0 := zo_12.trans (congrArg some (show zM2 21 12 = 0 from rfl))
    rw [e]
    rw [zb_s, if_pos h2]
    have key : ∀ u v : Int32, ∃ c', (if u = 0 then mBo none (P_X6_refuse zM2 1) (fun p1 : Int32 × mC => some (p1.1, p1.2)) else if v = 0 then mBo none (P_X6_refuse zM2 1) (fun p1 : Int32 × mC => some (p1.1, p1.2)) else mBo none (P_X6_refuse zM2 5) (fun p4 : Int32 × mC => some (p4.1, p4.2))) = some (-1, c') := by
      intro u v
      (repeat' split) <;> exact ⟨_, rfl⟩
    exact key _ _
theorem zk_22 (a : Nat → Int32) : ∃ w g2, lwR_22 g1 a = some ((w, w), g2) := by
  unfold lwR_22
  refine zk_of2 (p := P_X5_keep g1) (f := fun c => P_X6_keep c) (V := 1) ⟨rfl, rfl⟩ ?_
  show ∃ c', P_X6_keep zM2 = some (1, c')
  unfold P_X6_keep
  rw [if_neg (by decide), show P_X6_copies zM2 0 ((576 : Int32) + ((288 : Int32) * (zM2 20 2))) = some (cpC zM2 0 576 288) from copies_eq zM2 (a := 0) (b := 576) (by decide) (by decide) (by decide)]
  exact ⟨_, rfl⟩
theorem zk_25 (a : Nat → Int32) : ∃ w g2, lwR_25 g1 a = some ((w, w), g2) := by
  unfold lwR_25
  have hc : ∀ x, (P_X5_sets g1 x).1 = (if x < 0 then -1 else if x ≤ 1 then 0 else -1) ∧ (P_X5_sets g1 x).2 7 = zM2 := by
    intro x
    unfold P_X5_sets J_X5_sets_9
    by_cases h : x < 0
    · rw [if_pos h, if_pos h]; exact ⟨rfl, rfl⟩
    · rw [if_neg h, if_neg h]
      by_cases h2 : x ≤ 1
      · rw [if_pos h2, if_pos h2, mWh_eq (tm_X5_sets_25 (by decide))]
        have e : B_X5_sets_25 g1 x (0, 0, -1, 1) = .inr (0, (P_X5_answer g1 0).2) := by
          unfold B_X5_sets_25 J_X5_sets_99
          dsimp only
          rw [zb_d, if_pos (by decide)]
          by_cases h3 : x = 0
          · rw [if_pos h3]; rfl
          · rw [if_neg h3]; rfl
        rw [e]
        exact ⟨rfl, rfl⟩
      · rw [if_neg h2, if_neg h2]; exact ⟨rfl, rfl⟩
  refine zk_of2 (p := P_X5_sets g1 (a 1)) (f := fun c => P_X6_sets c (a 1)) (hc (a 1)) ?_
  generalize a 1 = x
  show ∃ c', P_X6_sets zM2 x = _
  unfold P_X6_sets P_X6_isFrom J_X6_isFrom_14
  rw [zb_d]
  by_cases h : x < 0
  · rw [if_pos h, if_pos h]; exact ⟨_, rfl⟩
  · rw [if_neg h, if_neg h]
    by_cases h2 : x ≤ 1
    · rw [if_neg (Int32.not_lt.mpr h2), if_pos h2, if_neg (by decide), mWh_eq tm_X6_sets_22]
      have e : ∃ c', B_X6_sets_22 zM2 x (0, 0, 1) = .inr (some (0, c')) := by
        unfold B_X6_sets_22 J_X6_sets_90
        dsimp only
        rw [show P_X6_of zM2 0 = some 0 from rfl, zb_s, if_pos (by decide)]
        by_cases h3 : x = 0
        · rw [if_pos h3]; exact ⟨_, rfl⟩
        · rw [if_neg h3]; exact ⟨_, rfl⟩
      obtain ⟨c', e⟩ := e
      rw [e]
      exact ⟨_, rfl⟩
    · rw [if_pos (Int32.not_le.mp h2), if_neg h2]; exact ⟨_, rfl⟩
theorem zk_33 (a : Nat → Int32) : ∃ w g2, lwR_33 g1 a = some ((w, w), g2) := by
  unfold lwR_33
  have hc : ∀ x, (P_X5_cheapest g1 x).1 = -1 ∧ (P_X5_cheapest g1 x).2 7 = zM2 := by
    intro x
    unfold P_X5_cheapest J_X5_cheapest_11
    rw [if_pos (show g1 0 1 0 = 0 from rfl)]
    (repeat' split) <;> exact ⟨rfl, rfl⟩
  refine zk_of2 (p := P_X5_cheapest g1 (a 1)) (f := fun c => P_X6_cheapest c (a 1)) (hc (a 1)) ?_
  generalize a 1 = x
  show ∃ c', P_X6_cheapest zM2 x = _
  unfold P_X6_cheapest
  rw [zb_d]
  split
  · exact ⟨_, rfl⟩
  · rw [show P_X6_copies zM2 0 288 = some (cpC zM2 0 288 288) from copies_eq zM2 (a := 0) (b := 288) (by decide) (by decide) (by decide), zb_s, mWh_eq tm_X6_cheapest_31]
    have e : ∃ c', B_X6_cheapest_31 x (-1, 0, 0, cpC zM2 0 288 288) = .inr (some (-1, c')) := by
      unfold B_X6_cheapest_31
      dsimp only
      rw [show P_X6_of (cpC zM2 0 288 288) 0 = some 0 from rfl, zb_s, if_pos (by decide), if_pos rfl]
      exact ⟨_, rfl⟩
    obtain ⟨c', e⟩ := e
    rw [e]
    exact ⟨_, rfl⟩
theorem zk_10 (a : Nat → Int32) : ∃ w g2, lwR_10 g1 a = some ((w, w), g2) := by
  unfold lwR_10
  exact zk_of2 (p := P_X5_event g1 (a 1) (a 2)) (f := fun c => P_X6_event c (a 1) (a 2)) (zcl_10 (a 1) (a 2)) (zrf_10 (a 1) (a 2))
theorem zk_4 (a : Nat → Int32) : ∃ w g2, lwR_4 g1 a = some ((w, w), g2) := by
  unfold lwR_4
  generalize a 1 = x
  rcases rng_n (x := x) (n := 11) (by decide) with ⟨k, hk, rfl⟩ | h
  · have : k = 0 ∨ k = 1 ∨ k = 2 ∨ k = 3 ∨ k = 4 ∨ k = 5 ∨ k = 6 ∨ k = 7 ∨ k = 8 ∨ k = 9 ∨ k = 10 ∨ k = 11 := by omega
    rcases this with rfl | rfl | rfl | rfl | rfl | rfl | rfl | rfl | rfl | rfl | rfl | rfl <;> exact ⟨_, _, rfl⟩
  · have h : x < 0 ∨ (11 : Int32) < x := h
    have n : ∀ k : Nat, k ≤ 11 → x ≠ nI k := by
      rintro k hk rfl
      rcases h with h | h
      · exact nI_pos (by omega) h
      · exact Int32.lt_irrefl (Int32.lt_of_le_of_lt ((nI_leI (a := k) (b := 11) (by omega) (by decide)).mpr hk) h)
    refine zk_of2 (p := P_X5_many g1 x) (f := fun c => P_X6_many c x) (V := -1) ?_ ?_
    · unfold P_X5_many
      rw [if_neg (show ¬ x = 0 from n 0 (by decide)), if_neg (show ¬ x = 1 from n 1 (by decide)), if_neg (show ¬ x = 2 from n 2 (by decide)), if_neg (show ¬ x = 3 from n 3 (by decide)), if_neg (show ¬ x = 4 from n 4 (by decide)), if_neg (show ¬ x = 5 from n 5 (by decide)), if_neg (show ¬ x = 6 from n 6 (by decide)), if_neg (show ¬ x = 7 from n 7 (by decide)), if_neg (show ¬ x = 8 from n 8 (by decide)), if_neg (show ¬ x = 9 from n 9 (by decide)), if_neg (show ¬ x = 10 from n 10 (by decide)), if_neg (show ¬ x = 11 from n 11 (by decide))]
      exact ⟨rfl, rfl⟩
    · show ∃ c', P_X6_many zM2 x = _
      have e : P_X6_isFrom x 0 10 = 0 := by
        unfold P_X6_isFrom J_X6_isFrom_14
        rcases h with h | h
        · rw [if_pos h]
        · rw [if_pos (Int32.lt_trans (show (10 : Int32) < 11 by decide) h)]
          split <;> rfl
      unfold P_X6_many
      rw [e, zb_d, if_pos rfl, if_neg (show ¬ x = 11 from n 11 (by decide))]
      exact ⟨_, rfl⟩
theorem zk_5 (a : Nat → Int32) : ∃ w g2, lwR_5 g1 a = some ((w, w), g2) := by
  unfold lwR_5
  generalize a 1 = x
  generalize a 2 = y
  rcases rng_n (x := y) (n := 9) (by decide) with ⟨k, hk, rfl⟩ | h
  · rcases rng_n (x := x) (n := 1) (by decide) with ⟨j, hj, rfl⟩ | h2
    · have h1 : j = 0 ∨ j = 1 := by omega
      have h3 : k = 0 ∨ k = 1 ∨ k = 2 ∨ k = 3 ∨ k = 4 ∨ k = 5 ∨ k = 6 ∨ k = 7 ∨ k = 8 ∨ k = 9 := by omega
      rcases h1 with rfl | rfl <;> rcases h3 with rfl | rfl | rfl | rfl | rfl | rfl | rfl | rfl | rfl | rfl <;> exact ⟨_, _, rfl⟩
    · have h2 : x < 0 ∨ (1 : Int32) < x := h2
      refine zk_of2 (p := P_X5_ring g1 x (nI k)) (f := fun c => P_X6_ring_ c x (nI k)) (V := -1) ?_ ?_
      · unfold P_X5_ring J_X5_ring_10 J_X5_ring_25
        rcases h2 with h2 | h2
        · simp only [if_pos h2]
          (repeat' split) <;> exact ⟨rfl, rfl⟩
        · simp only [if_neg (Int32.not_le.mpr h2)]
          (repeat' split) <;> exact ⟨rfl, rfl⟩
      · show ∃ c', P_X6_ring_ zM2 x (nI k) = _
        have e : P_X6_isFrom x 0 1 = 0 := by
          unfold P_X6_isFrom J_X6_isFrom_14
          rcases h2 with h2 | h2
          · rw [if_pos h2]
          · rw [if_pos h2]
            split <;> rfl
        unfold P_X6_ring_
        simp only [zb_d, e, if_true]
        (repeat' split) <;> exact ⟨_, rfl⟩
  · have h : y < 0 ∨ (9 : Int32) < y := h
    refine zk_of2 (p := P_X5_ring g1 x y) (f := fun c => P_X6_ring_ c x y) (V := -1) ?_ ?_
    · unfold P_X5_ring J_X5_ring_10
      rcases h with h | h
      · rw [if_pos h]; exact ⟨rfl, rfl⟩
      · rw [if_neg (fun z => Int32.lt_irrefl (Int32.lt_trans (Int32.lt_trans z (show (0 : Int32) < 9 by decide)) h)), if_neg (Int32.not_le.mpr h)]; exact ⟨rfl, rfl⟩
    · show ∃ c', P_X6_ring_ zM2 x y = _
      have e : P_X6_isFrom y 0 9 = 0 := by
        unfold P_X6_isFrom J_X6_isFrom_14
        rcases h with h | h
        · rw [if_pos h]
        · rw [if_pos h]
          split <;> rfl
      unfold P_X6_ring_
      rw [e, zb_d, if_pos rfl]
      exact ⟨_, rfl⟩
