theorem e_X6_four_0 {X : mX} {call : Nat → List mV → mG → mR} {g : mG} {x1 : Int32} : mEv X call 0 t_X6_four (mDrop t_X6_four 0) [some (mr 7 20), some (mi x1), none] [] g = mEv X call 0 t_X6_four (mDrop t_X6_four 2) [some (mr 7 20), some (mi x1), some (mi 3)] [] g := (mEv_2 _ _ _ _).trans rfl
theorem e_X6_four_2 {X : mX} {call : Nat → List mV → mG → mR} {g : mG} {x1 x2 : Int32} : mEv X call 0 t_X6_four (mDrop t_X6_four 2) [some (mr 7 20), some (mi x1), some (mi x2)] [] g = if x2 < 0 then mEv X call 0 t_X6_four (mDrop t_X6_four 38) [some (mr 7 20), some (mi x1), some (mi x2)] [] g else mEv X call 0 t_X6_four (mDrop t_X6_four 6) [some (mr 7 20), some (mi x1), some (mi x2)] [] g := (mEv_2 _ _ _ _).trans rfl
theorem e_X6_four_38 {X : mX} {call : Nat → List mV → mG → mR} {g : mG} {x1 x2 : Int32} : mEv X call 0 t_X6_four (mDrop t_X6_four 38) [some (mr 7 20), some (mi x1), some (mi x2)] [] g = some (none, g) := (mEv_1 _ _ _ _).trans rfl
theorem e_X6_four_6 {X : mX} {call : Nat → List mV → mG → mR} {g : mG} {x1 x2 : Int32} : mEv X call 0 t_X6_four (mDrop t_X6_four 6) [some (mr 7 20), some (mi x1), some (mi x2)] [] g = if ((g 7 20 8) : Int32) < 0 ∨ 700 ≤ ((g 7 20 8) : Int32).toNatClampNeg then none else mEv X call 0 t_X6_four (mDrop t_X6_four 22) [some (mr 7 20), some (mi x1), some (mi x2)] [] (mU g 7 (mP (g 7) 22 ((g 7 20 8)).toNatClampNeg (((x1 >>> (((8 : Int32) * x2) &&& 31))).toInt8.toInt32).toInt8.toInt32)) := (mEv_11 _ _ _ _).trans rfl
theorem e_X6_four_22 {X : mX} {call : Nat → List mV → mG → mR} {g : mG} {x1 x2 : Int32} : mEv X call 0 t_X6_four (mDrop t_X6_four 22) [some (mr 7 20), some (mi x1), some (mi x2)] [] g = mEv X call 0 t_X6_four (mDrop t_X6_four 32) [some (mr 7 20), some (mi x1), some (mi x2)] [] (mU g 7 (mP (g 7) 20 8 ((g 7 20 8) + 1))) := (mEv_6 _ _ _ _).trans rfl
theorem e_X6_four_32 {X : mX} {call : Nat → List mV → mG → mR} {g : mG} {x1 x2 : Int32} : mEv X call 0 t_X6_four (mDrop t_X6_four 32) [some (mr 7 20), some (mi x1), some (mi x2)] [] g = mEv X call 0 t_X6_four (mDrop t_X6_four 2) [some (mr 7 20), some (mi x1), some (mi (x2 + (-1)))] [] g := (mEv_2 _ _ _ _).trans rfl
noncomputable def B_X6_four_2 (x1 : Int32) : (Int32 × mC) → (Int32 × mC) ⊕ (Option (mC)) := fun s => match s with | (x2, c) => (if x2 < 0 then (.inr (some c)) else (if ((c 20 8) : Int32) < 0 ∨ 700 ≤ ((c 20 8) : Int32).toNatClampNeg then (.inr none) else (.inl ((x2 + (-1)), (mP (mP c 22 ((c 20 8)).toNatClampNeg (((x1 >>> (((8 : Int32) * x2) &&& 31))).toInt8.toInt32).toInt8.toInt32) 20 8 (((mP c 22 ((c 20 8)).toNatClampNeg (((x1 >>> (((8 : Int32) * x2) &&& 31))).toInt8.toInt32).toInt8.toInt32) 20 8) + 1))))))
set_option maxRecDepth 100000 in
theorem tm_X6_four_2 {x1 : Int32} : mTm (B_X6_four_2 x1) := by
  refine ⟨fun s => match s with | (x2, c) => mMd x2, fun s s2 h => ?_⟩
  obtain ⟨x2, c⟩ := s
  simp only [B_X6_four_2] at h
  (repeat' split at h) <;> first | (have h2 := Sum.inl.inj h; subst h2; dsimp only; exact mtm_dn (by assumption)) | (cases h; done)
theorem rl_X6_four_2 (d : Nat) {X : mX} {g : mG} {x1 x2 : Int32} {c : mC} : mEv X (mCall mD X (d + 0)) 0 t_X6_four (mDrop t_X6_four 2) [some (mr 7 20), some (mi x1), some (mi x2)] [] (mU g 7 c) = (wO (wV g 7)) (mWh none (B_X6_four_2 x1) (x2, c)) := by
  refine mWh_ev (B := (B_X6_four_2 x1)) (ev := fun s : (Int32 × mC) => match s with | (x2, c) => mEv X (mCall mD X (d + 0)) 0 t_X6_four (mDrop t_X6_four 2) [some (mr 7 20), some (mi x1), some (mi x2)] [] (mU g 7 c)) (w := (wO (wV g 7))) (tm_X6_four_2) ?_ (x2, c)
  rintro ⟨x2, c⟩
  show mEv X (mCall mD X (d + 0)) 0 t_X6_four (mDrop t_X6_four 2) [some (mr 7 20), some (mi x1), some (mi x2)] [] (mU g 7 c) = wB (fun s : (Int32 × mC) => match s with | (x2, c) => mEv X (mCall mD X (d + 0)) 0 t_X6_four (mDrop t_X6_four 2) [some (mr 7 20), some (mi x1), some (mi x2)] [] (mU g 7 c)) (wO (wV g 7)) (B_X6_four_2 x1 (x2, c))
  refine Eq.trans (e_X6_four_2) ?_
  try simp only [mU_same, mU_mU]
  refine mw_ite (fun h1 => ?_) (fun h1 => ?_)
  · refine mw_inr ?_
    refine Eq.trans (e_X6_four_38) ?_
    try simp only [mU_same, mU_mU]
    all_goals rfl
  · refine Eq.trans (e_X6_four_6) ?_
    try simp only [mU_same, mU_mU]
    refine mw_ite (fun _ => rfl) (fun _ => ?_)
    refine Eq.trans (e_X6_four_22) ?_
    try simp only [mU_same, mU_mU]
    refine Eq.trans (e_X6_four_32) ?_
    try simp only [mU_same, mU_mU]
    exact mw_inl rfl
noncomputable def P_X6_four (c : mC) (x1 : Int32) : (Option (mC)) := (mWh none (B_X6_four_2 x1) (3, c))
theorem rr_X6_four (d : Nat) {X : mX} {g : mG} {x1 : Int32} {c : mC} : mCall mD X (d + 1) 212 [mr 7 20, mi x1] (mU g 7 c) = (wO (wV g 7)) (P_X6_four c x1) := by
  refine Eq.trans (mCall_eq (d := d + 0) rfl) ?_
  show mEv X (mCall mD X (d + 0)) 0 t_X6_four (mDrop t_X6_four 0) [some (mr 7 20), some (mi x1), none] [] (mU g 7 c) = _
  refine Eq.trans (e_X6_four_0) ?_
  try simp only [mU_same, mU_mU]
  exact rl_X6_four_2 d
theorem rr_X6_four_at (d : Nat) {X : mX} {g : mG} {x1 : Int32} : mCall mD X (d + 1) 212 [mr 7 20, mi x1] g = wO (wV g 7) (P_X6_four (g 7) x1) := by
  have h := rr_X6_four (X := X) d (g := g) (c := g 7) (x1 := x1)
  rw [mU_self] at h
  exact h
theorem e_X6_feed_0 {X : mX} {call : Nat → List mV → mG → mR} {g : mG} {x1 x2 x3 x4 x5 : Int32} : mEv X call 1 t_X6_feed (mDrop t_X6_feed 0) [some (mr 7 20), some (mi x1), some (mi x2), some (mi x3), some (mi x4), some (mi x5)] [] g = if (g 7 20 8) ≤ 680 then mEv X call 1 t_X6_feed (mDrop t_X6_feed 12) [some (mr 7 20), some (mi x1), some (mi x2), some (mi x3), some (mi x4), some (mi x5)] [] g else mEv X call 1 t_X6_feed (mDrop t_X6_feed 10) [some (mr 7 20), some (mi x1), some (mi x2), some (mi x3), some (mi x4), some (mi x5)] [] g := (mEv_4 _ _ _ _).trans rfl
theorem e_X6_feed_12 {X : mX} {call : Nat → List mV → mG → mR} {g : mG} {x1 x2 x3 x4 x5 : Int32} : mEv X call 1 t_X6_feed (mDrop t_X6_feed 12) [some (mr 7 20), some (mi x1), some (mi x2), some (mi x3), some (mi x4), some (mi x5)] [] g = mAns (mEv X call 1 t_X6_feed) (mDrop t_X6_feed 17) [some (mr 7 20), some (mi x1), some (mi x2), some (mi x3), some (mi x4), some (mi x5)] [] (call 212 [mr 7 20, mi x1] g) := (mEv_3 _ _ _ _).trans rfl
theorem e_X6_feed_17 {X : mX} {call : Nat → List mV → mG → mR} {g : mG} {x1 x2 x3 x4 x5 : Int32} : mEv X call 1 t_X6_feed (mDrop t_X6_feed 17) [some (mr 7 20), some (mi x1), some (mi x2), some (mi x3), some (mi x4), some (mi x5)] [] g = mAns (mEv X call 1 t_X6_feed) (mDrop t_X6_feed 22) [some (mr 7 20), some (mi x1), some (mi x2), some (mi x3), some (mi x4), some (mi x5)] [] (call 212 [mr 7 20, mi x2] g) := (mEv_3 _ _ _ _).trans rfl
theorem e_X6_feed_22 {X : mX} {call : Nat → List mV → mG → mR} {g : mG} {x1 x2 x3 x4 x5 : Int32} : mEv X call 1 t_X6_feed (mDrop t_X6_feed 22) [some (mr 7 20), some (mi x1), some (mi x2), some (mi x3), some (mi x4), some (mi x5)] [] g = mAns (mEv X call 1 t_X6_feed) (mDrop t_X6_feed 27) [some (mr 7 20), some (mi x1), some (mi x2), some (mi x3), some (mi x4), some (mi x5)] [] (call 212 [mr 7 20, mi x3] g) := (mEv_3 _ _ _ _).trans rfl
theorem e_X6_feed_27 {X : mX} {call : Nat → List mV → mG → mR} {g : mG} {x1 x2 x3 x4 x5 : Int32} : mEv X call 1 t_X6_feed (mDrop t_X6_feed 27) [some (mr 7 20), some (mi x1), some (mi x2), some (mi x3), some (mi x4), some (mi x5)] [] g = mAns (mEv X call 1 t_X6_feed) (mDrop t_X6_feed 33) [some (mr 7 20), some (mi x1), some (mi x2), some (mi x3), some (mi x4), some (mi x5)] [] (call 212 [mr 7 20, mi x4] g) := (mEv_3 _ _ _ _).trans rfl
theorem e_X6_feed_33 {X : mX} {call : Nat → List mV → mG → mR} {g : mG} {x1 x2 x3 x4 x5 : Int32} : mEv X call 1 t_X6_feed (mDrop t_X6_feed 33) [some (mr 7 20), some (mi x1), some (mi x2), some (mi x3), some (mi x4), some (mi x5)] [] g = mAns (mEv X call 1 t_X6_feed) (mDrop t_X6_feed 39) [some (mr 7 20), some (mi x1), some (mi x2), some (mi x3), some (mi x4), some (mi x5)] [] (call 212 [mr 7 20, mi x5] g) := (mEv_3 _ _ _ _).trans rfl
theorem e_X6_feed_39 {X : mX} {call : Nat → List mV → mG → mR} {g : mG} {x1 x2 x3 x4 x5 : Int32} : mEv X call 1 t_X6_feed (mDrop t_X6_feed 39) [some (mr 7 20), some (mi x1), some (mi x2), some (mi x3), some (mi x4), some (mi x5)] [] g = some (some (mi (g 7 20 8)), g) := (mEv_3 _ _ _ _).trans rfl
theorem e_X6_feed_10 {X : mX} {call : Nat → List mV → mG → mR} {g : mG} {x1 x2 x3 x4 x5 : Int32} : mEv X call 1 t_X6_feed (mDrop t_X6_feed 10) [some (mr 7 20), some (mi x1), some (mi x2), some (mi x3), some (mi x4), some (mi x5)] [] g = some (some (mi (-1)), g) := (mEv_2 _ _ _ _).trans rfl
noncomputable def P_X6_feed (c : mC) (x1 : Int32) (x2 : Int32) (x3 : Int32) (x4 : Int32) (x5 : Int32) : (Option (Int32 × mC)) := (if (c 20 8) ≤ 680 then (mBo (α := mC) none (P_X6_four c x1) (fun c1 => (mBo (α := mC) none (P_X6_four c1 x2) (fun c2 => (mBo (α := mC) none (P_X6_four c2 x3) (fun c3 => (mBo (α := mC) none (P_X6_four c3 x4) (fun c4 => (mBo (α := mC) none (P_X6_four c4 x5) (fun c5 => (some ((c5 20 8), c5)))))))))))) else (some ((-1), c)))
theorem rr_X6_feed (d : Nat) {X : mX} {g : mG} {x1 x2 x3 x4 x5 : Int32} {c : mC} : mCall mD X (d + 2) 211 [mr 7 20, mi x1, mi x2, mi x3, mi x4, mi x5] (mU g 7 c) = (wO (wW g 7)) (P_X6_feed c x1 x2 x3 x4 x5) := by
  refine Eq.trans (mCall_eq (d := d + 1) rfl) ?_
  show mEv X (mCall mD X (d + 1)) 1 t_X6_feed (mDrop t_X6_feed 0) [some (mr 7 20), some (mi x1), some (mi x2), some (mi x3), some (mi x4), some (mi x5)] [] (mU g 7 c) = _
  refine Eq.trans (e_X6_feed_0) ?_
  try simp only [mU_same, mU_mU]
  refine mw_ite (fun h6 => ?_) (fun h6 => ?_)
  · refine Eq.trans (e_X6_feed_12) ?_
    try simp only [mU_same, mU_mU]
    refine mw_oV ?_ (rr_X6_four d) (fun c1 => ?_)
    · rfl
    refine Eq.trans (e_X6_feed_17) ?_
    try simp only [mU_same, mU_mU]
    refine mw_oV ?_ (rr_X6_four d) (fun c2 => ?_)
    · rfl
    refine Eq.trans (e_X6_feed_22) ?_
    try simp only [mU_same, mU_mU]
    refine mw_oV ?_ (rr_X6_four d) (fun c3 => ?_)
    · rfl
    refine Eq.trans (e_X6_feed_27) ?_
    try simp only [mU_same, mU_mU]
    refine mw_oV ?_ (rr_X6_four d) (fun c4 => ?_)
    · rfl
    refine Eq.trans (e_X6_feed_33) ?_
    try simp only [mU_same, mU_mU]
    refine mw_oV ?_ (rr_X6_four d) (fun c5 => ?_)
    · rfl
    refine Eq.trans (e_X6_feed_39) ?_
    try simp only [mU_same, mU_mU]
    all_goals rfl
  · refine Eq.trans (e_X6_feed_10) ?_
    try simp only [mU_same, mU_mU]
    all_goals rfl
theorem rr_X6_feed_at (d : Nat) {X : mX} {g : mG} {x1 x2 x3 x4 x5 : Int32} : mCall mD X (d + 2) 211 [mr 7 20, mi x1, mi x2, mi x3, mi x4, mi x5] g = wO (wW g 7) (P_X6_feed (g 7) x1 x2 x3 x4 x5) := by
  have h := rr_X6_feed (X := X) d (g := g) (c := g 7) (x1 := x1) (x2 := x2) (x3 := x3) (x4 := x4) (x5 := x5)
  rw [mU_self] at h
  exact h
theorem e_X6_byteAt_0 {X : mX} {call : Nat → List mV → mG → mR} {g : mG} {x1 : Int32} : mEv X call 1 t_X6_byteAt (mDrop t_X6_byteAt 0) [some (mr 7 20), some (mi x1)] [] g = if (g 7 20 9) ≤ x1 then mEv X call 1 t_X6_byteAt (mDrop t_X6_byteAt 21) [some (mr 7 20), some (mi x1)] [] g else mEv X call 1 t_X6_byteAt (mDrop t_X6_byteAt 8) [some (mr 7 20), some (mi x1)] [] g := (mEv_4 _ _ _ _).trans rfl
theorem e_X6_byteAt_21 {X : mX} {call : Nat → List mV → mG → mR} {g : mG} {x1 : Int32} : mEv X call 1 t_X6_byteAt (mDrop t_X6_byteAt 21) [some (mr 7 20), some (mi x1)] [] g = mEv X call 1 t_X6_byteAt (mDrop t_X6_byteAt 22) [some (mr 7 20), some (mi x1)] [mi (-1)] g := (mEv_1 _ _ _ _).trans rfl
theorem e_X6_byteAt_22 {X : mX} {call : Nat → List mV → mG → mR} {g : mG} {x1 s0 : Int32} : mEv X call 1 t_X6_byteAt (mDrop t_X6_byteAt 22) [some (mr 7 20), some (mi x1)] [mi s0] g = some (some (mi s0), g) := (mEv_1 _ _ _ _).trans rfl
theorem e_X6_byteAt_8 {X : mX} {call : Nat → List mV → mG → mR} {g : mG} {x1 : Int32} : mEv X call 1 t_X6_byteAt (mDrop t_X6_byteAt 8) [some (mr 7 20), some (mi x1)] [] g = if (x1 : Int32) < 0 ∨ 700 ≤ (x1 : Int32).toNatClampNeg then none else mEv X call 1 t_X6_byteAt (mDrop t_X6_byteAt 14) [some (mr 7 20), some (mi x1)] [mi (g 7 23 (x1).toNatClampNeg)] g := (mEv_4 _ _ _ _).trans rfl
theorem e_X6_byteAt_14 {X : mX} {call : Nat → List mV → mG → mR} {g : mG} {x1 s0 : Int32} : mEv X call 1 t_X6_byteAt (mDrop t_X6_byteAt 14) [some (mr 7 20), some (mi x1)] [mi s0] g = mEv X call 1 t_X6_byteAt (mDrop t_X6_byteAt 22) [some (mr 7 20), some (mi x1)] [mi (s0 &&& 255)] g := (mEv_3 _ _ _ _).trans rfl
noncomputable def P_X6_byteAt (c : mC) (x1 : Int32) : (Option (Int32)) := (if (c 20 9) ≤ x1 then (some (-1)) else (if (x1 : Int32) < 0 ∨ 700 ≤ (x1 : Int32).toNatClampNeg then none else (some ((c 23 (x1).toNatClampNeg) &&& 255))))
theorem rr_X6_byteAt (d : Nat) {X : mX} {g : mG} {x1 : Int32} {c : mC} : mCall mD X (d + 1) 213 [mr 7 20, mi x1] (mU g 7 c) = (wO (wI g 7 c)) (P_X6_byteAt c x1) := by
  refine Eq.trans (mCall_eq (d := d + 0) rfl) ?_
  show mEv X (mCall mD X (d + 0)) 1 t_X6_byteAt (mDrop t_X6_byteAt 0) [some (mr 7 20), some (mi x1)] [] (mU g 7 c) = _
  refine Eq.trans (e_X6_byteAt_0) ?_
  try simp only [mU_same, mU_mU]
  refine mw_ite (fun h1 => ?_) (fun h1 => ?_)
  · refine Eq.trans (e_X6_byteAt_21) ?_
    try simp only [mU_same, mU_mU]
    refine Eq.trans (e_X6_byteAt_22) ?_
    try simp only [mU_same, mU_mU]
    all_goals rfl
  · refine Eq.trans (e_X6_byteAt_8) ?_
    try simp only [mU_same, mU_mU]
    refine mw_ite (fun _ => rfl) (fun _ => ?_)
    refine Eq.trans (e_X6_byteAt_14) ?_
    try simp only [mU_same, mU_mU]
    refine Eq.trans (e_X6_byteAt_22) ?_
    try simp only [mU_same, mU_mU]
    all_goals rfl
theorem rr_X6_byteAt_at (d : Nat) {X : mX} {g : mG} {x1 : Int32} : mCall mD X (d + 1) 213 [mr 7 20, mi x1] g = wO (wN g) (P_X6_byteAt (g 7) x1) := by
  have h := rr_X6_byteAt (X := X) d (g := g) (c := g 7) (x1 := x1)
  rw [mU_self] at h
  exact h.trans (wOI_self _ _ _)
theorem e_X6_isSmall_0 {X : mX} {call : Nat → List mV → mG → mR} {g : mG} {x0 : Int32} : mEv X call 2 t_X6_isSmall (mDrop t_X6_isSmall 0) [some (mi x0)] [] g = if x0 < 97 then mEv X call 2 t_X6_isSmall (mDrop t_X6_isSmall 16) [some (mi x0)] [] g else mEv X call 2 t_X6_isSmall (mDrop t_X6_isSmall 6) [some (mi x0)] [] g := (mEv_3 _ _ _ _).trans rfl
theorem e_X6_isSmall_16 {X : mX} {call : Nat → List mV → mG → mR} {g : mG} {x0 : Int32} : mEv X call 2 t_X6_isSmall (mDrop t_X6_isSmall 16) [some (mi x0)] [] g = mEv X call 2 t_X6_isSmall (mDrop t_X6_isSmall 17) [some (mi x0)] [mi 0] g := (mEv_1 _ _ _ _).trans rfl
theorem e_X6_isSmall_17 {X : mX} {call : Nat → List mV → mG → mR} {g : mG} {x0 s0 : Int32} : mEv X call 2 t_X6_isSmall (mDrop t_X6_isSmall 17) [some (mi x0)] [mi s0] g = if (s0 : Int32) &&& 1 = s0 then some (some (mi s0), g) else none := (mEv_1 _ _ _ _).trans rfl
noncomputable def J_X6_isSmall_16  : (Int32) := 0
theorem rj_X6_isSmall_16 (d : Nat) {X : mX} {g : mG} {x0 : Int32} : mEv X (mCall mD X (d + 0)) 2 t_X6_isSmall (mDrop t_X6_isSmall 16) [some (mi x0)] [] g = (wN g) (J_X6_isSmall_16 ) := by
  refine Eq.trans (e_X6_isSmall_16) ?_
  refine Eq.trans (e_X6_isSmall_17) ?_
  exact if_pos (by decide)
theorem e_X6_isSmall_6 {X : mX} {call : Nat → List mV → mG → mR} {g : mG} {x0 : Int32} : mEv X call 2 t_X6_isSmall (mDrop t_X6_isSmall 6) [some (mi x0)] [] g = if 122 < x0 then mEv X call 2 t_X6_isSmall (mDrop t_X6_isSmall 16) [some (mi x0)] [] g else mEv X call 2 t_X6_isSmall (mDrop t_X6_isSmall 12) [some (mi x0)] [] g := (mEv_3 _ _ _ _).trans rfl
theorem e_X6_isSmall_12 {X : mX} {call : Nat → List mV → mG → mR} {g : mG} {x0 : Int32} : mEv X call 2 t_X6_isSmall (mDrop t_X6_isSmall 12) [some (mi x0)] [] g = mEv X call 2 t_X6_isSmall (mDrop t_X6_isSmall 17) [some (mi x0)] [mi 1] g := (mEv_2 _ _ _ _).trans rfl
noncomputable def P_X6_isSmall (x0 : Int32) : (Int32) := (if x0 < 97 then (J_X6_isSmall_16 ) else (if 122 < x0 then (J_X6_isSmall_16 ) else 1))
theorem rr_X6_isSmall (d : Nat) {X : mX} {g : mG} {x0 : Int32} : mCall mD X (d + 1) 214 [mi x0] g = (wN g) (P_X6_isSmall x0) := by
  refine Eq.trans (mCall_eq (d := d + 0) rfl) ?_
  show mEv X (mCall mD X (d + 0)) 2 t_X6_isSmall (mDrop t_X6_isSmall 0) [some (mi x0)] [] g = _
  refine Eq.trans (e_X6_isSmall_0) ?_
  refine mw_ite (fun h2 => ?_) (fun h2 => ?_)
  · exact rj_X6_isSmall_16 d
  · refine Eq.trans (e_X6_isSmall_6) ?_
    refine mw_ite (fun h1 => ?_) (fun h1 => ?_)
    · exact rj_X6_isSmall_16 d
    · refine Eq.trans (e_X6_isSmall_12) ?_
      refine Eq.trans (e_X6_isSmall_17) ?_
      exact if_pos (by decide)
theorem e_X6_isDigit_0 {X : mX} {call : Nat → List mV → mG → mR} {g : mG} {x0 : Int32} : mEv X call 2 t_X6_isDigit (mDrop t_X6_isDigit 0) [some (mi x0)] [] g = if x0 < 48 then mEv X call 2 t_X6_isDigit (mDrop t_X6_isDigit 16) [some (mi x0)] [] g else mEv X call 2 t_X6_isDigit (mDrop t_X6_isDigit 6) [some (mi x0)] [] g := (mEv_3 _ _ _ _).trans rfl
theorem e_X6_isDigit_16 {X : mX} {call : Nat → List mV → mG → mR} {g : mG} {x0 : Int32} : mEv X call 2 t_X6_isDigit (mDrop t_X6_isDigit 16) [some (mi x0)] [] g = mEv X call 2 t_X6_isDigit (mDrop t_X6_isDigit 17) [some (mi x0)] [mi 0] g := (mEv_1 _ _ _ _).trans rfl
theorem e_X6_isDigit_17 {X : mX} {call : Nat → List mV → mG → mR} {g : mG} {x0 s0 : Int32} : mEv X call 2 t_X6_isDigit (mDrop t_X6_isDigit 17) [some (mi x0)] [mi s0] g = if (s0 : Int32) &&& 1 = s0 then some (some (mi s0), g) else none := (mEv_1 _ _ _ _).trans rfl
noncomputable def J_X6_isDigit_16  : (Int32) := 0
theorem rj_X6_isDigit_16 (d : Nat) {X : mX} {g : mG} {x0 : Int32} : mEv X (mCall mD X (d + 0)) 2 t_X6_isDigit (mDrop t_X6_isDigit 16) [some (mi x0)] [] g = (wN g) (J_X6_isDigit_16 ) := by
  refine Eq.trans (e_X6_isDigit_16) ?_
  refine Eq.trans (e_X6_isDigit_17) ?_
  exact if_pos (by decide)
theorem e_X6_isDigit_6 {X : mX} {call : Nat → List mV → mG → mR} {g : mG} {x0 : Int32} : mEv X call 2 t_X6_isDigit (mDrop t_X6_isDigit 6) [some (mi x0)] [] g = if 57 < x0 then mEv X call 2 t_X6_isDigit (mDrop t_X6_isDigit 16) [some (mi x0)] [] g else mEv X call 2 t_X6_isDigit (mDrop t_X6_isDigit 12) [some (mi x0)] [] g := (mEv_3 _ _ _ _).trans rfl
theorem e_X6_isDigit_12 {X : mX} {call : Nat → List mV → mG → mR} {g : mG} {x0 : Int32} : mEv X call 2 t_X6_isDigit (mDrop t_X6_isDigit 12) [some (mi x0)] [] g = mEv X call 2 t_X6_isDigit (mDrop t_X6_isDigit 17) [some (mi x0)] [mi 1] g := (mEv_2 _ _ _ _).trans rfl
noncomputable def P_X6_isDigit (x0 : Int32) : (Int32) := (if x0 < 48 then (J_X6_isDigit_16 ) else (if 57 < x0 then (J_X6_isDigit_16 ) else 1))
theorem rr_X6_isDigit (d : Nat) {X : mX} {g : mG} {x0 : Int32} : mCall mD X (d + 1) 215 [mi x0] g = (wN g) (P_X6_isDigit x0) := by
  refine Eq.trans (mCall_eq (d := d + 0) rfl) ?_
  show mEv X (mCall mD X (d + 0)) 2 t_X6_isDigit (mDrop t_X6_isDigit 0) [some (mi x0)] [] g = _
  refine Eq.trans (e_X6_isDigit_0) ?_
  refine mw_ite (fun h2 => ?_) (fun h2 => ?_)
  · exact rj_X6_isDigit_16 d
  · refine Eq.trans (e_X6_isDigit_6) ?_
    refine mw_ite (fun h1 => ?_) (fun h1 => ?_)
    · exact rj_X6_isDigit_16 d
    · refine Eq.trans (e_X6_isDigit_12) ?_
      refine Eq.trans (e_X6_isDigit_17) ?_
      exact if_pos (by decide)
theorem e_X6_ahead_0 {X : mX} {call : Nat → List mV → mG → mR} {g : mG} : mEv X call 0 t_X6_ahead (mDrop t_X6_ahead 0) [some (mr 7 20), none] [] g = mAns (mEv X call 0 t_X6_ahead) (mDrop t_X6_ahead 8) [some (mr 7 20), none] [] (call 213 [mr 7 20, mi (g 7 20 12)] g) := (mEv_4 _ _ _ _).trans rfl
theorem e_X6_ahead_8 {X : mX} {call : Nat → List mV → mG → mR} {g : mG} {s0 : Int32} : mEv X call 0 t_X6_ahead (mDrop t_X6_ahead 8) [some (mr 7 20), none] [mi s0] g = if s0 = 32 then mEv X call 0 t_X6_ahead (mDrop t_X6_ahead 26) [some (mr 7 20), none] [] g else mEv X call 0 t_X6_ahead (mDrop t_X6_ahead 13) [some (mr 7 20), none] [] g := (mEv_2 _ _ _ _).trans rfl
theorem e_X6_ahead_26 {X : mX} {call : Nat → List mV → mG → mR} {g : mG} : mEv X call 0 t_X6_ahead (mDrop t_X6_ahead 26) [some (mr 7 20), none] [] g = mEv X call 0 t_X6_ahead (mDrop t_X6_ahead 36) [some (mr 7 20), none] [] (mU g 7 (mP (g 7) 20 12 ((g 7 20 12) + 1))) := (mEv_6 _ _ _ _).trans rfl
theorem e_X6_ahead_36 {X : mX} {call : Nat → List mV → mG → mR} {g : mG} : mEv X call 0 t_X6_ahead (mDrop t_X6_ahead 36) [some (mr 7 20), none] [] g = mEv X call 0 t_X6_ahead (mDrop t_X6_ahead 0) [some (mr 7 20), none] [] g := (mEv_1 _ _ _ _).trans rfl
noncomputable def J_X6_ahead_26 (c : mC) : ((mC) ⊕ (Option (mC))) := (.inl (mP c 20 12 ((c 20 12) + 1)))
theorem rj_X6_ahead_26 (d : Nat) {X : mX} {g : mG} {c : mC} : mEv X (mCall mD X (d + 1)) 0 t_X6_ahead (mDrop t_X6_ahead 26) [some (mr 7 20), none] [] (mU g 7 c) = (wB (fun c : (mC) => mEv X (mCall mD X (d + 1)) 0 t_X6_ahead (mDrop t_X6_ahead 0) [some (mr 7 20), none] [] (mU g 7 c)) (wO (wV g 7))) (J_X6_ahead_26 c) := by
  refine Eq.trans (e_X6_ahead_26) ?_
  try simp only [mU_same, mU_mU]
  refine Eq.trans (e_X6_ahead_36) ?_
  try simp only [mU_same, mU_mU]
  exact mw_inl rfl
theorem e_X6_ahead_13 {X : mX} {call : Nat → List mV → mG → mR} {g : mG} : mEv X call 0 t_X6_ahead (mDrop t_X6_ahead 13) [some (mr 7 20), none] [] g = mAns (mEv X call 0 t_X6_ahead) (mDrop t_X6_ahead 21) [some (mr 7 20), none] [] (call 213 [mr 7 20, mi (g 7 20 12)] g) := (mEv_4 _ _ _ _).trans rfl
theorem e_X6_ahead_21 {X : mX} {call : Nat → List mV → mG → mR} {g : mG} {s0 : Int32} : mEv X call 0 t_X6_ahead (mDrop t_X6_ahead 21) [some (mr 7 20), none] [mi s0] g = if s0 = 10 then mEv X call 0 t_X6_ahead (mDrop t_X6_ahead 26) [some (mr 7 20), none] [] g else mEv X call 0 t_X6_ahead (mDrop t_X6_ahead 39) [some (mr 7 20), none] [] g := (mEv_2 _ _ _ _).trans rfl
theorem e_X6_ahead_39 {X : mX} {call : Nat → List mV → mG → mR} {g : mG} : mEv X call 0 t_X6_ahead (mDrop t_X6_ahead 39) [some (mr 7 20), none] [] g = mEv X call 0 t_X6_ahead (mDrop t_X6_ahead 47) [some (mr 7 20), none] [] (mU g 7 (mP (g 7) 20 11 (g 7 20 12))) := (mEv_4 _ _ _ _).trans rfl
theorem e_X6_ahead_47 {X : mX} {call : Nat → List mV → mG → mR} {g : mG} : mEv X call 0 t_X6_ahead (mDrop t_X6_ahead 47) [some (mr 7 20), none] [] g = mAns (mEv X call 0 t_X6_ahead) (mDrop t_X6_ahead 55) [some (mr 7 20), none] [] (call 213 [mr 7 20, mi (g 7 20 12)] g) := (mEv_4 _ _ _ _).trans rfl
theorem e_X6_ahead_55 {X : mX} {call : Nat → List mV → mG → mR} {g : mG} {s0 : Int32} : mEv X call 0 t_X6_ahead (mDrop t_X6_ahead 55) [some (mr 7 20), none] [mi s0] g = if s0 = (-1) then mEv X call 0 t_X6_ahead (mDrop t_X6_ahead 61) [some (mr 7 20), some (mi s0)] [] g else mEv X call 0 t_X6_ahead (mDrop t_X6_ahead 69) [some (mr 7 20), some (mi s0)] [] g := (mEv_4 _ _ _ _).trans rfl
theorem e_X6_ahead_61 {X : mX} {call : Nat → List mV → mG → mR} {g : mG} {x1 : Int32} : mEv X call 0 t_X6_ahead (mDrop t_X6_ahead 61) [some (mr 7 20), some (mi x1)] [] g = mEv X call 0 t_X6_ahead (mDrop t_X6_ahead 66) [some (mr 7 20), some (mi x1)] [] (mU g 7 (mP (g 7) 20 10 0)) := (mEv_3 _ _ _ _).trans rfl
theorem e_X6_ahead_66 {X : mX} {call : Nat → List mV → mG → mR} {g : mG} {x1 : Int32} : mEv X call 0 t_X6_ahead (mDrop t_X6_ahead 66) [some (mr 7 20), some (mi x1)] [] g = mEv X call 0 t_X6_ahead (mDrop t_X6_ahead 229) [some (mr 7 20), some (mi x1)] [] g := (mEv_1 _ _ _ _).trans rfl
theorem e_X6_ahead_229 {X : mX} {call : Nat → List mV → mG → mR} {g : mG} {x1 : Int32} : mEv X call 0 t_X6_ahead (mDrop t_X6_ahead 229) [some (mr 7 20), some (mi x1)] [] g = some (none, g) := (mEv_1 _ _ _ _).trans rfl
theorem e_X6_ahead_69 {X : mX} {call : Nat → List mV → mG → mR} {g : mG} {x1 : Int32} : mEv X call 0 t_X6_ahead (mDrop t_X6_ahead 69) [some (mr 7 20), some (mi x1)] [] g = mAns (mEv X call 0 t_X6_ahead) (mDrop t_X6_ahead 73) [some (mr 7 20), some (mi x1)] [] (call 214 [mi x1] g) := (mEv_2 _ _ _ _).trans rfl
theorem e_X6_ahead_73 {X : mX} {call : Nat → List mV → mG → mR} {g : mG} {x1 s0 : Int32} : mEv X call 0 t_X6_ahead (mDrop t_X6_ahead 73) [some (mr 7 20), some (mi x1)] [mi s0] g = if s0 = 0 then mEv X call 0 t_X6_ahead (mDrop t_X6_ahead 111) [some (mr 7 20), some (mi x1)] [] g else mEv X call 0 t_X6_ahead (mDrop t_X6_ahead 76) [some (mr 7 20), some (mi x1)] [] g := (mEv_1 _ _ _ _).trans rfl
theorem e_X6_ahead_111 {X : mX} {call : Nat → List mV → mG → mR} {g : mG} {x1 : Int32} : mEv X call 0 t_X6_ahead (mDrop t_X6_ahead 111) [some (mr 7 20), some (mi x1)] [] g = mAns (mEv X call 0 t_X6_ahead) (mDrop t_X6_ahead 115) [some (mr 7 20), some (mi x1)] [] (call 215 [mi x1] g) := (mEv_2 _ _ _ _).trans rfl
theorem e_X6_ahead_115 {X : mX} {call : Nat → List mV → mG → mR} {g : mG} {x1 s0 : Int32} : mEv X call 0 t_X6_ahead (mDrop t_X6_ahead 115) [some (mr 7 20), some (mi x1)] [mi s0] g = if s0 = 0 then mEv X call 0 t_X6_ahead (mDrop t_X6_ahead 204) [some (mr 7 20), some (mi x1)] [] g else mEv X call 0 t_X6_ahead (mDrop t_X6_ahead 118) [some (mr 7 20), some (mi x1)] [] g := (mEv_1 _ _ _ _).trans rfl
theorem e_X6_ahead_204 {X : mX} {call : Nat → List mV → mG → mR} {g : mG} {x1 : Int32} : mEv X call 0 t_X6_ahead (mDrop t_X6_ahead 204) [some (mr 7 20), some (mi x1)] [] g = mEv X call 0 t_X6_ahead (mDrop t_X6_ahead 214) [some (mr 7 20), some (mi x1)] [] (mU g 7 (mP (g 7) 20 12 ((g 7 20 12) + 1))) := (mEv_6 _ _ _ _).trans rfl
theorem e_X6_ahead_214 {X : mX} {call : Nat → List mV → mG → mR} {g : mG} {x1 : Int32} : mEv X call 0 t_X6_ahead (mDrop t_X6_ahead 214) [some (mr 7 20), some (mi x1)] [] g = if x1 = 59 then mEv X call 0 t_X6_ahead (mDrop t_X6_ahead 221) [some (mr 7 20), some (mi x1)] [mr 7 20] g else mEv X call 0 t_X6_ahead (mDrop t_X6_ahead 225) [some (mr 7 20), some (mi x1)] [mr 7 20] g := (mEv_4 _ _ _ _).trans rfl
theorem e_X6_ahead_221 {X : mX} {call : Nat → List mV → mG → mR} {g : mG} {x1 : Int32} : mEv X call 0 t_X6_ahead (mDrop t_X6_ahead 221) [some (mr 7 20), some (mi x1)] [mr 7 20] g = mEv X call 0 t_X6_ahead (mDrop t_X6_ahead 226) [some (mr 7 20), some (mi x1)] [mi 4, mr 7 20] g := (mEv_2 _ _ _ _).trans rfl
theorem e_X6_ahead_226 {X : mX} {call : Nat → List mV → mG → mR} {g : mG} {x1 s1 : Int32} : mEv X call 0 t_X6_ahead (mDrop t_X6_ahead 226) [some (mr 7 20), some (mi x1)] [mi s1, mr 7 20] g = mEv X call 0 t_X6_ahead (mDrop t_X6_ahead 229) [some (mr 7 20), some (mi x1)] [] (mU g 7 (mP (g 7) 20 10 s1)) := (mEv_1 _ _ _ _).trans rfl
noncomputable def J_X6_ahead_226 (c : mC) (s1 : Int32) : (Option (mC)) := (some (mP c 20 10 s1))
theorem rj_X6_ahead_226 (d : Nat) {X : mX} {g : mG} {x1 s1 : Int32} {c : mC} : mEv X (mCall mD X (d + 1)) 0 t_X6_ahead (mDrop t_X6_ahead 226) [some (mr 7 20), some (mi x1)] [mi s1, mr 7 20] (mU g 7 c) = (wO (wV g 7)) (J_X6_ahead_226 c s1) := by
  refine Eq.trans (e_X6_ahead_226) ?_
  try simp only [mU_same, mU_mU]
  refine Eq.trans (e_X6_ahead_229) ?_
  try simp only [mU_same, mU_mU]
  all_goals rfl
theorem e_X6_ahead_225 {X : mX} {call : Nat → List mV → mG → mR} {g : mG} {x1 : Int32} : mEv X call 0 t_X6_ahead (mDrop t_X6_ahead 225) [some (mr 7 20), some (mi x1)] [mr 7 20] g = mEv X call 0 t_X6_ahead (mDrop t_X6_ahead 226) [some (mr 7 20), some (mi x1)] [mi 1, mr 7 20] g := (mEv_1 _ _ _ _).trans rfl
theorem e_X6_ahead_118 {X : mX} {call : Nat → List mV → mG → mR} {g : mG} {x1 : Int32} : mEv X call 0 t_X6_ahead (mDrop t_X6_ahead 118) [some (mr 7 20), some (mi x1)] [] g = mEv X call 0 t_X6_ahead (mDrop t_X6_ahead 123) [some (mr 7 20), some (mi x1)] [] (mU g 7 (mP (g 7) 20 13 0)) := (mEv_3 _ _ _ _).trans rfl
theorem e_X6_ahead_123 {X : mX} {call : Nat → List mV → mG → mR} {g : mG} {x1 : Int32} : mEv X call 0 t_X6_ahead (mDrop t_X6_ahead 123) [some (mr 7 20), some (mi x1)] [] g = mAns (mEv X call 0 t_X6_ahead) (mDrop t_X6_ahead 131) [some (mr 7 20), some (mi x1)] [] (call 213 [mr 7 20, mi (g 7 20 12)] g) := (mEv_4 _ _ _ _).trans rfl
theorem e_X6_ahead_131 {X : mX} {call : Nat → List mV → mG → mR} {g : mG} {x1 s0 : Int32} : mEv X call 0 t_X6_ahead (mDrop t_X6_ahead 131) [some (mr 7 20), some (mi x1)] [mi s0] g = mAns (mEv X call 0 t_X6_ahead) (mDrop t_X6_ahead 134) [some (mr 7 20), some (mi x1)] [] (call 215 [mi s0] g) := (mEv_1 _ _ _ _).trans rfl
theorem e_X6_ahead_134 {X : mX} {call : Nat → List mV → mG → mR} {g : mG} {x1 s0 : Int32} : mEv X call 0 t_X6_ahead (mDrop t_X6_ahead 134) [some (mr 7 20), some (mi x1)] [mi s0] g = if s0 = 0 then mEv X call 0 t_X6_ahead (mDrop t_X6_ahead 179) [some (mr 7 20), some (mi x1)] [] g else mEv X call 0 t_X6_ahead (mDrop t_X6_ahead 137) [some (mr 7 20), some (mi x1)] [] g := (mEv_1 _ _ _ _).trans rfl
theorem e_X6_ahead_179 {X : mX} {call : Nat → List mV → mG → mR} {g : mG} {x1 : Int32} : mEv X call 0 t_X6_ahead (mDrop t_X6_ahead 179) [some (mr 7 20), some (mi x1)] [] g = if ((g 7 20 12) - (g 7 20 11)) ≤ 3 then mEv X call 0 t_X6_ahead (mDrop t_X6_ahead 197) [some (mr 7 20), some (mi x1)] [mr 7 20] g else mEv X call 0 t_X6_ahead (mDrop t_X6_ahead 193) [some (mr 7 20), some (mi x1)] [mr 7 20] g := (mEv_8 _ _ _ _).trans rfl
theorem e_X6_ahead_197 {X : mX} {call : Nat → List mV → mG → mR} {g : mG} {x1 : Int32} : mEv X call 0 t_X6_ahead (mDrop t_X6_ahead 197) [some (mr 7 20), some (mi x1)] [mr 7 20] g = mEv X call 0 t_X6_ahead (mDrop t_X6_ahead 198) [some (mr 7 20), some (mi x1)] [mi 3, mr 7 20] g := (mEv_1 _ _ _ _).trans rfl
theorem e_X6_ahead_198 {X : mX} {call : Nat → List mV → mG → mR} {g : mG} {x1 s1 : Int32} : mEv X call 0 t_X6_ahead (mDrop t_X6_ahead 198) [some (mr 7 20), some (mi x1)] [mi s1, mr 7 20] g = mEv X call 0 t_X6_ahead (mDrop t_X6_ahead 201) [some (mr 7 20), some (mi x1)] [] (mU g 7 (mP (g 7) 20 10 s1)) := (mEv_1 _ _ _ _).trans rfl
theorem e_X6_ahead_201 {X : mX} {call : Nat → List mV → mG → mR} {g : mG} {x1 : Int32} : mEv X call 0 t_X6_ahead (mDrop t_X6_ahead 201) [some (mr 7 20), some (mi x1)] [] g = mEv X call 0 t_X6_ahead (mDrop t_X6_ahead 229) [some (mr 7 20), some (mi x1)] [] g := (mEv_1 _ _ _ _).trans rfl
noncomputable def J_X6_ahead_198 (c : mC) (s1 : Int32) : (Option (mC)) := (some (mP c 20 10 s1))
theorem rj_X6_ahead_198 (d : Nat) {X : mX} {g : mG} {x1 s1 : Int32} {c : mC} : mEv X (mCall mD X (d + 1)) 0 t_X6_ahead (mDrop t_X6_ahead 198) [some (mr 7 20), some (mi x1)] [mi s1, mr 7 20] (mU g 7 c) = (wO (wV g 7)) (J_X6_ahead_198 c s1) := by
  refine Eq.trans (e_X6_ahead_198) ?_
  try simp only [mU_same, mU_mU]
  refine Eq.trans (e_X6_ahead_201) ?_
  try simp only [mU_same, mU_mU]
  refine Eq.trans (e_X6_ahead_229) ?_
  try simp only [mU_same, mU_mU]
  all_goals rfl
theorem e_X6_ahead_193 {X : mX} {call : Nat → List mV → mG → mR} {g : mG} {x1 : Int32} : mEv X call 0 t_X6_ahead (mDrop t_X6_ahead 193) [some (mr 7 20), some (mi x1)] [mr 7 20] g = mEv X call 0 t_X6_ahead (mDrop t_X6_ahead 198) [some (mr 7 20), some (mi x1)] [mi 1, mr 7 20] g := (mEv_2 _ _ _ _).trans rfl
theorem e_X6_ahead_137 {X : mX} {call : Nat → List mV → mG → mR} {g : mG} {x1 : Int32} : mEv X call 0 t_X6_ahead (mDrop t_X6_ahead 137) [some (mr 7 20), some (mi x1)] [] g = mAns (mEv X call 0 t_X6_ahead) (mDrop t_X6_ahead 156) [some (mr 7 20), some (mi x1)] [mi ((10 : Int32) * (g 7 20 13)), mi 9999, mr 7 20] (call 213 [mr 7 20, mi (g 7 20 12)] g) := (mEv_10 _ _ _ _).trans rfl
theorem e_X6_ahead_156 {X : mX} {call : Nat → List mV → mG → mR} {g : mG} {x1 s1 s2 s3 : Int32} : mEv X call 0 t_X6_ahead (mDrop t_X6_ahead 156) [some (mr 7 20), some (mi x1)] [mi s3, mi s2, mi s1, mr 7 20] g = mAns (mEv X call 0 t_X6_ahead) (mDrop t_X6_ahead 163) [some (mr 7 20), some (mi x1)] [mr 7 20] (call 278 [mi s1, mi ((s2 + s3) - 48)] g) := (mEv_4 _ _ _ _).trans rfl
theorem e_X6_ahead_163 {X : mX} {call : Nat → List mV → mG → mR} {g : mG} {x1 s1 : Int32} : mEv X call 0 t_X6_ahead (mDrop t_X6_ahead 163) [some (mr 7 20), some (mi x1)] [mi s1, mr 7 20] g = mEv X call 0 t_X6_ahead (mDrop t_X6_ahead 166) [some (mr 7 20), some (mi x1)] [] (mU g 7 (mP (g 7) 20 13 s1)) := (mEv_1 _ _ _ _).trans rfl
theorem e_X6_ahead_166 {X : mX} {call : Nat → List mV → mG → mR} {g : mG} {x1 : Int32} : mEv X call 0 t_X6_ahead (mDrop t_X6_ahead 166) [some (mr 7 20), some (mi x1)] [] g = mEv X call 0 t_X6_ahead (mDrop t_X6_ahead 176) [some (mr 7 20), some (mi x1)] [] (mU g 7 (mP (g 7) 20 12 ((g 7 20 12) + 1))) := (mEv_6 _ _ _ _).trans rfl
theorem e_X6_ahead_176 {X : mX} {call : Nat → List mV → mG → mR} {g : mG} {x1 : Int32} : mEv X call 0 t_X6_ahead (mDrop t_X6_ahead 176) [some (mr 7 20), some (mi x1)] [] g = mEv X call 0 t_X6_ahead (mDrop t_X6_ahead 123) [some (mr 7 20), some (mi x1)] [] g := (mEv_1 _ _ _ _).trans rfl
noncomputable def B_X6_ahead_123  : (mC) → (mC) ⊕ (Option (mC)) := fun c => (mBo (α := Int32) (.inr none) (P_X6_byteAt c (c 20 12)) (fun v1 => (mBd (α := Int32) (P_X6_isDigit v1) (fun v2 => (if v2 = 0 then (.inr (if ((c 20 12) - (c 20 11)) ≤ 3 then (J_X6_ahead_198 c 3) else (J_X6_ahead_198 c 1))) else (mBo (α := Int32) (.inr none) (P_X6_byteAt c (c 20 12)) (fun v4 => (mBd (α := Int32) (P_J9_min_7cf53 9999 ((((10 : Int32) * (c 20 13)) + v4) - 48)) (fun v5 => (.inl (mP (mP c 20 13 v5) 20 12 (((mP c 20 13 v5) 20 12) + 1))))))))))))
theorem by_lt {c : mC} {x v : Int32} (h : P_X6_byteAt c x = some v) (hv : v ≠ -1) : ¬ c 20 9 ≤ x := by
  intro hx
  unfold P_X6_byteAt at h
  rw [if_pos hx] at h
  exact hv (Option.some.inj h).symm
theorem by_dig {v : Int32} (h : ¬ P_X6_isDigit v = 0) : v ≠ -1 := by
  rintro rfl; exact h rfl
theorem by_sml {v : Int32} (h : ¬ P_X6_isSmall v = 0) : v ≠ -1 := by
  rintro rfl; exact h rfl
def mEnd (c : mC) : Nat := mMx (c 20 12)
theorem mEnd_up {c : mC} {v : Int32} (h : P_X6_byteAt c (c 20 12) = some v) (hv : v ≠ -1) : mEnd (mP c 20 12 (c 20 12 + 1)) < mEnd c := by
  unfold mEnd; rw [mP_s]; exact mtm_max (by_lt h hv)
set_option maxRecDepth 100000 in
theorem tm_X6_ahead_123  : mTm (B_X6_ahead_123 ) := by
  refine ⟨mEnd, fun c s2 h => ?_⟩
  simp only [B_X6_ahead_123, mBd, mBo] at h
  (repeat' split at h) <;> first | (cases h; done) | skip
  have h2 := Sum.inl.inj h; subst h2
  unfold mEnd; rw [mP_s, mP_n _ _ _ (by decide)]
  exact mtm_max (by_lt (by assumption) (by_dig (by assumption)))
theorem rl_X6_ahead_123 (d : Nat) {X : mX} {g : mG} {x1 : Int32} {c : mC} : mEv X (mCall mD X (d + 1)) 0 t_X6_ahead (mDrop t_X6_ahead 123) [some (mr 7 20), some (mi x1)] [] (mU g 7 c) = (wO (wV g 7)) (mWh none B_X6_ahead_123 c) := by
  refine mWh_ev (B := B_X6_ahead_123) (ev := fun c : (mC) => mEv X (mCall mD X (d + 1)) 0 t_X6_ahead (mDrop t_X6_ahead 123) [some (mr 7 20), some (mi x1)] [] (mU g 7 c)) (w := (wO (wV g 7))) (tm_X6_ahead_123) ?_ c
  intro c
  show mEv X (mCall mD X (d + 1)) 0 t_X6_ahead (mDrop t_X6_ahead 123) [some (mr 7 20), some (mi x1)] [] (mU g 7 c) = wB (fun c : (mC) => mEv X (mCall mD X (d + 1)) 0 t_X6_ahead (mDrop t_X6_ahead 123) [some (mr 7 20), some (mi x1)] [] (mU g 7 c)) (wO (wV g 7)) (mBo (α := Int32) (.inr none) (P_X6_byteAt c (c 20 12)) (fun v1 => (mBd (α := Int32) (P_X6_isDigit v1) (fun v2 => (if v2 = 0 then (.inr (if ((c 20 12) - (c 20 11)) ≤ 3 then (J_X6_ahead_198 c 3) else (J_X6_ahead_198 c 1))) else (mBo (α := Int32) (.inr none) (P_X6_byteAt c (c 20 12)) (fun v4 => (mBd (α := Int32) (P_J9_min_7cf53 9999 ((((10 : Int32) * (c 20 13)) + v4) - 48)) (fun v5 => (.inl (mP (mP c 20 13 v5) 20 12 (((mP c 20 13 v5) 20 12) + 1))))))))))))
  refine Eq.trans (e_X6_ahead_123) ?_
  try simp only [mU_same, mU_mU]
  refine mw_oI ?_ (rr_X6_byteAt d) (fun v1 => ?_)
  · rfl
  refine Eq.trans (e_X6_ahead_131) ?_
  try simp only [mU_same, mU_mU]
  refine mw_cZ (rr_X6_isDigit d) rfl (fun v2 hv2 => ?_)
  refine Eq.trans (e_X6_ahead_134) ?_
  try simp only [mU_same, mU_mU]
  refine mw_ite (fun h6 => ?_) (fun h6 => ?_)
  · refine mw_inr ?_
    refine Eq.trans (e_X6_ahead_179) ?_
    try simp only [mU_same, mU_mU]
    refine mw_ite (fun h3 => ?_) (fun h3 => ?_)
    · refine Eq.trans (e_X6_ahead_197) ?_
      try simp only [mU_same, mU_mU]
      exact rj_X6_ahead_198 d
    · refine Eq.trans (e_X6_ahead_193) ?_
      try simp only [mU_same, mU_mU]
      exact rj_X6_ahead_198 d
  · refine Eq.trans (e_X6_ahead_137) ?_
    try simp only [mU_same, mU_mU]
    refine mw_oI ?_ (rr_X6_byteAt d) (fun v4 => ?_)
    · rfl
    refine Eq.trans (e_X6_ahead_156) ?_
    try simp only [mU_same, mU_mU]
    refine mw_cI (rr_J9_min_7cf53 d) (fun v5 => ?_)
    refine Eq.trans (e_X6_ahead_163) ?_
    try simp only [mU_same, mU_mU]
    refine Eq.trans (e_X6_ahead_166) ?_
    try simp only [mU_same, mU_mU]
    refine Eq.trans (e_X6_ahead_176) ?_
    try simp only [mU_same, mU_mU]
    exact mw_inl rfl
theorem e_X6_ahead_76 {X : mX} {call : Nat → List mV → mG → mR} {g : mG} {x1 : Int32} : mEv X call 0 t_X6_ahead (mDrop t_X6_ahead 76) [some (mr 7 20), some (mi x1)] [] g = mAns (mEv X call 0 t_X6_ahead) (mDrop t_X6_ahead 84) [some (mr 7 20), some (mi x1)] [] (call 213 [mr 7 20, mi (g 7 20 12)] g) := (mEv_4 _ _ _ _).trans rfl
theorem e_X6_ahead_84 {X : mX} {call : Nat → List mV → mG → mR} {g : mG} {x1 s0 : Int32} : mEv X call 0 t_X6_ahead (mDrop t_X6_ahead 84) [some (mr 7 20), some (mi x1)] [mi s0] g = mAns (mEv X call 0 t_X6_ahead) (mDrop t_X6_ahead 87) [some (mr 7 20), some (mi x1)] [] (call 214 [mi s0] g) := (mEv_1 _ _ _ _).trans rfl
theorem e_X6_ahead_87 {X : mX} {call : Nat → List mV → mG → mR} {g : mG} {x1 s0 : Int32} : mEv X call 0 t_X6_ahead (mDrop t_X6_ahead 87) [some (mr 7 20), some (mi x1)] [mi s0] g = if s0 = 0 then mEv X call 0 t_X6_ahead (mDrop t_X6_ahead 103) [some (mr 7 20), some (mi x1)] [] g else mEv X call 0 t_X6_ahead (mDrop t_X6_ahead 90) [some (mr 7 20), some (mi x1)] [] g := (mEv_1 _ _ _ _).trans rfl
theorem e_X6_ahead_103 {X : mX} {call : Nat → List mV → mG → mR} {g : mG} {x1 : Int32} : mEv X call 0 t_X6_ahead (mDrop t_X6_ahead 103) [some (mr 7 20), some (mi x1)] [] g = mEv X call 0 t_X6_ahead (mDrop t_X6_ahead 108) [some (mr 7 20), some (mi x1)] [] (mU g 7 (mP (g 7) 20 10 2)) := (mEv_3 _ _ _ _).trans rfl
theorem e_X6_ahead_108 {X : mX} {call : Nat → List mV → mG → mR} {g : mG} {x1 : Int32} : mEv X call 0 t_X6_ahead (mDrop t_X6_ahead 108) [some (mr 7 20), some (mi x1)] [] g = mEv X call 0 t_X6_ahead (mDrop t_X6_ahead 229) [some (mr 7 20), some (mi x1)] [] g := (mEv_1 _ _ _ _).trans rfl
theorem e_X6_ahead_90 {X : mX} {call : Nat → List mV → mG → mR} {g : mG} {x1 : Int32} : mEv X call 0 t_X6_ahead (mDrop t_X6_ahead 90) [some (mr 7 20), some (mi x1)] [] g = mEv X call 0 t_X6_ahead (mDrop t_X6_ahead 100) [some (mr 7 20), some (mi x1)] [] (mU g 7 (mP (g 7) 20 12 ((g 7 20 12) + 1))) := (mEv_6 _ _ _ _).trans rfl
theorem e_X6_ahead_100 {X : mX} {call : Nat → List mV → mG → mR} {g : mG} {x1 : Int32} : mEv X call 0 t_X6_ahead (mDrop t_X6_ahead 100) [some (mr 7 20), some (mi x1)] [] g = mEv X call 0 t_X6_ahead (mDrop t_X6_ahead 76) [some (mr 7 20), some (mi x1)] [] g := (mEv_1 _ _ _ _).trans rfl
noncomputable def B_X6_ahead_76  : (mC) → (mC) ⊕ (Option (mC)) := fun c => (mBo (α := Int32) (.inr none) (P_X6_byteAt c (c 20 12)) (fun v1 => (mBd (α := Int32) (P_X6_isSmall v1) (fun v2 => (if v2 = 0 then (.inr (some (mP c 20 10 2))) else (.inl (mP c 20 12 ((c 20 12) + 1))))))))
set_option maxRecDepth 100000 in
theorem tm_X6_ahead_76  : mTm (B_X6_ahead_76 ) := by
  refine ⟨mEnd, fun c s2 h => ?_⟩
  simp only [B_X6_ahead_76, mBd, mBo] at h
  (repeat' split at h) <;> first | (cases h; done) | skip
  have h2 := Sum.inl.inj h; subst h2
  exact mEnd_up (by assumption) (by_sml (by assumption))
theorem rl_X6_ahead_76 (d : Nat) {X : mX} {g : mG} {x1 : Int32} {c : mC} : mEv X (mCall mD X (d + 1)) 0 t_X6_ahead (mDrop t_X6_ahead 76) [some (mr 7 20), some (mi x1)] [] (mU g 7 c) = (wO (wV g 7)) (mWh none B_X6_ahead_76 c) := by
  refine mWh_ev (B := B_X6_ahead_76) (ev := fun c : (mC) => mEv X (mCall mD X (d + 1)) 0 t_X6_ahead (mDrop t_X6_ahead 76) [some (mr 7 20), some (mi x1)] [] (mU g 7 c)) (w := (wO (wV g 7))) (tm_X6_ahead_76) ?_ c
  intro c
  show mEv X (mCall mD X (d + 1)) 0 t_X6_ahead (mDrop t_X6_ahead 76) [some (mr 7 20), some (mi x1)] [] (mU g 7 c) = wB (fun c : (mC) => mEv X (mCall mD X (d + 1)) 0 t_X6_ahead (mDrop t_X6_ahead 76) [some (mr 7 20), some (mi x1)] [] (mU g 7 c)) (wO (wV g 7)) (mBo (α := Int32) (.inr none) (P_X6_byteAt c (c 20 12)) (fun v1 => (mBd (α := Int32) (P_X6_isSmall v1) (fun v2 => (if v2 = 0 then (.inr (some (mP c 20 10 2))) else (.inl (mP c 20 12 ((c 20 12) + 1))))))))
  refine Eq.trans (e_X6_ahead_76) ?_
  try simp only [mU_same, mU_mU]
  refine mw_oI ?_ (rr_X6_byteAt d) (fun v1 => ?_)
  · rfl
  refine Eq.trans (e_X6_ahead_84) ?_
  try simp only [mU_same, mU_mU]
  refine mw_cZ (rr_X6_isSmall d) rfl (fun v2 hv2 => ?_)
  refine Eq.trans (e_X6_ahead_87) ?_
  try simp only [mU_same, mU_mU]
  refine mw_ite (fun h3 => ?_) (fun h3 => ?_)
  · refine mw_inr ?_
    refine Eq.trans (e_X6_ahead_103) ?_
    try simp only [mU_same, mU_mU]
    refine Eq.trans (e_X6_ahead_108) ?_
    try simp only [mU_same, mU_mU]
    refine Eq.trans (e_X6_ahead_229) ?_
    try simp only [mU_same, mU_mU]
    all_goals rfl
  · refine Eq.trans (e_X6_ahead_90) ?_
    try simp only [mU_same, mU_mU]
    refine Eq.trans (e_X6_ahead_100) ?_
    try simp only [mU_same, mU_mU]
    exact mw_inl rfl
noncomputable def B_X6_ahead_0  : (mC) → (mC) ⊕ (Option (mC)) := fun c => (mBo (α := Int32) (.inr none) (P_X6_byteAt c (c 20 12)) (fun v1 => (if v1 = 32 then (J_X6_ahead_26 c) else (mBo (α := Int32) (.inr none) (P_X6_byteAt c (c 20 12)) (fun v2 => (if v2 = 10 then (J_X6_ahead_26 c) else (.inr (mBo (α := Int32) none (P_X6_byteAt (mP c 20 11 (c 20 12)) ((mP c 20 11 (c 20 12)) 20 12)) (fun v3 => (if v3 = (-1) then (some (mP (mP c 20 11 (c 20 12)) 20 10 0)) else (mBd (α := Int32) (P_X6_isSmall v3) (fun v4 => (if v4 = 0 then (mBd (α := Int32) (P_X6_isDigit v3) (fun v5 => (if v5 = 0 then (if v3 = 59 then (J_X6_ahead_226 (mP (mP c 20 11 (c 20 12)) 20 12 (((mP c 20 11 (c 20 12)) 20 12) + 1)) 4) else (J_X6_ahead_226 (mP (mP c 20 11 (c 20 12)) 20 12 (((mP c 20 11 (c 20 12)) 20 12) + 1)) 1)) else (mWh none B_X6_ahead_123 (mP (mP c 20 11 (c 20 12)) 20 13 0))))) else (mWh none B_X6_ahead_76 (mP c 20 11 (c 20 12))))))))))))))))
set_option maxRecDepth 100000 in
theorem tm_X6_ahead_0  : mTm (B_X6_ahead_0 ) := by
  refine ⟨mEnd, fun c s2 h => ?_⟩
  unfold B_X6_ahead_0 J_X6_ahead_26 at h
  cases hb : P_X6_byteAt c (c 20 12) with
  | none => rw [hb] at h; cases h
  | some v =>
    rw [hb] at h
    simp only [mBo] at h
    split at h
    next e => have h2 := Sum.inl.inj h; subst h2; exact mEnd_up hb (by rw [e]; decide)
    next e0 =>
      split at h
      next e => have h2 := Sum.inl.inj h; subst h2; exact mEnd_up hb (by rw [e]; decide)
      next => cases h
theorem rl_X6_ahead_0 (d : Nat) {X : mX} {g : mG} {c : mC} : mEv X (mCall mD X (d + 1)) 0 t_X6_ahead (mDrop t_X6_ahead 0) [some (mr 7 20), none] [] (mU g 7 c) = (wO (wV g 7)) (mWh none B_X6_ahead_0 c) := by
  refine mWh_ev (B := B_X6_ahead_0) (ev := fun c : (mC) => mEv X (mCall mD X (d + 1)) 0 t_X6_ahead (mDrop t_X6_ahead 0) [some (mr 7 20), none] [] (mU g 7 c)) (w := (wO (wV g 7))) (tm_X6_ahead_0) ?_ c
  intro c
  show mEv X (mCall mD X (d + 1)) 0 t_X6_ahead (mDrop t_X6_ahead 0) [some (mr 7 20), none] [] (mU g 7 c) = wB (fun c : (mC) => mEv X (mCall mD X (d + 1)) 0 t_X6_ahead (mDrop t_X6_ahead 0) [some (mr 7 20), none] [] (mU g 7 c)) (wO (wV g 7)) (mBo (α := Int32) (.inr none) (P_X6_byteAt c (c 20 12)) (fun v1 => (if v1 = 32 then (J_X6_ahead_26 c) else (mBo (α := Int32) (.inr none) (P_X6_byteAt c (c 20 12)) (fun v2 => (if v2 = 10 then (J_X6_ahead_26 c) else (.inr (mBo (α := Int32) none (P_X6_byteAt (mP c 20 11 (c 20 12)) ((mP c 20 11 (c 20 12)) 20 12)) (fun v3 => (if v3 = (-1) then (some (mP (mP c 20 11 (c 20 12)) 20 10 0)) else (mBd (α := Int32) (P_X6_isSmall v3) (fun v4 => (if v4 = 0 then (mBd (α := Int32) (P_X6_isDigit v3) (fun v5 => (if v5 = 0 then (if v3 = 59 then (J_X6_ahead_226 (mP (mP c 20 11 (c 20 12)) 20 12 (((mP c 20 11 (c 20 12)) 20 12) + 1)) 4) else (J_X6_ahead_226 (mP (mP c 20 11 (c 20 12)) 20 12 (((mP c 20 11 (c 20 12)) 20 12) + 1)) 1)) else (mWh none B_X6_ahead_123 (mP (mP c 20 11 (c 20 12)) 20 13 0))))) else (mWh none B_X6_ahead_76 (mP c 20 11 (c 20 12))))))))))))))))
  refine Eq.trans (e_X6_ahead_0) ?_
  try simp only [mU_same, mU_mU]
  refine mw_oI ?_ (rr_X6_byteAt d) (fun v1 => ?_)
  · rfl
  refine Eq.trans (e_X6_ahead_8) ?_
  try simp only [mU_same, mU_mU]
  refine mw_ite (fun h11 => ?_) (fun h11 => ?_)
  · exact rj_X6_ahead_26 d
  · refine Eq.trans (e_X6_ahead_13) ?_
    try simp only [mU_same, mU_mU]
    refine mw_oI ?_ (rr_X6_byteAt d) (fun v2 => ?_)
    · rfl
    refine Eq.trans (e_X6_ahead_21) ?_
    try simp only [mU_same, mU_mU]
    refine mw_ite (fun h10 => ?_) (fun h10 => ?_)
    · exact rj_X6_ahead_26 d
    · refine mw_inr ?_
      refine Eq.trans (e_X6_ahead_39) ?_
      try simp only [mU_same, mU_mU]
      refine Eq.trans (e_X6_ahead_47) ?_
      try simp only [mU_same, mU_mU]
      refine mw_oI ?_ (rr_X6_byteAt d) (fun v3 => ?_)
      · rfl
      refine Eq.trans (e_X6_ahead_55) ?_
      try simp only [mU_same, mU_mU]
      refine mw_ite (fun h9 => ?_) (fun h9 => ?_)
      · refine Eq.trans (e_X6_ahead_61) ?_
        try simp only [mU_same, mU_mU]
        refine Eq.trans (e_X6_ahead_66) ?_
        try simp only [mU_same, mU_mU]
        refine Eq.trans (e_X6_ahead_229) ?_
        try simp only [mU_same, mU_mU]
        all_goals rfl
      · refine Eq.trans (e_X6_ahead_69) ?_
        try simp only [mU_same, mU_mU]
        refine mw_cZ (rr_X6_isSmall d) rfl (fun v4 hv4 => ?_)
        refine Eq.trans (e_X6_ahead_73) ?_
        try simp only [mU_same, mU_mU]
        refine mw_ite (fun h8 => ?_) (fun h8 => ?_)
        · refine Eq.trans (e_X6_ahead_111) ?_
          try simp only [mU_same, mU_mU]
          refine mw_cZ (rr_X6_isDigit d) rfl (fun v5 hv5 => ?_)
          refine Eq.trans (e_X6_ahead_115) ?_
          try simp only [mU_same, mU_mU]
          refine mw_ite (fun h7 => ?_) (fun h7 => ?_)
          · refine Eq.trans (e_X6_ahead_204) ?_
            try simp only [mU_same, mU_mU]
            refine Eq.trans (e_X6_ahead_214) ?_
            try simp only [mU_same, mU_mU]
            refine mw_ite (fun h6 => ?_) (fun h6 => ?_)
            · refine Eq.trans (e_X6_ahead_221) ?_
              try simp only [mU_same, mU_mU]
              exact rj_X6_ahead_226 d
            · refine Eq.trans (e_X6_ahead_225) ?_
              try simp only [mU_same, mU_mU]
              exact rj_X6_ahead_226 d
          · refine Eq.trans (e_X6_ahead_118) ?_
            try simp only [mU_same, mU_mU]
            exact rl_X6_ahead_123 d
        · exact rl_X6_ahead_76 d
noncomputable def P_X6_ahead (c : mC) : (Option (mC)) := (mWh none B_X6_ahead_0 c)
theorem rr_X6_ahead (d : Nat) {X : mX} {g : mG} {c : mC} : mCall mD X (d + 2) 216 [mr 7 20] (mU g 7 c) = (wO (wV g 7)) (P_X6_ahead c) := by
  refine Eq.trans (mCall_eq (d := d + 1) rfl) ?_
  show mEv X (mCall mD X (d + 1)) 0 t_X6_ahead (mDrop t_X6_ahead 0) [some (mr 7 20), none] [] (mU g 7 c) = _
  exact rl_X6_ahead_0 d
theorem rr_X6_ahead_at (d : Nat) {X : mX} {g : mG} : mCall mD X (d + 2) 216 [mr 7 20] g = wO (wV g 7) (P_X6_ahead (g 7)) := by
  have h := rr_X6_ahead (X := X) d (g := g) (c := g 7)
  rw [mU_self] at h
  exact h
theorem e_X6_key_0 {X : mX} {call : Nat → List mV → mG → mR} {g : mG} : mEv X call 1 t_X6_key (mDrop t_X6_key 0) [some (mr 7 20), none, none, none, none, none] [] g = if (g 7 20 10) = 2 then mEv X call 1 t_X6_key (mDrop t_X6_key 10) [some (mr 7 20), none, none, none, none, none] [] g else mEv X call 1 t_X6_key (mDrop t_X6_key 8) [some (mr 7 20), none, none, none, none, none] [] g := (mEv_4 _ _ _ _).trans rfl
theorem e_X6_key_8 {X : mX} {call : Nat → List mV → mG → mR} {g : mG} : mEv X call 1 t_X6_key (mDrop t_X6_key 8) [some (mr 7 20), none, none, none, none, none] [] g = some (some (mi (-1)), g) := (mEv_2 _ _ _ _).trans rfl
theorem e_X6_key_10 {X : mX} {call : Nat → List mV → mG → mR} {g : mG} : mEv X call 1 t_X6_key (mDrop t_X6_key 10) [some (mr 7 20), none, none, none, none, none] [] g = mEv X call 1 t_X6_key (mDrop t_X6_key 14) [some (mr 7 20), some (mi 0), some (mi 1), none, none, none] [] g := (mEv_4 _ _ _ _).trans rfl
theorem e_X6_key_14 {X : mX} {call : Nat → List mV → mG → mR} {g : mG} {x1 x2 : Int32} {u3 u4 u5 : Option mV} : mEv X call 1 t_X6_key (mDrop t_X6_key 14) [some (mr 7 20), some (mi x1), some (mi x2), u3, u4, u5] [] g = mAns (mEv X call 1 t_X6_key) (mDrop t_X6_key 20) [some (mr 7 20), some (mi x1), some (mi x2), none, none, none] [mi x2] (call 279 [mr 17 24] g) := (mEv_3 _ _ _ _).trans rfl
theorem e_X6_key_20 {X : mX} {call : Nat → List mV → mG → mR} {g : mG} {x1 x2 s0 s1 : Int32} {u3 u4 u5 : Option mV} : mEv X call 1 t_X6_key (mDrop t_X6_key 20) [some (mr 7 20), some (mi x1), some (mi x2), u3, u4, u5] [mi s1, mi s0] g = if s1 ≤ s0 then mEv X call 1 t_X6_key (mDrop t_X6_key 133) [some (mr 7 20), some (mi x1), some (mi x2), u3, u4, u5] [] g else mEv X call 1 t_X6_key (mDrop t_X6_key 23) [some (mr 7 20), some (mi x1), some (mi x2), u3, u4, u5] [] g := (mEv_1 _ _ _ _).trans rfl
theorem e_X6_key_23 {X : mX} {call : Nat → List mV → mG → mR} {g : mG} {x1 x2 : Int32} {u3 u4 u5 : Option mV} : mEv X call 1 t_X6_key (mDrop t_X6_key 23) [some (mr 7 20), some (mi x1), some (mi x2), u3, u4, u5] [] g = mEv X call 1 t_X6_key (mDrop t_X6_key 25) [some (mr 7 20), some (mi x1), some (mi x2), some (mi x2), u4, u5] [] g := (mEv_2 _ _ _ _).trans rfl
theorem e_X6_key_25 {X : mX} {call : Nat → List mV → mG → mR} {g : mG} {x1 x2 x3 : Int32} {u4 u5 : Option mV} : mEv X call 1 t_X6_key (mDrop t_X6_key 25) [some (mr 7 20), some (mi x1), some (mi x2), some (mi x3), u4, u5] [] g = mAns (mEv X call 1 t_X6_key) (mDrop t_X6_key 31) [some (mr 7 20), some (mi x1), some (mi x2), some (mi x3), u4, u5] [] (call 280 [mr 17 24, mi x3] g) := (mEv_3 _ _ _ _).trans rfl
theorem e_X6_key_31 {X : mX} {call : Nat → List mV → mG → mR} {g : mG} {x1 x2 x3 s0 : Int32} {u4 u5 : Option mV} : mEv X call 1 t_X6_key (mDrop t_X6_key 31) [some (mr 7 20), some (mi x1), some (mi x2), some (mi x3), u4, u5] [mi s0] g = if s0 = 32 then mEv X call 1 t_X6_key (mDrop t_X6_key 42) [some (mr 7 20), some (mi x1), some (mi x2), some (mi x3), u4, u5] [] g else mEv X call 1 t_X6_key (mDrop t_X6_key 36) [some (mr 7 20), some (mi x1), some (mi x2), some (mi x3), u4, u5] [] g := (mEv_2 _ _ _ _).trans rfl
theorem e_X6_key_36 {X : mX} {call : Nat → List mV → mG → mR} {g : mG} {x1 x2 x3 : Int32} {u4 u5 : Option mV} : mEv X call 1 t_X6_key (mDrop t_X6_key 36) [some (mr 7 20), some (mi x1), some (mi x2), some (mi x3), u4, u5] [] g = mEv X call 1 t_X6_key (mDrop t_X6_key 25) [some (mr 7 20), some (mi x1), some (mi x2), some (mi (x3 + 1)), u4, u5] [] g := (mEv_2 _ _ _ _).trans rfl
theorem e_X6_key_42 {X : mX} {call : Nat → List mV → mG → mR} {g : mG} {x1 x2 x3 : Int32} {u4 u5 : Option mV} : mEv X call 1 t_X6_key (mDrop t_X6_key 42) [some (mr 7 20), some (mi x1), some (mi x2), some (mi x3), u4, u5] [] g = if (x3 - x2) = ((g 7 20 12) - (g 7 20 11)) then mEv X call 1 t_X6_key (mDrop t_X6_key 57) [some (mr 7 20), some (mi x1), some (mi x2), some (mi x3), u4, u5] [] g else mEv X call 1 t_X6_key (mDrop t_X6_key 61) [some (mr 7 20), some (mi x1), some (mi x2), some (mi x3), u4, u5] [] g := (mEv_9 _ _ _ _).trans rfl
theorem e_X6_key_57 {X : mX} {call : Nat → List mV → mG → mR} {g : mG} {x1 x2 x3 : Int32} {u4 u5 : Option mV} : mEv X call 1 t_X6_key (mDrop t_X6_key 57) [some (mr 7 20), some (mi x1), some (mi x2), some (mi x3), u4, u5] [] g = mEv X call 1 t_X6_key (mDrop t_X6_key 62) [some (mr 7 20), some (mi x1), some (mi x2), some (mi x3), u4, u5] [mi 1] g := (mEv_2 _ _ _ _).trans rfl
theorem e_X6_key_61 {X : mX} {call : Nat → List mV → mG → mR} {g : mG} {x1 x2 x3 : Int32} {u4 u5 : Option mV} : mEv X call 1 t_X6_key (mDrop t_X6_key 61) [some (mr 7 20), some (mi x1), some (mi x2), some (mi x3), u4, u5] [] g = mEv X call 1 t_X6_key (mDrop t_X6_key 62) [some (mr 7 20), some (mi x1), some (mi x2), some (mi x3), u4, u5] [mi 0] g := (mEv_1 _ _ _ _).trans rfl
theorem e_X6_key_62 {X : mX} {call : Nat → List mV → mG → mR} {g : mG} {x1 x2 x3 s0 : Int32} {u4 u5 : Option mV} : mEv X call 1 t_X6_key (mDrop t_X6_key 62) [some (mr 7 20), some (mi x1), some (mi x2), some (mi x3), u4, u5] [mi s0] g = mEv X call 1 t_X6_key (mDrop t_X6_key 67) [some (mr 7 20), some (mi x1), some (mi x2), some (mi x3), some (mi s0), some (mi 0)] [] g := (mEv_3 _ _ _ _).trans rfl
theorem e_X6_key_67 {X : mX} {call : Nat → List mV → mG → mR} {g : mG} {x1 x2 x3 x4 x5 : Int32} : mEv X call 1 t_X6_key (mDrop t_X6_key 67) [some (mr 7 20), some (mi x1), some (mi x2), some (mi x3), some (mi x4), some (mi x5)] [] g = if (x3 - x2) ≤ x5 then mEv X call 1 t_X6_key (mDrop t_X6_key 116) [some (mr 7 20), some (mi x1), some (mi x2), some (mi x3), some (mi x4), some (mi x5)] [] g else mEv X call 1 t_X6_key (mDrop t_X6_key 75) [some (mr 7 20), some (mi x1), some (mi x2), some (mi x3), some (mi x4), some (mi x5)] [] g := (mEv_5 _ _ _ _).trans rfl
theorem e_X6_key_75 {X : mX} {call : Nat → List mV → mG → mR} {g : mG} {x1 x2 x3 x4 x5 : Int32} : mEv X call 1 t_X6_key (mDrop t_X6_key 75) [some (mr 7 20), some (mi x1), some (mi x2), some (mi x3), some (mi x4), some (mi x5)] [] g = if x4 = 0 then mEv X call 1 t_X6_key (mDrop t_X6_key 116) [some (mr 7 20), some (mi x1), some (mi x2), some (mi x3), some (mi x4), some (mi x5)] [] g else mEv X call 1 t_X6_key (mDrop t_X6_key 80) [some (mr 7 20), some (mi x1), some (mi x2), some (mi x3), some (mi x4), some (mi x5)] [] g := (mEv_2 _ _ _ _).trans rfl
theorem e_X6_key_80 {X : mX} {call : Nat → List mV → mG → mR} {g : mG} {x1 x2 x3 x4 x5 : Int32} : mEv X call 1 t_X6_key (mDrop t_X6_key 80) [some (mr 7 20), some (mi x1), some (mi x2), some (mi x3), some (mi x4), some (mi x5)] [] g = mAns (mEv X call 1 t_X6_key) (mDrop t_X6_key 89) [some (mr 7 20), some (mi x1), some (mi x2), some (mi x3), some (mi x4), some (mi x5)] [] (call 280 [mr 17 24, mi (x2 + x5)] g) := (mEv_5 _ _ _ _).trans rfl
theorem e_X6_key_89 {X : mX} {call : Nat → List mV → mG → mR} {g : mG} {x1 x2 x3 x4 x5 s0 : Int32} : mEv X call 1 t_X6_key (mDrop t_X6_key 89) [some (mr 7 20), some (mi x1), some (mi x2), some (mi x3), some (mi x4), some (mi x5)] [mi s0] g = mAns (mEv X call 1 t_X6_key) (mDrop t_X6_key 100) [some (mr 7 20), some (mi x1), some (mi x2), some (mi x3), some (mi x4), some (mi x5)] [mi s0] (call 213 [mr 7 20, mi ((g 7 20 11) + x5)] g) := (mEv_6 _ _ _ _).trans rfl
theorem e_X6_key_100 {X : mX} {call : Nat → List mV → mG → mR} {g : mG} {x1 x2 x3 x4 x5 s0 s1 : Int32} : mEv X call 1 t_X6_key (mDrop t_X6_key 100) [some (mr 7 20), some (mi x1), some (mi x2), some (mi x3), some (mi x4), some (mi x5)] [mi s1, mi s0] g = if s0 = s1 then mEv X call 1 t_X6_key (mDrop t_X6_key 103) [some (mr 7 20), some (mi x1), some (mi x2), some (mi x3), some (mi x4), some (mi x5)] [] g else mEv X call 1 t_X6_key (mDrop t_X6_key 107) [some (mr 7 20), some (mi x1), some (mi x2), some (mi x3), some (mi x4), some (mi x5)] [] g := (mEv_1 _ _ _ _).trans rfl
theorem e_X6_key_103 {X : mX} {call : Nat → List mV → mG → mR} {g : mG} {x1 x2 x3 x4 x5 : Int32} : mEv X call 1 t_X6_key (mDrop t_X6_key 103) [some (mr 7 20), some (mi x1), some (mi x2), some (mi x3), some (mi x4), some (mi x5)] [] g = mEv X call 1 t_X6_key (mDrop t_X6_key 108) [some (mr 7 20), some (mi x1), some (mi x2), some (mi x3), some (mi x4), some (mi x5)] [mi 1] g := (mEv_2 _ _ _ _).trans rfl
theorem e_X6_key_107 {X : mX} {call : Nat → List mV → mG → mR} {g : mG} {x1 x2 x3 x4 x5 : Int32} : mEv X call 1 t_X6_key (mDrop t_X6_key 107) [some (mr 7 20), some (mi x1), some (mi x2), some (mi x3), some (mi x4), some (mi x5)] [] g = mEv X call 1 t_X6_key (mDrop t_X6_key 108) [some (mr 7 20), some (mi x1), some (mi x2), some (mi x3), some (mi x4), some (mi x5)] [mi 0] g := (mEv_1 _ _ _ _).trans rfl
theorem e_X6_key_108 {X : mX} {call : Nat → List mV → mG → mR} {g : mG} {x1 x2 x3 x4 x5 s0 : Int32} : mEv X call 1 t_X6_key (mDrop t_X6_key 108) [some (mr 7 20), some (mi x1), some (mi x2), some (mi x3), some (mi x4), some (mi x5)] [mi s0] g = mEv X call 1 t_X6_key (mDrop t_X6_key 67) [some (mr 7 20), some (mi x1), some (mi x2), some (mi x3), some (mi s0), some (mi (x5 + 1))] [] g := (mEv_3 _ _ _ _).trans rfl
theorem e_X6_key_116 {X : mX} {call : Nat → List mV → mG → mR} {g : mG} {x1 x2 x3 x4 x5 : Int32} : mEv X call 1 t_X6_key (mDrop t_X6_key 116) [some (mr 7 20), some (mi x1), some (mi x2), some (mi x3), some (mi x4), some (mi x5)] [] g = if x4 = 0 then mEv X call 1 t_X6_key (mDrop t_X6_key 123) [some (mr 7 20), some (mi x1), some (mi x2), some (mi x3), some (mi x4), some (mi x5)] [] g else mEv X call 1 t_X6_key (mDrop t_X6_key 121) [some (mr 7 20), some (mi x1), some (mi x2), some (mi x3), some (mi x4), some (mi x5)] [] g := (mEv_2 _ _ _ _).trans rfl
theorem e_X6_key_121 {X : mX} {call : Nat → List mV → mG → mR} {g : mG} {x1 x2 x3 x4 x5 : Int32} : mEv X call 1 t_X6_key (mDrop t_X6_key 121) [some (mr 7 20), some (mi x1), some (mi x2), some (mi x3), some (mi x4), some (mi x5)] [] g = some (some (mi x1), g) := (mEv_2 _ _ _ _).trans rfl
theorem e_X6_key_123 {X : mX} {call : Nat → List mV → mG → mR} {g : mG} {x1 x2 x3 x4 x5 : Int32} : mEv X call 1 t_X6_key (mDrop t_X6_key 123) [some (mr 7 20), some (mi x1), some (mi x2), some (mi x3), some (mi x4), some (mi x5)] [] g = mEv X call 1 t_X6_key (mDrop t_X6_key 14) [some (mr 7 20), some (mi (x1 + 1)), some (mi (x3 + 1)), some (mi x3), some (mi x4), some (mi x5)] [] g := (mEv_6 _ _ _ _).trans rfl
theorem e_X6_key_133 {X : mX} {call : Nat → List mV → mG → mR} {g : mG} {x1 x2 : Int32} {u3 u4 u5 : Option mV} : mEv X call 1 t_X6_key (mDrop t_X6_key 133) [some (mr 7 20), some (mi x1), some (mi x2), u3, u4, u5] [] g = some (some (mi (-1)), g) := (mEv_2 _ _ _ _).trans rfl
def B_key_25 : Int32 → Int32 ⊕ Option Int32 := fun x3 => mBo (α := Int32) (.inr none) (P_J0_charAt_5068e 17 x3) (fun v => if v = 32 then .inr (some x3) else .inl (x3 + 1))
theorem tm_key_25 : mTm B_key_25 := by
  refine ⟨mMx, fun x3 s2 h => ?_⟩
  unfold B_key_25 at h
  cases hb : P_J0_charAt_5068e 17 x3 with
  | none => rw [hb] at h; cases h
  | some v =>
    rw [hb] at h
    simp only [mBo] at h
    split at h
    next => cases h
    next => have h2 := Sum.inl.inj h; subst h2; exact mtm_max (ch_lt hb)
theorem key_25_up {x2 x3 : Int32} (h : mWh none B_key_25 x2 = some x3) : mMx (x3 + 1) < mMx x2 := by
  have h0 := mWh_ind (dv := none) (B := B_key_25) (Inv := fun s => mMx s ≤ mMx x2) (Post := fun r => ∀ x3, r = some x3 → mMx (x3 + 1) < mMx x2) tm_key_25 ?_ ?_ (s := x2) (Nat.le_refl _)
  · exact h0 x3 h
  · intro s s' hi hs
    unfold B_key_25 at hs
    cases hb : P_J0_charAt_5068e 17 s with
    | none => rw [hb] at hs; cases hs
    | some v =>
      rw [hb] at hs
      simp only [mBo] at hs
      split at hs
      next => cases hs
      next => have h2 := Sum.inl.inj hs; subst h2; exact Nat.le_trans (Nat.le_of_lt (mtm_max (ch_lt hb))) hi
  · intro s r hi hs x3 hr
    subst hr
    unfold B_key_25 at hs
    cases hb : P_J0_charAt_5068e 17 s with
    | none => rw [hb] at hs; cases hs
    | some v =>
      rw [hb] at hs
      simp only [mBo] at hs
      split at hs
      next => have h2 := Option.some.inj (Sum.inr.inj hs); subst h2; exact Nat.lt_of_lt_of_le (mtm_max (ch_lt hb)) hi
      next => cases hs
theorem rl_key_25 (d : Nat) {X : mX} {g : mG} {c : mC} {x1 x2 x3 : Int32} : mEv X (mCall mD X (d + 4)) 1 t_X6_key (mDrop t_X6_key 25) [some (mr 7 20), some (mi x1), some (mi x2), some (mi x3), none, none] [] (mU g 7 c) = wO (fun v : Int32 => mEv X (mCall mD X (d + 4)) 1 t_X6_key (mDrop t_X6_key 42) [some (mr 7 20), some (mi x1), some (mi x2), some (mi v), none, none] [] (mU g 7 c)) (mWh none B_key_25 x3) := by
  refine mWh_ev (B := B_key_25) (ev := fun x3 => mEv X (mCall mD X (d + 4)) 1 t_X6_key (mDrop t_X6_key 25) [some (mr 7 20), some (mi x1), some (mi x2), some (mi x3), none, none] [] (mU g 7 c)) (w := wO (fun v : Int32 => mEv X (mCall mD X (d + 4)) 1 t_X6_key (mDrop t_X6_key 42) [some (mr 7 20), some (mi x1), some (mi x2), some (mi v), none, none] [] (mU g 7 c))) tm_key_25 ?_ x3
  intro x3
  refine Eq.trans e_X6_key_25 ?_
  refine mw_oN ?_ (rr_J0_charAt_5068e d) (fun v => ?_)
  · rfl
  refine Eq.trans e_X6_key_31 ?_
  refine mw_ite (fun _ => ?_) (fun _ => ?_)
  · exact mw_inr rfl
  · exact mw_inl e_X6_key_36
noncomputable def B_key_67 (c : mC) (x2 x3 : Int32) : (Int32 × Int32) → (Int32 × Int32) ⊕ Option (Int32 × Int32) := fun s => match s with | (x4, x5) => if (x3 - x2) ≤ x5 then .inr (some (x4, x5)) else if x4 = 0 then .inr (some (x4, x5)) else mBo (α := Int32) (.inr none) (P_J0_charAt_5068e 17 (x2 + x5)) (fun v => mBo (α := Int32) (.inr none) (P_X6_byteAt c (c 20 11 + x5)) (fun v2 => if v = v2 then .inl (1, x5 + 1) else .inl (0, x5 + 1)))
theorem tm_key_67 {c : mC} {x2 x3 : Int32} : mTm (B_key_67 c x2 x3) := by
  refine ⟨fun s => match s with | (x4, x5) => mMx x5, fun s s2 h => ?_⟩
  obtain ⟨x4, x5⟩ := s
  simp only [B_key_67, mBo] at h
  (repeat' split at h) <;> first | (have h2 := Sum.inl.inj h; subst h2; dsimp only; exact mtm_max (by assumption)) | (cases h; done)
theorem rl_key_67 (d : Nat) {X : mX} {g : mG} {c : mC} {x1 x2 x3 x4 x5 : Int32} : mEv X (mCall mD X (d + 4)) 1 t_X6_key (mDrop t_X6_key 67) [some (mr 7 20), some (mi x1), some (mi x2), some (mi x3), some (mi x4), some (mi x5)] [] (mU g 7 c) = wO (fun p : Int32 × Int32 => mEv X (mCall mD X (d + 4)) 1 t_X6_key (mDrop t_X6_key 116) [some (mr 7 20), some (mi x1), some (mi x2), some (mi x3), some (mi p.1), some (mi p.2)] [] (mU g 7 c)) (mWh none (B_key_67 c x2 x3) (x4, x5)) := by
  refine mWh_ev (B := B_key_67 c x2 x3) (ev := fun s : Int32 × Int32 => match s with | (x4, x5) => mEv X (mCall mD X (d + 4)) 1 t_X6_key (mDrop t_X6_key 67) [some (mr 7 20), some (mi x1), some (mi x2), some (mi x3), some (mi x4), some (mi x5)] [] (mU g 7 c)) (w := wO (fun p : Int32 × Int32 => mEv X (mCall mD X (d + 4)) 1 t_X6_key (mDrop t_X6_key 116) [some (mr 7 20), some (mi x1), some (mi x2), some (mi x3), some (mi p.1), some (mi p.2)] [] (mU g 7 c))) tm_key_67 ?_ (x4, x5)
  rintro ⟨x4, x5⟩
  show mEv X (mCall mD X (d + 4)) 1 t_X6_key (mDrop t_X6_key 67) [some (mr 7 20), some (mi x1), some (mi x2), some (mi x3), some (mi x4), some (mi x5)] [] (mU g 7 c) = wB (fun s : Int32 × Int32 => match s with | (x4, x5) => mEv X (mCall mD X (d + 4)) 1 t_X6_key (mDrop t_X6_key 67) [some (mr 7 20), some (mi x1), some (mi x2), some (mi x3), some (mi x4), some (mi x5)] [] (mU g 7 c)) (wO (fun p : Int32 × Int32 => mEv X (mCall mD X (d + 4)) 1 t_X6_key (mDrop t_X6_key 116) [some (mr 7 20), some (mi x1), some (mi x2), some (mi x3), some (mi p.1), some (mi p.2)] [] (mU g 7 c))) (B_key_67 c x2 x3 (x4, x5))
  refine Eq.trans e_X6_key_67 ?_
  refine mw_ite (fun _ => ?_) (fun h => ?_)
  · exact mw_inr rfl
  refine Eq.trans e_X6_key_75 ?_
  refine mw_ite (fun _ => ?_) (fun h => ?_)
  · exact mw_inr rfl
  refine Eq.trans e_X6_key_80 ?_
  refine mw_oN ?_ (rr_J0_charAt_5068e d) (fun v => ?_)
  · rfl
  refine Eq.trans e_X6_key_89 ?_
  simp only [mU_same]
  refine mw_oI ?_ (rr_X6_byteAt (d + 3)) (fun v2 => ?_)
  · rfl
  refine Eq.trans e_X6_key_100 ?_
  refine mw_ite (fun _ => ?_) (fun _ => ?_)
  · refine Eq.trans e_X6_key_103 (Eq.trans e_X6_key_108 ?_)
    exact mw_inl rfl
  · refine Eq.trans e_X6_key_107 (Eq.trans e_X6_key_108 ?_)
    exact mw_inl rfl
noncomputable def B_key_14 (c : mC) : (Int32 × Int32) → (Int32 × Int32) ⊕ Option Int32 := fun s => match s with | (x1, x2) => mBd (α := Int32) (P_J0_length_8abf5 17) (fun n => if n ≤ x2 then .inr (some (-1)) else mBo (α := Int32) (.inr none) (mWh none B_key_25 x2) (fun x3 => mBo (α := Int32 × Int32) (.inr none) (mWh none (B_key_67 c x2 x3) ((if x3 - x2 = c 20 12 - c 20 11 then 1 else 0), 0)) (fun p => if p.1 = 0 then .inl (x1 + 1, x3 + 1) else .inr (some x1))))
theorem tm_key_14 {c : mC} : mTm (B_key_14 c) := by
  refine ⟨fun s => match s with | (x1, x2) => mMx x2, fun s s2 h => ?_⟩
  obtain ⟨x1, x2⟩ := s
  unfold B_key_14 mBd at h
  dsimp only at h
  split at h
  next => cases h
  next =>
    cases hb : mWh none B_key_25 x2 with
    | none => rw [hb] at h; cases h
    | some x3 =>
      rw [hb] at h
      simp only [mBo] at h
      split at h
      next => cases h
      next =>
        split at h
        next => have h2 := Sum.inl.inj h; subst h2; dsimp only; exact key_25_up hb
        next => cases h
theorem hk_key_14 {X : mX} {call : Nat → List mV → mG → mR} {g : mG} {x1 x2 : Int32} {u3 u4 u5 : Option mV} : mEv X call 1 t_X6_key (mDrop t_X6_key 14) [some (mr 7 20), some (mi x1), some (mi x2), u3, u4, u5] [] g = mEv X call 1 t_X6_key (mDrop t_X6_key 14) [some (mr 7 20), some (mi x1), some (mi x2), none, none, none] [] g := Eq.trans e_X6_key_14 (Eq.symm e_X6_key_14)
theorem rl_key_14 (d : Nat) {X : mX} {g : mG} {c : mC} {x1 x2 : Int32} : mEv X (mCall mD X (d + 4)) 1 t_X6_key (mDrop t_X6_key 14) [some (mr 7 20), some (mi x1), some (mi x2), none, none, none] [] (mU g 7 c) = wO (wI g 7 c) (mWh none (B_key_14 c) (x1, x2)) := by
  refine mWh_ev (B := B_key_14 c) (ev := fun s : Int32 × Int32 => match s with | (x1, x2) => mEv X (mCall mD X (d + 4)) 1 t_X6_key (mDrop t_X6_key 14) [some (mr 7 20), some (mi x1), some (mi x2), none, none, none] [] (mU g 7 c)) (w := wO (wI g 7 c)) tm_key_14 ?_ (x1, x2)
  rintro ⟨x1, x2⟩
  show mEv X (mCall mD X (d + 4)) 1 t_X6_key (mDrop t_X6_key 14) [some (mr 7 20), some (mi x1), some (mi x2), none, none, none] [] (mU g 7 c) = wB (fun s : Int32 × Int32 => match s with | (x1, x2) => mEv X (mCall mD X (d + 4)) 1 t_X6_key (mDrop t_X6_key 14) [some (mr 7 20), some (mi x1), some (mi x2), none, none, none] [] (mU g 7 c)) (wO (wI g 7 c)) (mBd (α := Int32) (P_J0_length_8abf5 17) (fun n => if n ≤ x2 then .inr (some (-1)) else mBo (α := Int32) (.inr none) (mWh none B_key_25 x2) (fun x3 => mBo (α := Int32 × Int32) (.inr none) (mWh none (B_key_67 c x2 x3) ((if x3 - x2 = c 20 12 - c 20 11 then 1 else 0), 0)) (fun p => if p.1 = 0 then .inl (x1 + 1, x3 + 1) else .inr (some x1)))))
  refine Eq.trans e_X6_key_14 ?_
  refine mw_cI (rr_J0_length_8abf5 (d + 2)) (fun n => ?_)
  refine Eq.trans e_X6_key_20 ?_
  refine mw_ite (fun _ => ?_) (fun _ => ?_)
  · exact Eq.trans e_X6_key_133 (mw_inr rfl)
  refine Eq.trans e_X6_key_23 (Eq.trans (rl_key_25 d) ?_)
  cases mWh none B_key_25 x2 with
  | none => rfl
  | some x3 =>
    show mEv X (mCall mD X (d + 4)) 1 t_X6_key (mDrop t_X6_key 42) [some (mr 7 20), some (mi x1), some (mi x2), some (mi x3), none, none] [] (mU g 7 c) = wB (fun s : Int32 × Int32 => match s with | (x1, x2) => mEv X (mCall mD X (d + 4)) 1 t_X6_key (mDrop t_X6_key 14) [some (mr 7 20), some (mi x1), some (mi x2), none, none, none] [] (mU g 7 c)) (wO (wI g 7 c)) (mBo (α := Int32 × Int32) (.inr none) (mWh none (B_key_67 c x2 x3) ((if x3 - x2 = c 20 12 - c 20 11 then 1 else 0), 0)) (fun p => if p.1 = 0 then .inl (x1 + 1, x3 + 1) else .inr (some x1)))
    have fin : ∀ b : Int32, mEv X (mCall mD X (d + 4)) 1 t_X6_key (mDrop t_X6_key 67) [some (mr 7 20), some (mi x1), some (mi x2), some (mi x3), some (mi b), some (mi 0)] [] (mU g 7 c) = wB (fun s : Int32 × Int32 => match s with | (x1, x2) => mEv X (mCall mD X (d + 4)) 1 t_X6_key (mDrop t_X6_key 14) [some (mr 7 20), some (mi x1), some (mi x2), none, none, none] [] (mU g 7 c)) (wO (wI g 7 c)) (mBo (α := Int32 × Int32) (.inr none) (mWh none (B_key_67 c x2 x3) (b, 0)) (fun p => if p.1 = 0 then .inl (x1 + 1, x3 + 1) else .inr (some x1))) := by
      intro b
      refine Eq.trans (rl_key_67 d) ?_
      cases mWh none (B_key_67 c x2 x3) (b, 0) with
      | none => rfl
      | some p =>
        refine Eq.trans e_X6_key_116 ?_
        refine mw_ite (fun _ => ?_) (fun _ => ?_)
        · exact Eq.trans e_X6_key_123 (mw_inl hk_key_14)
        · exact Eq.trans e_X6_key_121 (mw_inr rfl)
    refine Eq.trans e_X6_key_42 ?_
    simp only [mU_same]
    by_cases h : x3 - x2 = c 20 12 - c 20 11
    · rw [if_pos h, if_pos h]
      exact Eq.trans e_X6_key_57 (Eq.trans e_X6_key_62 (fin 1))
    · rw [if_neg h, if_neg h]
      exact Eq.trans e_X6_key_61 (Eq.trans e_X6_key_62 (fin 0))
noncomputable def P_X6_key (c : mC) : Option Int32 := if c 20 10 = 2 then mWh none (B_key_14 c) (0, 1) else some (-1)
theorem rr_X6_key (d : Nat) {X : mX} {g : mG} {c : mC} : mCall mD X (d + 5) 217 [mr 7 20] (mU g 7 c) = (wO (wI g 7 c)) (P_X6_key c) := by
  refine Eq.trans (mCall_eq (d := d + 4) rfl) ?_
  show mEv X (mCall mD X (d + 4)) 1 t_X6_key (mDrop t_X6_key 0) [some (mr 7 20), none, none, none, none, none] [] (mU g 7 c) = _
  refine Eq.trans e_X6_key_0 ?_
  simp only [mU_same]
  refine mw_ite (fun _ => ?_) (fun _ => ?_)
  · exact Eq.trans e_X6_key_10 (rl_key_14 d)
  · exact e_X6_key_8
theorem rr_X6_key_at (d : Nat) {X : mX} {g : mG} : mCall mD X (d + 5) 217 [mr 7 20] g = wO (wN g) (P_X6_key (g 7)) := by
  have h := rr_X6_key (X := X) d (g := g) (c := g 7)
  rw [mU_self] at h
  exact h.trans (wOI_self _ _ _)
theorem e_X6_fails_0 {X : mX} {call : Nat → List mV → mG → mR} {g : mG} {x1 : Int32} : mEv X call 2 t_X6_fails (mDrop t_X6_fails 0) [some (mr 7 20), some (mi x1)] [] g = if (g 7 20 14) = 0 then mEv X call 2 t_X6_fails (mDrop t_X6_fails 7) [some (mr 7 20), some (mi x1)] [] g else mEv X call 2 t_X6_fails (mDrop t_X6_fails 40) [some (mr 7 20), some (mi x1)] [] g := (mEv_3 _ _ _ _).trans rfl
theorem e_X6_fails_7 {X : mX} {call : Nat → List mV → mG → mR} {g : mG} {x1 : Int32} : mEv X call 2 t_X6_fails (mDrop t_X6_fails 7) [some (mr 7 20), some (mi x1)] [] g = if (g 7 20 10) = 1 then mEv X call 2 t_X6_fails (mDrop t_X6_fails 16) [some (mr 7 20), some (mi x1)] [mr 7 20] g else mEv X call 2 t_X6_fails (mDrop t_X6_fails 20) [some (mr 7 20), some (mi x1)] [mr 7 20] g := (mEv_5 _ _ _ _).trans rfl
theorem e_X6_fails_16 {X : mX} {call : Nat → List mV → mG → mR} {g : mG} {x1 : Int32} : mEv X call 2 t_X6_fails (mDrop t_X6_fails 16) [some (mr 7 20), some (mi x1)] [mr 7 20] g = mEv X call 2 t_X6_fails (mDrop t_X6_fails 21) [some (mr 7 20), some (mi x1)] [mi 1, mr 7 20] g := (mEv_2 _ _ _ _).trans rfl
theorem e_X6_fails_21 {X : mX} {call : Nat → List mV → mG → mR} {g : mG} {x1 s1 : Int32} : mEv X call 2 t_X6_fails (mDrop t_X6_fails 21) [some (mr 7 20), some (mi x1)] [mi s1, mr 7 20] g = mEv X call 2 t_X6_fails (mDrop t_X6_fails 24) [some (mr 7 20), some (mi x1)] [] (mU g 7 (mP (g 7) 20 14 s1)) := (mEv_1 _ _ _ _).trans rfl
theorem e_X6_fails_24 {X : mX} {call : Nat → List mV → mG → mR} {g : mG} {x1 : Int32} : mEv X call 2 t_X6_fails (mDrop t_X6_fails 24) [some (mr 7 20), some (mi x1)] [] g = mEv X call 2 t_X6_fails (mDrop t_X6_fails 32) [some (mr 7 20), some (mi x1)] [] (mU g 7 (mP (g 7) 20 15 (g 7 20 11))) := (mEv_4 _ _ _ _).trans rfl
theorem e_X6_fails_32 {X : mX} {call : Nat → List mV → mG → mR} {g : mG} {x1 : Int32} : mEv X call 2 t_X6_fails (mDrop t_X6_fails 32) [some (mr 7 20), some (mi x1)] [] g = mEv X call 2 t_X6_fails (mDrop t_X6_fails 40) [some (mr 7 20), some (mi x1)] [] (mU g 7 (mP (g 7) 20 16 (g 7 20 18))) := (mEv_4 _ _ _ _).trans rfl
theorem e_X6_fails_40 {X : mX} {call : Nat → List mV → mG → mR} {g : mG} {x1 : Int32} : mEv X call 2 t_X6_fails (mDrop t_X6_fails 40) [some (mr 7 20), some (mi x1)] [] g = if (0 : Int32) &&& 1 = 0 then some (some (mi 0), g) else none := (mEv_2 _ _ _ _).trans rfl
noncomputable def J_X6_fails_40 (c : mC) : (Option (Int32 × mC)) := (some (0, c))
theorem rj_X6_fails_40 (d : Nat) {X : mX} {g : mG} {x1 : Int32} {c : mC} : mEv X (mCall mD X (d + 0)) 2 t_X6_fails (mDrop t_X6_fails 40) [some (mr 7 20), some (mi x1)] [] (mU g 7 c) = (wO (wW g 7)) (J_X6_fails_40 c) := by
  refine Eq.trans (e_X6_fails_40) ?_
  try simp only [mU_same, mU_mU]
  exact if_pos (by decide)
noncomputable def J_X6_fails_21 (c : mC) (s1 : Int32) : (Option (Int32 × mC)) := (J_X6_fails_40 (mP (mP (mP c 20 14 s1) 20 15 ((mP c 20 14 s1) 20 11)) 20 16 ((mP (mP c 20 14 s1) 20 15 ((mP c 20 14 s1) 20 11)) 20 18)))
theorem rj_X6_fails_21 (d : Nat) {X : mX} {g : mG} {x1 s1 : Int32} {c : mC} : mEv X (mCall mD X (d + 0)) 2 t_X6_fails (mDrop t_X6_fails 21) [some (mr 7 20), some (mi x1)] [mi s1, mr 7 20] (mU g 7 c) = (wO (wW g 7)) (J_X6_fails_21 c s1) := by
  refine Eq.trans (e_X6_fails_21) ?_
  try simp only [mU_same, mU_mU]
  refine Eq.trans (e_X6_fails_24) ?_
  try simp only [mU_same, mU_mU]
  refine Eq.trans (e_X6_fails_32) ?_
  try simp only [mU_same, mU_mU]
  exact rj_X6_fails_40 d
theorem e_X6_fails_20 {X : mX} {call : Nat → List mV → mG → mR} {g : mG} {x1 : Int32} : mEv X call 2 t_X6_fails (mDrop t_X6_fails 20) [some (mr 7 20), some (mi x1)] [mr 7 20] g = mEv X call 2 t_X6_fails (mDrop t_X6_fails 21) [some (mr 7 20), some (mi x1)] [mi x1, mr 7 20] g := (mEv_1 _ _ _ _).trans rfl
noncomputable def P_X6_fails (c : mC) (x1 : Int32) : (Option (Int32 × mC)) := (if (c 20 14) = 0 then (if (c 20 10) = 1 then (J_X6_fails_21 c 1) else (J_X6_fails_21 c x1)) else (J_X6_fails_40 c))
theorem rr_X6_fails (d : Nat) {X : mX} {g : mG} {x1 : Int32} {c : mC} : mCall mD X (d + 1) 218 [mr 7 20, mi x1] (mU g 7 c) = (wO (wW g 7)) (P_X6_fails c x1) := by
  refine Eq.trans (mCall_eq (d := d + 0) rfl) ?_
  show mEv X (mCall mD X (d + 0)) 2 t_X6_fails (mDrop t_X6_fails 0) [some (mr 7 20), some (mi x1)] [] (mU g 7 c) = _
  refine Eq.trans (e_X6_fails_0) ?_
  try simp only [mU_same, mU_mU]
  refine mw_ite (fun h2 => ?_) (fun h2 => ?_)
  · refine Eq.trans (e_X6_fails_7) ?_
    try simp only [mU_same, mU_mU]
    refine mw_ite (fun h1 => ?_) (fun h1 => ?_)
    · refine Eq.trans (e_X6_fails_16) ?_
      try simp only [mU_same, mU_mU]
      exact rj_X6_fails_21 d
    · refine Eq.trans (e_X6_fails_20) ?_
      try simp only [mU_same, mU_mU]
      exact rj_X6_fails_21 d
  · exact rj_X6_fails_40 d
theorem rr_X6_fails_at (d : Nat) {X : mX} {g : mG} {x1 : Int32} : mCall mD X (d + 1) 218 [mr 7 20, mi x1] g = wO (wW g 7) (P_X6_fails (g 7) x1) := by
  have h := rr_X6_fails (X := X) d (g := g) (c := g 7) (x1 := x1)
  rw [mU_self] at h
  exact h
theorem e_X6_takes_0 {X : mX} {call : Nat → List mV → mG → mR} {g : mG} : mEv X call 2 t_X6_takes (mDrop t_X6_takes 0) [some (mr 7 20)] [] g = mAns (mEv X call 2 t_X6_takes) (mDrop t_X6_takes 4) [some (mr 7 20)] [] (call 216 [mr 7 20] g) := (mEv_2 _ _ _ _).trans rfl
theorem e_X6_takes_4 {X : mX} {call : Nat → List mV → mG → mR} {g : mG} : mEv X call 2 t_X6_takes (mDrop t_X6_takes 4) [some (mr 7 20)] [] g = if (1 : Int32) &&& 1 = 1 then some (some (mi 1), g) else none := (mEv_2 _ _ _ _).trans rfl
noncomputable def P_X6_takes (c : mC) : (Option (Int32 × mC)) := (mBo (α := mC) none (P_X6_ahead c) (fun c1 => (some (1, c1))))
theorem rr_X6_takes (d : Nat) {X : mX} {g : mG} {c : mC} : mCall mD X (d + 3) 219 [mr 7 20] (mU g 7 c) = (wO (wW g 7)) (P_X6_takes c) := by
  refine Eq.trans (mCall_eq (d := d + 2) rfl) ?_
  show mEv X (mCall mD X (d + 2)) 2 t_X6_takes (mDrop t_X6_takes 0) [some (mr 7 20)] [] (mU g 7 c) = _
  refine Eq.trans (e_X6_takes_0) ?_
  try simp only [mU_same, mU_mU]
  refine mw_oV ?_ (rr_X6_ahead d) (fun c1 => ?_)
  · rfl
  refine Eq.trans (e_X6_takes_4) ?_
  try simp only [mU_same, mU_mU]
  exact if_pos (by decide)
theorem rr_X6_takes_at (d : Nat) {X : mX} {g : mG} : mCall mD X (d + 3) 219 [mr 7 20] g = wO (wW g 7) (P_X6_takes (g 7)) := by
  have h := rr_X6_takes (X := X) d (g := g) (c := g 7)
  rw [mU_self] at h
  exact h
theorem e_X6_takesNumber_0 {X : mX} {call : Nat → List mV → mG → mR} {g : mG} {x1 x2 : Int32} : mEv X call 2 t_X6_takesNumber (mDrop t_X6_takesNumber 0) [some (mr 7 20), some (mi x1), some (mi x2)] [] g = if (g 7 20 10) = 3 then mEv X call 2 t_X6_takesNumber (mDrop t_X6_takesNumber 14) [some (mr 7 20), some (mi x1), some (mi x2)] [] g else mEv X call 2 t_X6_takesNumber (mDrop t_X6_takesNumber 8) [some (mr 7 20), some (mi x1), some (mi x2)] [] g := (mEv_4 _ _ _ _).trans rfl
theorem e_X6_takesNumber_14 {X : mX} {call : Nat → List mV → mG → mR} {g : mG} {x1 x2 : Int32} : mEv X call 2 t_X6_takesNumber (mDrop t_X6_takesNumber 14) [some (mr 7 20), some (mi x1), some (mi x2)] [] g = mAns (mEv X call 2 t_X6_takesNumber) (mDrop t_X6_takesNumber 23) [some (mr 7 20), some (mi x1), some (mi x2)] [] (call 155 [mi (g 7 20 13), mi x1, mi x2] g) := (mEv_5 _ _ _ _).trans rfl
theorem e_X6_takesNumber_23 {X : mX} {call : Nat → List mV → mG → mR} {g : mG} {x1 x2 s0 : Int32} : mEv X call 2 t_X6_takesNumber (mDrop t_X6_takesNumber 23) [some (mr 7 20), some (mi x1), some (mi x2)] [mi s0] g = if s0 = 0 then mEv X call 2 t_X6_takesNumber (mDrop t_X6_takesNumber 26) [some (mr 7 20), some (mi x1), some (mi x2)] [] g else mEv X call 2 t_X6_takesNumber (mDrop t_X6_takesNumber 32) [some (mr 7 20), some (mi x1), some (mi x2)] [] g := (mEv_1 _ _ _ _).trans rfl
theorem e_X6_takesNumber_26 {X : mX} {call : Nat → List mV → mG → mR} {g : mG} {x1 x2 : Int32} : mEv X call 2 t_X6_takesNumber (mDrop t_X6_takesNumber 26) [some (mr 7 20), some (mi x1), some (mi x2)] [] g = mAns (mEv X call 2 t_X6_takesNumber) (mDrop t_X6_takesNumber 31) [some (mr 7 20), some (mi x1), some (mi x2)] [] (call 218 [mr 7 20, mi 4] g) := (mEv_3 _ _ _ _).trans rfl
theorem e_X6_takesNumber_31 {X : mX} {call : Nat → List mV → mG → mR} {g : mG} {x1 x2 s0 : Int32} : mEv X call 2 t_X6_takesNumber (mDrop t_X6_takesNumber 31) [some (mr 7 20), some (mi x1), some (mi x2)] [mi s0] g = if (s0 : Int32) &&& 1 = s0 then some (some (mi s0), g) else none := (mEv_1 _ _ _ _).trans rfl
theorem e_X6_takesNumber_32 {X : mX} {call : Nat → List mV → mG → mR} {g : mG} {x1 x2 : Int32} : mEv X call 2 t_X6_takesNumber (mDrop t_X6_takesNumber 32) [some (mr 7 20), some (mi x1), some (mi x2)] [] g = mEv X call 2 t_X6_takesNumber (mDrop t_X6_takesNumber 40) [some (mr 7 20), some (mi x1), some (mi x2)] [] (mU g 7 (mP (g 7) 20 20 (g 7 20 13))) := (mEv_4 _ _ _ _).trans rfl
theorem e_X6_takesNumber_40 {X : mX} {call : Nat → List mV → mG → mR} {g : mG} {x1 x2 : Int32} : mEv X call 2 t_X6_takesNumber (mDrop t_X6_takesNumber 40) [some (mr 7 20), some (mi x1), some (mi x2)] [] g = mAns (mEv X call 2 t_X6_takesNumber) (mDrop t_X6_takesNumber 44) [some (mr 7 20), some (mi x1), some (mi x2)] [] (call 219 [mr 7 20] g) := (mEv_2 _ _ _ _).trans rfl
theorem e_X6_takesNumber_44 {X : mX} {call : Nat → List mV → mG → mR} {g : mG} {x1 x2 s0 : Int32} : mEv X call 2 t_X6_takesNumber (mDrop t_X6_takesNumber 44) [some (mr 7 20), some (mi x1), some (mi x2)] [mi s0] g = if (s0 : Int32) &&& 1 = s0 then some (some (mi s0), g) else none := (mEv_1 _ _ _ _).trans rfl
theorem e_X6_takesNumber_8 {X : mX} {call : Nat → List mV → mG → mR} {g : mG} {x1 x2 : Int32} : mEv X call 2 t_X6_takesNumber (mDrop t_X6_takesNumber 8) [some (mr 7 20), some (mi x1), some (mi x2)] [] g = mAns (mEv X call 2 t_X6_takesNumber) (mDrop t_X6_takesNumber 13) [some (mr 7 20), some (mi x1), some (mi x2)] [] (call 218 [mr 7 20, mi 2] g) := (mEv_3 _ _ _ _).trans rfl
theorem e_X6_takesNumber_13 {X : mX} {call : Nat → List mV → mG → mR} {g : mG} {x1 x2 s0 : Int32} : mEv X call 2 t_X6_takesNumber (mDrop t_X6_takesNumber 13) [some (mr 7 20), some (mi x1), some (mi x2)] [mi s0] g = if (s0 : Int32) &&& 1 = s0 then some (some (mi s0), g) else none := (mEv_1 _ _ _ _).trans rfl
noncomputable def P_X6_takesNumber (c : mC) (x1 : Int32) (x2 : Int32) : (Option (Int32 × mC)) := (if (c 20 10) = 3 then (mBd (α := Int32) (P_X6_isFrom (c 20 13) x1 x2) (fun v1 => (if v1 = 0 then (mBo (α := Int32 × mC) none (P_X6_fails c 4) (fun p2 => (some (p2.1, p2.2)))) else (mBo (α := Int32 × mC) none (P_X6_takes (mP c 20 20 (c 20 13))) (fun p3 => (some (p3.1, p3.2))))))) else (mBo (α := Int32 × mC) none (P_X6_fails c 2) (fun p5 => (some (p5.1, p5.2)))))
theorem rr_X6_takesNumber (d : Nat) {X : mX} {g : mG} {x1 x2 : Int32} {c : mC} : mCall mD X (d + 4) 220 [mr 7 20, mi x1, mi x2] (mU g 7 c) = (wO (wW g 7)) (P_X6_takesNumber c x1 x2) := by
  refine Eq.trans (mCall_eq (d := d + 3) rfl) ?_
  show mEv X (mCall mD X (d + 3)) 2 t_X6_takesNumber (mDrop t_X6_takesNumber 0) [some (mr 7 20), some (mi x1), some (mi x2)] [] (mU g 7 c) = _
  refine Eq.trans (e_X6_takesNumber_0) ?_
  try simp only [mU_same, mU_mU]
  refine mw_ite (fun h6 => ?_) (fun h6 => ?_)
  · refine Eq.trans (e_X6_takesNumber_14) ?_
    try simp only [mU_same, mU_mU]
    refine mw_cZ (rr_X6_isFrom (d + 2)) rfl (fun v1 hv1 => ?_)
    refine Eq.trans (e_X6_takesNumber_23) ?_
    try simp only [mU_same, mU_mU]
    refine mw_ite (fun h4 => ?_) (fun h4 => ?_)
    · refine Eq.trans (e_X6_takesNumber_26) ?_
      try simp only [mU_same, mU_mU]
      refine mw_oY ?_ (rr_X6_fails (d + 2)) rfl (fun p2 hp2 => ?_)
      · rfl
      refine Eq.trans (e_X6_takesNumber_31) ?_
      try simp only [mU_same, mU_mU]
      exact if_pos hp2
    · refine Eq.trans (e_X6_takesNumber_32) ?_
      try simp only [mU_same, mU_mU]
      refine Eq.trans (e_X6_takesNumber_40) ?_
      try simp only [mU_same, mU_mU]
      refine mw_oY ?_ (rr_X6_takes d) rfl (fun p3 hp3 => ?_)
      · rfl
      refine Eq.trans (e_X6_takesNumber_44) ?_
      try simp only [mU_same, mU_mU]
      exact if_pos hp3
  · refine Eq.trans (e_X6_takesNumber_8) ?_
    try simp only [mU_same, mU_mU]
    refine mw_oY ?_ (rr_X6_fails (d + 2)) rfl (fun p5 hp5 => ?_)
    · rfl
    refine Eq.trans (e_X6_takesNumber_13) ?_
    try simp only [mU_same, mU_mU]
    exact if_pos hp5
theorem rr_X6_takesNumber_at (d : Nat) {X : mX} {g : mG} {x1 x2 : Int32} : mCall mD X (d + 4) 220 [mr 7 20, mi x1, mi x2] g = wO (wW g 7) (P_X6_takesNumber (g 7) x1 x2) := by
  have h := rr_X6_takesNumber (X := X) d (g := g) (c := g 7) (x1 := x1) (x2 := x2)
  rw [mU_self] at h
  exact h
theorem e_X6_takesWord_0 {X : mX} {call : Nat → List mV → mG → mR} {g : mG} {x1 : Int32} : mEv X call 2 t_X6_takesWord (mDrop t_X6_takesWord 0) [some (mr 7 20), some (mi x1)] [] g = mAns (mEv X call 2 t_X6_takesWord) (mDrop t_X6_takesWord 4) [some (mr 7 20), some (mi x1)] [] (call 217 [mr 7 20] g) := (mEv_2 _ _ _ _).trans rfl
theorem e_X6_takesWord_4 {X : mX} {call : Nat → List mV → mG → mR} {g : mG} {x1 s0 : Int32} : mEv X call 2 t_X6_takesWord (mDrop t_X6_takesWord 4) [some (mr 7 20), some (mi x1)] [mi s0] g = if s0 = x1 then mEv X call 2 t_X6_takesWord (mDrop t_X6_takesWord 8) [some (mr 7 20), some (mi x1)] [] g else mEv X call 2 t_X6_takesWord (mDrop t_X6_takesWord 15) [some (mr 7 20), some (mi x1)] [] g := (mEv_2 _ _ _ _).trans rfl
theorem e_X6_takesWord_8 {X : mX} {call : Nat → List mV → mG → mR} {g : mG} {x1 : Int32} : mEv X call 2 t_X6_takesWord (mDrop t_X6_takesWord 8) [some (mr 7 20), some (mi x1)] [] g = mAns (mEv X call 2 t_X6_takesWord) (mDrop t_X6_takesWord 12) [some (mr 7 20), some (mi x1)] [] (call 219 [mr 7 20] g) := (mEv_2 _ _ _ _).trans rfl
theorem e_X6_takesWord_12 {X : mX} {call : Nat → List mV → mG → mR} {g : mG} {x1 s0 : Int32} : mEv X call 2 t_X6_takesWord (mDrop t_X6_takesWord 12) [some (mr 7 20), some (mi x1)] [mi s0] g = mEv X call 2 t_X6_takesWord (mDrop t_X6_takesWord 20) [some (mr 7 20), some (mi x1)] [mi s0] g := (mEv_1 _ _ _ _).trans rfl
theorem e_X6_takesWord_20 {X : mX} {call : Nat → List mV → mG → mR} {g : mG} {x1 s0 : Int32} : mEv X call 2 t_X6_takesWord (mDrop t_X6_takesWord 20) [some (mr 7 20), some (mi x1)] [mi s0] g = if (s0 : Int32) &&& 1 = s0 then some (some (mi s0), g) else none := (mEv_1 _ _ _ _).trans rfl
theorem e_X6_takesWord_15 {X : mX} {call : Nat → List mV → mG → mR} {g : mG} {x1 : Int32} : mEv X call 2 t_X6_takesWord (mDrop t_X6_takesWord 15) [some (mr 7 20), some (mi x1)] [] g = mAns (mEv X call 2 t_X6_takesWord) (mDrop t_X6_takesWord 20) [some (mr 7 20), some (mi x1)] [] (call 218 [mr 7 20, mi 2] g) := (mEv_3 _ _ _ _).trans rfl
noncomputable def P_X6_takesWord (c : mC) (x1 : Int32) : (Option (Int32 × mC)) := (mBo (α := Int32) none (P_X6_key c) (fun v1 => (if v1 = x1 then (mBo (α := Int32 × mC) none (P_X6_takes c) (fun p2 => (some (p2.1, p2.2)))) else (mBo (α := Int32 × mC) none (P_X6_fails c 2) (fun p3 => (some (p3.1, p3.2)))))))
theorem rr_X6_takesWord (d : Nat) {X : mX} {g : mG} {x1 : Int32} {c : mC} : mCall mD X (d + 6) 221 [mr 7 20, mi x1] (mU g 7 c) = (wO (wW g 7)) (P_X6_takesWord c x1) := by
  refine Eq.trans (mCall_eq (d := d + 5) rfl) ?_
  show mEv X (mCall mD X (d + 5)) 2 t_X6_takesWord (mDrop t_X6_takesWord 0) [some (mr 7 20), some (mi x1)] [] (mU g 7 c) = _
  refine Eq.trans (e_X6_takesWord_0) ?_
  try simp only [mU_same, mU_mU]
  refine mw_oI ?_ (rr_X6_key d) (fun v1 => ?_)
  · rfl
  refine Eq.trans (e_X6_takesWord_4) ?_
  try simp only [mU_same, mU_mU]
  refine mw_ite (fun h4 => ?_) (fun h4 => ?_)
  · refine Eq.trans (e_X6_takesWord_8) ?_
    try simp only [mU_same, mU_mU]
    refine mw_oY ?_ (rr_X6_takes (d + 2)) rfl (fun p2 hp2 => ?_)
    · rfl
    refine Eq.trans (e_X6_takesWord_12) ?_
    try simp only [mU_same, mU_mU]
    refine Eq.trans (e_X6_takesWord_20) ?_
    try simp only [mU_same, mU_mU]
    exact if_pos hp2
  · refine Eq.trans (e_X6_takesWord_15) ?_
    try simp only [mU_same, mU_mU]
    refine mw_oY ?_ (rr_X6_fails (d + 4)) rfl (fun p3 hp3 => ?_)
    · rfl
    refine Eq.trans (e_X6_takesWord_20) ?_
    try simp only [mU_same, mU_mU]
    exact if_pos hp3
theorem rr_X6_takesWord_at (d : Nat) {X : mX} {g : mG} {x1 : Int32} : mCall mD X (d + 6) 221 [mr 7 20, mi x1] g = wO (wW g 7) (P_X6_takesWord (g 7) x1) := by
  have h := rr_X6_takesWord (X := X) d (g := g) (c := g 7) (x1 := x1)
  rw [mU_self] at h
  exact h
theorem e_X6_leastOf_0 {X : mX} {call : Nat → List mV → mG → mR} {g : mG} {x0 : Int32} : mEv X call 1 t_X6_leastOf (mDrop t_X6_leastOf 0) [some (mi x0)] [] g = if 3 < x0 then mEv X call 1 t_X6_leastOf (mDrop t_X6_leastOf 9) [some (mi x0)] [] g else mEv X call 1 t_X6_leastOf (mDrop t_X6_leastOf 5) [some (mi x0)] [] g := (mEv_3 _ _ _ _).trans rfl
theorem e_X6_leastOf_9 {X : mX} {call : Nat → List mV → mG → mR} {g : mG} {x0 : Int32} : mEv X call 1 t_X6_leastOf (mDrop t_X6_leastOf 9) [some (mi x0)] [] g = mEv X call 1 t_X6_leastOf (mDrop t_X6_leastOf 10) [some (mi x0)] [mi 0] g := (mEv_1 _ _ _ _).trans rfl
theorem e_X6_leastOf_10 {X : mX} {call : Nat → List mV → mG → mR} {g : mG} {x0 s0 : Int32} : mEv X call 1 t_X6_leastOf (mDrop t_X6_leastOf 10) [some (mi x0)] [mi s0] g = some (some (mi s0), g) := (mEv_1 _ _ _ _).trans rfl
theorem e_X6_leastOf_5 {X : mX} {call : Nat → List mV → mG → mR} {g : mG} {x0 : Int32} : mEv X call 1 t_X6_leastOf (mDrop t_X6_leastOf 5) [some (mi x0)] [] g = mEv X call 1 t_X6_leastOf (mDrop t_X6_leastOf 10) [some (mi x0)] [mi 1] g := (mEv_2 _ _ _ _).trans rfl
noncomputable def P_X6_leastOf (x0 : Int32) : (Int32) := (if 3 < x0 then 0 else 1)
theorem rr_X6_leastOf (d : Nat) {X : mX} {g : mG} {x0 : Int32} : mCall mD X (d + 1) 222 [mi x0] g = (wN g) (P_X6_leastOf x0) := by
  refine Eq.trans (mCall_eq (d := d + 0) rfl) ?_
  show mEv X (mCall mD X (d + 0)) 1 t_X6_leastOf (mDrop t_X6_leastOf 0) [some (mi x0)] [] g = _
  refine Eq.trans (e_X6_leastOf_0) ?_
  refine mw_ite (fun h1 => ?_) (fun h1 => ?_)
  · refine Eq.trans (e_X6_leastOf_9) ?_
    refine Eq.trans (e_X6_leastOf_10) ?_
    all_goals rfl
  · refine Eq.trans (e_X6_leastOf_5) ?_
    refine Eq.trans (e_X6_leastOf_10) ?_
    all_goals rfl
theorem e_X6_mostOf_0 {X : mX} {call : Nat → List mV → mG → mR} {g : mG} {x0 : Int32} : mEv X call 1 t_X6_mostOf (mDrop t_X6_mostOf 0) [some (mi x0)] [] g = if x0 = 0 then mEv X call 1 t_X6_mostOf (mDrop t_X6_mostOf 56) [some (mi x0)] [] g else (if x0 = 1 then mEv X call 1 t_X6_mostOf (mDrop t_X6_mostOf 59) [some (mi x0)] [] g else (if x0 = 2 then mEv X call 1 t_X6_mostOf (mDrop t_X6_mostOf 62) [some (mi x0)] [] g else (if x0 = 3 then mEv X call 1 t_X6_mostOf (mDrop t_X6_mostOf 65) [some (mi x0)] [] g else (if x0 = 4 then mEv X call 1 t_X6_mostOf (mDrop t_X6_mostOf 67) [some (mi x0)] [] g else (if x0 = 5 then mEv X call 1 t_X6_mostOf (mDrop t_X6_mostOf 71) [some (mi x0)] [] g else (if x0 = 6 then mEv X call 1 t_X6_mostOf (mDrop t_X6_mostOf 71) [some (mi x0)] [] g else (if x0 = 7 then mEv X call 1 t_X6_mostOf (mDrop t_X6_mostOf 69) [some (mi x0)] [] g else (if x0 = 8 then mEv X call 1 t_X6_mostOf (mDrop t_X6_mostOf 62) [some (mi x0)] [] g else (if x0 = 9 then mEv X call 1 t_X6_mostOf (mDrop t_X6_mostOf 56) [some (mi x0)] [] g else (mEv X call 1 t_X6_mostOf (mDrop t_X6_mostOf 71) [some (mi x0)] [] g)))))))))) := (mEv_2 _ _ _ _).trans rfl
theorem e_X6_mostOf_71 {X : mX} {call : Nat → List mV → mG → mR} {g : mG} {x0 : Int32} : mEv X call 1 t_X6_mostOf (mDrop t_X6_mostOf 71) [some (mi x0)] [] g = some (some (mi 20), g) := (mEv_2 _ _ _ _).trans rfl
theorem e_X6_mostOf_56 {X : mX} {call : Nat → List mV → mG → mR} {g : mG} {x0 : Int32} : mEv X call 1 t_X6_mostOf (mDrop t_X6_mostOf 56) [some (mi x0)] [] g = some (some (mi 30), g) := (mEv_2 _ _ _ _).trans rfl
theorem e_X6_mostOf_59 {X : mX} {call : Nat → List mV → mG → mR} {g : mG} {x0 : Int32} : mEv X call 1 t_X6_mostOf (mDrop t_X6_mostOf 59) [some (mi x0)] [] g = some (some (mi 9), g) := (mEv_2 _ _ _ _).trans rfl
theorem e_X6_mostOf_62 {X : mX} {call : Nat → List mV → mG → mR} {g : mG} {x0 : Int32} : mEv X call 1 t_X6_mostOf (mDrop t_X6_mostOf 62) [some (mi x0)] [] g = some (some (mi 60), g) := (mEv_2 _ _ _ _).trans rfl
theorem e_X6_mostOf_65 {X : mX} {call : Nat → List mV → mG → mR} {g : mG} {x0 : Int32} : mEv X call 1 t_X6_mostOf (mDrop t_X6_mostOf 65) [some (mi x0)] [] g = some (some (mi 5), g) := (mEv_2 _ _ _ _).trans rfl
theorem e_X6_mostOf_67 {X : mX} {call : Nat → List mV → mG → mR} {g : mG} {x0 : Int32} : mEv X call 1 t_X6_mostOf (mDrop t_X6_mostOf 67) [some (mi x0)] [] g = some (some (mi 4), g) := (mEv_2 _ _ _ _).trans rfl
theorem e_X6_mostOf_69 {X : mX} {call : Nat → List mV → mG → mR} {g : mG} {x0 : Int32} : mEv X call 1 t_X6_mostOf (mDrop t_X6_mostOf 69) [some (mi x0)] [] g = some (some (mi 3), g) := (mEv_2 _ _ _ _).trans rfl
noncomputable def P_X6_mostOf (x0 : Int32) : (Int32) := (if x0 = 0 then 30 else (if x0 = 1 then 9 else (if x0 = 2 then 60 else (if x0 = 3 then 5 else (if x0 = 4 then 4 else (if x0 = 5 then 20 else (if x0 = 6 then 20 else (if x0 = 7 then 3 else (if x0 = 8 then 60 else (if x0 = 9 then 30 else 20))))))))))
theorem rr_X6_mostOf (d : Nat) {X : mX} {g : mG} {x0 : Int32} : mCall mD X (d + 1) 223 [mi x0] g = (wN g) (P_X6_mostOf x0) := by
  refine Eq.trans (mCall_eq (d := d + 0) rfl) ?_
  show mEv X (mCall mD X (d + 0)) 1 t_X6_mostOf (mDrop t_X6_mostOf 0) [some (mi x0)] [] g = _
  refine Eq.trans (e_X6_mostOf_0) ?_
  refine mw_ite (fun _ => ?_) (fun _ => ?_)
  · refine Eq.trans (e_X6_mostOf_56) ?_
    all_goals rfl
  · refine mw_ite (fun _ => ?_) (fun _ => ?_)
    · refine Eq.trans (e_X6_mostOf_59) ?_
      all_goals rfl
    · refine mw_ite (fun _ => ?_) (fun _ => ?_)
      · refine Eq.trans (e_X6_mostOf_62) ?_
        all_goals rfl
      · refine mw_ite (fun _ => ?_) (fun _ => ?_)
        · refine Eq.trans (e_X6_mostOf_65) ?_
          all_goals rfl
        · refine mw_ite (fun _ => ?_) (fun _ => ?_)
          · refine Eq.trans (e_X6_mostOf_67) ?_
            all_goals rfl
          · refine mw_ite (fun _ => ?_) (fun _ => ?_)
            · refine Eq.trans (e_X6_mostOf_71) ?_
              all_goals rfl
            · refine mw_ite (fun _ => ?_) (fun _ => ?_)
              · refine Eq.trans (e_X6_mostOf_71) ?_
                all_goals rfl
              · refine mw_ite (fun _ => ?_) (fun _ => ?_)
                · refine Eq.trans (e_X6_mostOf_69) ?_
                  all_goals rfl
                · refine mw_ite (fun _ => ?_) (fun _ => ?_)
                  · refine Eq.trans (e_X6_mostOf_62) ?_
                    all_goals rfl
                  · refine mw_ite (fun _ => ?_) (fun _ => ?_)
                    · refine Eq.trans (e_X6_mostOf_56) ?_
                      all_goals rfl
                    · refine Eq.trans (e_X6_mostOf_71) ?_
                      all_goals rfl
theorem e_X6_aPhase_0 {X : mX} {call : Nat → List mV → mG → mR} {g : mG} : mEv X call 2 t_X6_aPhase (mDrop t_X6_aPhase 0) [some (mr 7 20), none, none, none] [] g = mAns (mEv X call 2 t_X6_aPhase) (mDrop t_X6_aPhase 5) [some (mr 7 20), none, none, none] [] (call 158 [mr 7 20, mi 0] g) := (mEv_3 _ _ _ _).trans rfl
theorem e_X6_aPhase_5 {X : mX} {call : Nat → List mV → mG → mR} {g : mG} {s0 : Int32} : mEv X call 2 t_X6_aPhase (mDrop t_X6_aPhase 5) [some (mr 7 20), none, none, none] [mi s0] g = if s0 = 8 then mEv X call 2 t_X6_aPhase (mDrop t_X6_aPhase 10) [some (mr 7 20), none, none, none] [] g else mEv X call 2 t_X6_aPhase (mDrop t_X6_aPhase 17) [some (mr 7 20), none, none, none] [] g := (mEv_2 _ _ _ _).trans rfl
theorem e_X6_aPhase_10 {X : mX} {call : Nat → List mV → mG → mR} {g : mG} : mEv X call 2 t_X6_aPhase (mDrop t_X6_aPhase 10) [some (mr 7 20), none, none, none] [] g = mAns (mEv X call 2 t_X6_aPhase) (mDrop t_X6_aPhase 16) [some (mr 7 20), none, none, none] [] (call 218 [mr 7 20, mi 6] g) := (mEv_3 _ _ _ _).trans rfl
theorem e_X6_aPhase_16 {X : mX} {call : Nat → List mV → mG → mR} {g : mG} {s0 : Int32} : mEv X call 2 t_X6_aPhase (mDrop t_X6_aPhase 16) [some (mr 7 20), none, none, none] [mi s0] g = if (s0 : Int32) &&& 1 = s0 then some (some (mi s0), g) else none := (mEv_1 _ _ _ _).trans rfl
theorem e_X6_aPhase_17 {X : mX} {call : Nat → List mV → mG → mR} {g : mG} : mEv X call 2 t_X6_aPhase (mDrop t_X6_aPhase 17) [some (mr 7 20), none, none, none] [] g = mAns (mEv X call 2 t_X6_aPhase) (mDrop t_X6_aPhase 21) [some (mr 7 20), none, none, none] [] (call 216 [mr 7 20] g) := (mEv_2 _ _ _ _).trans rfl
theorem e_X6_aPhase_21 {X : mX} {call : Nat → List mV → mG → mR} {g : mG} : mEv X call 2 t_X6_aPhase (mDrop t_X6_aPhase 21) [some (mr 7 20), none, none, none] [] g = mAns (mEv X call 2 t_X6_aPhase) (mDrop t_X6_aPhase 26) [some (mr 7 20), none, none, none] [] (call 158 [mr 7 20, mi 0] g) := (mEv_3 _ _ _ _).trans rfl
theorem e_X6_aPhase_26 {X : mX} {call : Nat → List mV → mG → mR} {g : mG} {s0 : Int32} : mEv X call 2 t_X6_aPhase (mDrop t_X6_aPhase 26) [some (mr 7 20), none, none, none] [mi s0] g = mAns (mEv X call 2 t_X6_aPhase) (mDrop t_X6_aPhase 33) [some (mr 7 20), some (mi s0), none, none] [] (call 220 [mr 7 20, mi 0, mi 1] g) := (mEv_5 _ _ _ _).trans rfl
theorem e_X6_aPhase_33 {X : mX} {call : Nat → List mV → mG → mR} {g : mG} {x1 s0 : Int32} : mEv X call 2 t_X6_aPhase (mDrop t_X6_aPhase 33) [some (mr 7 20), some (mi x1), none, none] [mi s0] g = if s0 = 0 then mEv X call 2 t_X6_aPhase (mDrop t_X6_aPhase 36) [some (mr 7 20), some (mi x1), none, none] [] g else mEv X call 2 t_X6_aPhase (mDrop t_X6_aPhase 38) [some (mr 7 20), some (mi x1), none, none] [] g := (mEv_1 _ _ _ _).trans rfl
theorem e_X6_aPhase_36 {X : mX} {call : Nat → List mV → mG → mR} {g : mG} {x1 : Int32} : mEv X call 2 t_X6_aPhase (mDrop t_X6_aPhase 36) [some (mr 7 20), some (mi x1), none, none] [] g = if (0 : Int32) &&& 1 = 0 then some (some (mi 0), g) else none := (mEv_2 _ _ _ _).trans rfl
theorem e_X6_aPhase_38 {X : mX} {call : Nat → List mV → mG → mR} {g : mG} {x1 : Int32} : mEv X call 2 t_X6_aPhase (mDrop t_X6_aPhase 38) [some (mr 7 20), some (mi x1), none, none] [] g = mAns (mEv X call 2 t_X6_aPhase) (mDrop t_X6_aPhase 48) [some (mr 7 20), some (mi x1), none, none] [] (call 166 [mr 7 20, mi x1, mi 0, mi (g 7 20 20)] g) := (mEv_6 _ _ _ _).trans rfl
theorem e_X6_aPhase_48 {X : mX} {call : Nat → List mV → mG → mR} {g : mG} {x1 : Int32} : mEv X call 2 t_X6_aPhase (mDrop t_X6_aPhase 48) [some (mr 7 20), some (mi x1), none, none] [] g = mAns (mEv X call 2 t_X6_aPhase) (mDrop t_X6_aPhase 54) [some (mr 7 20), some (mi x1), none, none] [] (call 220 [mr 7 20, mi 0, mi 1] g) := (mEv_4 _ _ _ _).trans rfl
theorem e_X6_aPhase_54 {X : mX} {call : Nat → List mV → mG → mR} {g : mG} {x1 s0 : Int32} : mEv X call 2 t_X6_aPhase (mDrop t_X6_aPhase 54) [some (mr 7 20), some (mi x1), none, none] [mi s0] g = if s0 = 0 then mEv X call 2 t_X6_aPhase (mDrop t_X6_aPhase 57) [some (mr 7 20), some (mi x1), none, none] [] g else mEv X call 2 t_X6_aPhase (mDrop t_X6_aPhase 59) [some (mr 7 20), some (mi x1), none, none] [] g := (mEv_1 _ _ _ _).trans rfl
theorem e_X6_aPhase_57 {X : mX} {call : Nat → List mV → mG → mR} {g : mG} {x1 : Int32} : mEv X call 2 t_X6_aPhase (mDrop t_X6_aPhase 57) [some (mr 7 20), some (mi x1), none, none] [] g = if (0 : Int32) &&& 1 = 0 then some (some (mi 0), g) else none := (mEv_2 _ _ _ _).trans rfl
theorem e_X6_aPhase_59 {X : mX} {call : Nat → List mV → mG → mR} {g : mG} {x1 : Int32} : mEv X call 2 t_X6_aPhase (mDrop t_X6_aPhase 59) [some (mr 7 20), some (mi x1), none, none] [] g = mAns (mEv X call 2 t_X6_aPhase) (mDrop t_X6_aPhase 69) [some (mr 7 20), some (mi x1), none, none] [] (call 166 [mr 7 20, mi x1, mi 1, mi (g 7 20 20)] g) := (mEv_6 _ _ _ _).trans rfl
theorem e_X6_aPhase_69 {X : mX} {call : Nat → List mV → mG → mR} {g : mG} {x1 : Int32} : mEv X call 2 t_X6_aPhase (mDrop t_X6_aPhase 69) [some (mr 7 20), some (mi x1), none, none] [] g = mAns (mEv X call 2 t_X6_aPhase) (mDrop t_X6_aPhase 76) [some (mr 7 20), some (mi x1), none, none] [] (call 166 [mr 7 20, mi x1, mi 2, mi 5] g) := (mEv_5 _ _ _ _).trans rfl
theorem e_X6_aPhase_76 {X : mX} {call : Nat → List mV → mG → mR} {g : mG} {x1 : Int32} : mEv X call 2 t_X6_aPhase (mDrop t_X6_aPhase 76) [some (mr 7 20), some (mi x1), none, none] [] g = mAns (mEv X call 2 t_X6_aPhase) (mDrop t_X6_aPhase 83) [some (mr 7 20), some (mi x1), none, none] [] (call 166 [mr 7 20, mi x1, mi 3, mi 2] g) := (mEv_5 _ _ _ _).trans rfl
theorem e_X6_aPhase_83 {X : mX} {call : Nat → List mV → mG → mR} {g : mG} {x1 : Int32} : mEv X call 2 t_X6_aPhase (mDrop t_X6_aPhase 83) [some (mr 7 20), some (mi x1), none, none] [] g = mAns (mEv X call 2 t_X6_aPhase) (mDrop t_X6_aPhase 91) [some (mr 7 20), some (mi x1), none, none] [] (call 166 [mr 7 20, mi x1, mi 4, mi 20] g) := (mEv_5 _ _ _ _).trans rfl
theorem e_X6_aPhase_91 {X : mX} {call : Nat → List mV → mG → mR} {g : mG} {x1 : Int32} : mEv X call 2 t_X6_aPhase (mDrop t_X6_aPhase 91) [some (mr 7 20), some (mi x1), none, none] [] g = mAns (mEv X call 2 t_X6_aPhase) (mDrop t_X6_aPhase 98) [some (mr 7 20), some (mi x1), none, none] [] (call 166 [mr 7 20, mi x1, mi 5, mi 3] g) := (mEv_5 _ _ _ _).trans rfl
theorem e_X6_aPhase_98 {X : mX} {call : Nat → List mV → mG → mR} {g : mG} {x1 : Int32} : mEv X call 2 t_X6_aPhase (mDrop t_X6_aPhase 98) [some (mr 7 20), some (mi x1), none, none] [] g = mAns (mEv X call 2 t_X6_aPhase) (mDrop t_X6_aPhase 106) [some (mr 7 20), some (mi x1), none, none] [] (call 166 [mr 7 20, mi x1, mi 6, mi 1] g) := (mEv_5 _ _ _ _).trans rfl
theorem e_X6_aPhase_106 {X : mX} {call : Nat → List mV → mG → mR} {g : mG} {x1 : Int32} : mEv X call 2 t_X6_aPhase (mDrop t_X6_aPhase 106) [some (mr 7 20), some (mi x1), none, none] [] g = mEv X call 2 t_X6_aPhase (mDrop t_X6_aPhase 108) [some (mr 7 20), some (mi x1), some (mi 0), none] [] g := (mEv_2 _ _ _ _).trans rfl
theorem hk_X6_aPhase_108 {X : mX} {call : Nat → List mV → mG → mR} {g : mG} {x1 x2 : Int32} {k3 : Option mV} : mEv X call 2 t_X6_aPhase (mDrop t_X6_aPhase 108) [some (mr 7 20), some (mi x1), some (mi x2), k3] [] g = mEv X call 2 t_X6_aPhase (mDrop t_X6_aPhase 108) [some (mr 7 20), some (mi x1), some (mi x2), none] [] g := Eq.trans (mEv_1 _ _ _ _) (Eq.symm (Eq.trans (mEv_1 _ _ _ _) rfl))
theorem e_X6_aPhase_108 {X : mX} {call : Nat → List mV → mG → mR} {g : mG} {x1 x2 : Int32} {u3 : Option mV} : mEv X call 2 t_X6_aPhase (mDrop t_X6_aPhase 108) [some (mr 7 20), some (mi x1), some (mi x2), u3] [] g = mAns (mEv X call 2 t_X6_aPhase) (mDrop t_X6_aPhase 112) [some (mr 7 20), some (mi x1), some (mi x2), none] [] (call 217 [mr 7 20] g) := (mEv_2 _ _ _ _).trans rfl
theorem e_X6_aPhase_112 {X : mX} {call : Nat → List mV → mG → mR} {g : mG} {x1 x2 s0 : Int32} {u3 : Option mV} : mEv X call 2 t_X6_aPhase (mDrop t_X6_aPhase 112) [some (mr 7 20), some (mi x1), some (mi x2), u3] [mi s0] g = mAns (mEv X call 2 t_X6_aPhase) (mDrop t_X6_aPhase 118) [some (mr 7 20), some (mi x1), some (mi x2), u3] [] (call 155 [mi s0, mi 0, mi 9] g) := (mEv_3 _ _ _ _).trans rfl
theorem e_X6_aPhase_118 {X : mX} {call : Nat → List mV → mG → mR} {g : mG} {x1 x2 s0 : Int32} {u3 : Option mV} : mEv X call 2 t_X6_aPhase (mDrop t_X6_aPhase 118) [some (mr 7 20), some (mi x1), some (mi x2), u3] [mi s0] g = if s0 = 0 then mEv X call 2 t_X6_aPhase (mDrop t_X6_aPhase 182) [some (mr 7 20), some (mi x1), some (mi x2), u3] [] g else mEv X call 2 t_X6_aPhase (mDrop t_X6_aPhase 121) [some (mr 7 20), some (mi x1), some (mi x2), u3] [] g := (mEv_1 _ _ _ _).trans rfl
theorem e_X6_aPhase_182 {X : mX} {call : Nat → List mV → mG → mR} {g : mG} {x1 x2 : Int32} {u3 : Option mV} : mEv X call 2 t_X6_aPhase (mDrop t_X6_aPhase 182) [some (mr 7 20), some (mi x1), some (mi x2), u3] [] g = mAns (mEv X call 2 t_X6_aPhase) (mDrop t_X6_aPhase 188) [some (mr 7 20), some (mi x1), some (mi x2), u3] [] (call 160 [mr 7 20, mi 0, mi 1] g) := (mEv_4 _ _ _ _).trans rfl
theorem e_X6_aPhase_188 {X : mX} {call : Nat → List mV → mG → mR} {g : mG} {x1 x2 : Int32} {u3 : Option mV} : mEv X call 2 t_X6_aPhase (mDrop t_X6_aPhase 188) [some (mr 7 20), some (mi x1), some (mi x2), u3] [] g = if (1 : Int32) &&& 1 = 1 then some (some (mi 1), g) else none := (mEv_2 _ _ _ _).trans rfl
theorem e_X6_aPhase_121 {X : mX} {call : Nat → List mV → mG → mR} {g : mG} {x1 x2 : Int32} {u3 : Option mV} : mEv X call 2 t_X6_aPhase (mDrop t_X6_aPhase 121) [some (mr 7 20), some (mi x1), some (mi x2), u3] [] g = mAns (mEv X call 2 t_X6_aPhase) (mDrop t_X6_aPhase 125) [some (mr 7 20), some (mi x1), some (mi x2), u3] [] (call 217 [mr 7 20] g) := (mEv_2 _ _ _ _).trans rfl
theorem e_X6_aPhase_125 {X : mX} {call : Nat → List mV → mG → mR} {g : mG} {x1 x2 s0 : Int32} {u3 : Option mV} : mEv X call 2 t_X6_aPhase (mDrop t_X6_aPhase 125) [some (mr 7 20), some (mi x1), some (mi x2), u3] [mi s0] g = mAns (mEv X call 2 t_X6_aPhase) (mDrop t_X6_aPhase 131) [some (mr 7 20), some (mi x1), some (mi x2), some (mi s0)] [] (call 156 [mi x2, mi s0] g) := (mEv_4 _ _ _ _).trans rfl
theorem e_X6_aPhase_131 {X : mX} {call : Nat → List mV → mG → mR} {g : mG} {x1 x2 x3 s0 : Int32} : mEv X call 2 t_X6_aPhase (mDrop t_X6_aPhase 131) [some (mr 7 20), some (mi x1), some (mi x2), some (mi x3)] [mi s0] g = if s0 = 0 then mEv X call 2 t_X6_aPhase (mDrop t_X6_aPhase 140) [some (mr 7 20), some (mi x1), some (mi x2), some (mi x3)] [] g else mEv X call 2 t_X6_aPhase (mDrop t_X6_aPhase 134) [some (mr 7 20), some (mi x1), some (mi x2), some (mi x3)] [] g := (mEv_1 _ _ _ _).trans rfl
theorem e_X6_aPhase_140 {X : mX} {call : Nat → List mV → mG → mR} {g : mG} {x1 x2 x3 : Int32} : mEv X call 2 t_X6_aPhase (mDrop t_X6_aPhase 140) [some (mr 7 20), some (mi x1), some (mi x2), some (mi x3)] [] g = mAns (mEv X call 2 t_X6_aPhase) (mDrop t_X6_aPhase 150) [some (mr 7 20), some (mi x1), some (mi (x2 ||| ((1 : Int32) <<< (x3 &&& 31)))), some (mi x3)] [] (call 216 [mr 7 20] g) := (mEv_8 _ _ _ _).trans rfl
theorem e_X6_aPhase_150 {X : mX} {call : Nat → List mV → mG → mR} {g : mG} {x1 x2 x3 : Int32} : mEv X call 2 t_X6_aPhase (mDrop t_X6_aPhase 150) [some (mr 7 20), some (mi x1), some (mi x2), some (mi x3)] [] g = mAns (mEv X call 2 t_X6_aPhase) (mDrop t_X6_aPhase 155) [some (mr 7 20), some (mi x1), some (mi x2), some (mi x3)] [mr 7 20] (call 222 [mi x3] g) := (mEv_3 _ _ _ _).trans rfl
theorem e_X6_aPhase_155 {X : mX} {call : Nat → List mV → mG → mR} {g : mG} {x1 x2 x3 s1 : Int32} : mEv X call 2 t_X6_aPhase (mDrop t_X6_aPhase 155) [some (mr 7 20), some (mi x1), some (mi x2), some (mi x3)] [mi s1, mr 7 20] g = mAns (mEv X call 2 t_X6_aPhase) (mDrop t_X6_aPhase 159) [some (mr 7 20), some (mi x1), some (mi x2), some (mi x3)] [mi s1, mr 7 20] (call 223 [mi x3] g) := (mEv_2 _ _ _ _).trans rfl
theorem e_X6_aPhase_159 {X : mX} {call : Nat → List mV → mG → mR} {g : mG} {x1 x2 x3 s1 s2 : Int32} : mEv X call 2 t_X6_aPhase (mDrop t_X6_aPhase 159) [some (mr 7 20), some (mi x1), some (mi x2), some (mi x3)] [mi s2, mi s1, mr 7 20] g = mAns (mEv X call 2 t_X6_aPhase) (mDrop t_X6_aPhase 162) [some (mr 7 20), some (mi x1), some (mi x2), some (mi x3)] [] (call 220 [mr 7 20, mi s1, mi s2] g) := (mEv_1 _ _ _ _).trans rfl
theorem e_X6_aPhase_162 {X : mX} {call : Nat → List mV → mG → mR} {g : mG} {x1 x2 x3 s0 : Int32} : mEv X call 2 t_X6_aPhase (mDrop t_X6_aPhase 162) [some (mr 7 20), some (mi x1), some (mi x2), some (mi x3)] [mi s0] g = if s0 = 0 then mEv X call 2 t_X6_aPhase (mDrop t_X6_aPhase 165) [some (mr 7 20), some (mi x1), some (mi x2), some (mi x3)] [] g else mEv X call 2 t_X6_aPhase (mDrop t_X6_aPhase 167) [some (mr 7 20), some (mi x1), some (mi x2), some (mi x3)] [] g := (mEv_1 _ _ _ _).trans rfl
theorem e_X6_aPhase_165 {X : mX} {call : Nat → List mV → mG → mR} {g : mG} {x1 x2 x3 : Int32} : mEv X call 2 t_X6_aPhase (mDrop t_X6_aPhase 165) [some (mr 7 20), some (mi x1), some (mi x2), some (mi x3)] [] g = if (0 : Int32) &&& 1 = 0 then some (some (mi 0), g) else none := (mEv_2 _ _ _ _).trans rfl
theorem e_X6_aPhase_167 {X : mX} {call : Nat → List mV → mG → mR} {g : mG} {x1 x2 x3 : Int32} : mEv X call 2 t_X6_aPhase (mDrop t_X6_aPhase 167) [some (mr 7 20), some (mi x1), some (mi x2), some (mi x3)] [] g = mAns (mEv X call 2 t_X6_aPhase) (mDrop t_X6_aPhase 179) [some (mr 7 20), some (mi x1), some (mi x2), some (mi x3)] [] (call 166 [mr 7 20, mi x1, mi ((2 : Int32) + x3), mi (g 7 20 20)] g) := (mEv_8 _ _ _ _).trans rfl
theorem e_X6_aPhase_179 {X : mX} {call : Nat → List mV → mG → mR} {g : mG} {x1 x2 x3 : Int32} : mEv X call 2 t_X6_aPhase (mDrop t_X6_aPhase 179) [some (mr 7 20), some (mi x1), some (mi x2), some (mi x3)] [] g = mEv X call 2 t_X6_aPhase (mDrop t_X6_aPhase 108) [some (mr 7 20), some (mi x1), some (mi x2), some (mi x3)] [] g := (mEv_1 _ _ _ _).trans rfl
theorem e_X6_aPhase_134 {X : mX} {call : Nat → List mV → mG → mR} {g : mG} {x1 x2 x3 : Int32} : mEv X call 2 t_X6_aPhase (mDrop t_X6_aPhase 134) [some (mr 7 20), some (mi x1), some (mi x2), some (mi x3)] [] g = mAns (mEv X call 2 t_X6_aPhase) (mDrop t_X6_aPhase 139) [some (mr 7 20), some (mi x1), some (mi x2), some (mi x3)] [] (call 218 [mr 7 20, mi 5] g) := (mEv_3 _ _ _ _).trans rfl
theorem e_X6_aPhase_139 {X : mX} {call : Nat → List mV → mG → mR} {g : mG} {x1 x2 x3 s0 : Int32} : mEv X call 2 t_X6_aPhase (mDrop t_X6_aPhase 139) [some (mr 7 20), some (mi x1), some (mi x2), some (mi x3)] [mi s0] g = if (s0 : Int32) &&& 1 = s0 then some (some (mi s0), g) else none := (mEv_1 _ _ _ _).trans rfl
noncomputable def B_X6_aPhase_108 (x1 : Int32) : (Int32 × mC) → (Int32 × mC) ⊕ (Option (Int32 × mC)) := fun s => match s with | (x2, c) => (mBo (α := Int32) (.inr none) (P_X6_key c) (fun v1 => (mBd (α := Int32) (P_X6_isFrom v1 0 9) (fun v2 => (if v2 = 0 then (.inr (mBo (α := mC) none (P_X6_adds c 0 1) (fun c3 => (some (1, c3))))) else (mBo (α := Int32) (.inr none) (P_X6_key c) (fun v4 => (mBd (α := Int32) (P_X6_has x2 v4) (fun v5 => (if v5 = 0 then (mBo (α := mC) (.inr none) (P_X6_ahead c) (fun c6 => (mBd (α := Int32) (P_X6_leastOf v4) (fun v7 => (mBd (α := Int32) (P_X6_mostOf v4) (fun v8 => (mBo (α := Int32 × mC) (.inr none) (P_X6_takesNumber c6 v7 v8) (fun p9 => (if p9.1 = 0 then (.inr (some (0, p9.2))) else (mBo (α := mC) (.inr none) (P_X6_putsPhase p9.2 x1 ((2 : Int32) + v4) (p9.2 20 20)) (fun c10 => (.inl ((x2 ||| ((1 : Int32) <<< (v4 &&& 31))), c10))))))))))))) else (.inr (mBo (α := Int32 × mC) none (P_X6_fails c 5) (fun p12 => (some (p12.1, p12.2)))))))))))))))
def mAdv (c c' : mC) : Prop := mEnd c' ≤ mEnd c ∧ (c' 20 10 = c 20 10 ∨ c' 20 10 = 0 ∨ mEnd c' < mEnd c)
theorem mAdv_refl (c : mC) : mAdv c c := ⟨Nat.le_refl _, Or.inl rfl⟩
theorem mAdv_trans {a b c : mC} (h1 : mAdv a b) (h2 : mAdv b c) : mAdv a c := by
  obtain ⟨p1, q1⟩ := h1
  obtain ⟨p2, q2⟩ := h2
  refine ⟨Nat.le_trans p2 p1, ?_⟩
  rcases q2 with q2 | q2 | q2
  · rcases q1 with q1 | q1 | q1
    · exact Or.inl (q2.trans q1)
    · exact Or.inr (Or.inl (q2.trans q1))
    · exact Or.inr (Or.inr (Nat.lt_of_le_of_lt p2 q1))
  · exact Or.inr (Or.inl q2)
  · exact Or.inr (Or.inr (Nat.lt_of_lt_of_le q2 p1))
theorem mAdv_same {c c' : mC} (h1 : c' 20 12 = c 20 12) (h2 : c' 20 10 = c 20 10) : mAdv c c' := ⟨by unfold mEnd; rw [h1]; exact Nat.le_refl _, Or.inl h2⟩
theorem mAdv_part {c : mC} {j k : Nat} {v : Int32} (h : j ≠ 20 ∨ (k ≠ 10 ∧ k ≠ 12)) : mAdv c (mP c j k v) := by
  apply mAdv_same <;>
  · unfold mP
    rw [if_neg (by omega)]
theorem adv_ahead {c c' : mC} (h : P_X6_ahead c = some c') : mAdv c c' := by
  have h0 := mWh_ind (dv := none) (B := B_X6_ahead_0) (Inv := fun s => mEnd s ≤ mEnd c) (Post := fun r => ∀ c', r = some c' → mEnd c' ≤ mEnd c ∧ (c' 20 10 = 0 ∨ mEnd c' < mEnd c)) tm_X6_ahead_0 ?_ ?_ (s := c) (Nat.le_refl _)
  · obtain ⟨a, b⟩ := h0 c' h
    exact ⟨a, Or.inr b⟩
  · intro s s' hi hs
    unfold B_X6_ahead_0 J_X6_ahead_26 at hs
    cases hb : P_X6_byteAt s (s 20 12) with
    | none => rw [hb] at hs; cases hs
    | some v =>
      rw [hb] at hs
      simp only [mBo] at hs
      split at hs
      next e => have h2 := Sum.inl.inj hs; subst h2; exact Nat.le_trans (Nat.le_of_lt (mEnd_up hb (by rw [e]; decide))) hi
      next =>
        split at hs
        next e => have h2 := Sum.inl.inj hs; subst h2; exact Nat.le_trans (Nat.le_of_lt (mEnd_up hb (by rw [e]; decide))) hi
        next => cases hs
  · intro s r hi hs c' hr
    subst hr
    unfold B_X6_ahead_0 J_X6_ahead_26 at hs
    cases hb : P_X6_byteAt s (s 20 12) with
    | none => rw [hb] at hs; cases hs
    | some v =>
      rw [hb] at hs
      simp only [mBo] at hs
      split at hs
      next => cases hs
      next =>
        split at hs
        next => cases hs
        next =>
          have hs := Sum.inr.inj hs
          have e12 : (mP s 20 11 (s 20 12)) 20 12 = s 20 12 := mP_n _ _ _ (by decide)
          have eB : ∀ x, P_X6_byteAt (mP s 20 11 (s 20 12)) x = P_X6_byteAt s x := by
            intro x
            unfold P_X6_byteAt
            rw [mP_n _ _ _ (by decide), mP_o (by decide)]
          rw [e12, eB, hb] at hs
          simp only [mBd] at hs
          have hup : ∀ t : Int32, v ≠ -1 → mEnd (mP (mP (mP s 20 11 (s 20 12)) 20 12 (s 20 12 + 1)) 20 10 t) < mEnd s := by
            intro t hv
            have h9 := mEnd_up hb hv
            unfold mEnd at h9 ⊢
            rw [mP_n _ _ _ (by decide), mP_s]
            rw [mP_s] at h9
            exact h9
          split at hs
          next =>
            have h2 := Option.some.inj hs; subst h2
            refine ⟨?_, Or.inl (mP_s _ _ _ _)⟩
            unfold mEnd at hi ⊢
            rw [mP_n _ _ _ (by decide), e12]
            exact hi
          next hv =>
            have lastly : mEnd c' < mEnd s → mEnd c' ≤ mEnd c ∧ (c' 20 10 = 0 ∨ mEnd c' < mEnd c) := fun z => ⟨Nat.le_trans (Nat.le_of_lt z) hi, Or.inr (Nat.lt_of_lt_of_le z hi)⟩
            apply lastly
            split at hs
            next =>
              split at hs
              next =>
                split at hs <;>
                · unfold J_X6_ahead_226 at hs
                  have h2 := Option.some.inj hs; subst h2
                  exact hup _ hv
              next hd =>
                rw [mWh_eq tm_X6_ahead_123] at hs
                have e123 : B_X6_ahead_123 (mP (mP s 20 11 (s 20 12)) 20 13 0) = B_X6_ahead_123 (mP (mP s 20 11 (s 20 12)) 20 13 0) := rfl
                have eB2 : ∀ x, P_X6_byteAt (mP (mP s 20 11 (s 20 12)) 20 13 0) x = P_X6_byteAt s x := by
                  intro x
                  unfold P_X6_byteAt
                  rw [mP_n _ _ _ (by decide), mP_n _ _ _ (by decide), mP_o (by decide), mP_o (by decide)]
                have e13 : (mP (mP s 20 11 (s 20 12)) 20 13 0) 20 12 = s 20 12 := by rw [mP_n _ _ _ (by decide), e12]
                cases hB : B_X6_ahead_123 (mP (mP s 20 11 (s 20 12)) 20 13 0) with
                | inr r =>
                  unfold B_X6_ahead_123 at hB
                  rw [e13, eB2, hb] at hB
                  simp only [mBo, mBd] at hB
                  rw [if_neg hd] at hB
                  cases hB
                | inl s2 =>
                  rw [hB] at hs
                  have hs2 : mEnd s2 < mEnd s := by
                    unfold B_X6_ahead_123 at hB
                    rw [e13, eB2, hb] at hB
                    simp only [mBo, mBd] at hB
                    rw [if_neg hd] at hB
                    have h2 := Sum.inl.inj hB; subst h2
                    unfold mEnd
                    rw [mP_s, mP_n _ _ _ (by decide), e13]
                    exact mtm_max (by_lt hb hv)
                  have h5 := mWh_ind (dv := none) (B := B_X6_ahead_123) (Inv := fun s => mEnd s ≤ mEnd s2) (Post := fun r => ∀ c', r = some c' → mEnd c' ≤ mEnd s2) tm_X6_ahead_123 ?_ ?_ (s := s2) (Nat.le_refl _)
                  · exact Nat.lt_of_le_of_lt (h5 c' hs) hs2
                  · intro a b hi2 hab
                    simp only [B_X6_ahead_123, mBd, mBo] at hab
                    (repeat' split at hab) <;> first | (cases hab; done) | skip
                    have h2 := Sum.inl.inj hab; subst h2
                    refine Nat.le_trans (Nat.le_of_lt ?_) hi2
                    unfold mEnd; rw [mP_s, mP_n _ _ _ (by decide)]
                    exact mtm_max (by_lt (by assumption) (by_dig (by assumption)))
                  · intro a r hi2 har c' hr
                    subst hr
                    simp only [B_X6_ahead_123, J_X6_ahead_198, mBd, mBo] at har
                    (repeat' split at har) <;> first | (cases har; done) | skip
                    all_goals
                      have h2 := Option.some.inj (Sum.inr.inj har); subst h2
                      unfold mEnd at hi2 ⊢
                      rw [mP_n _ _ _ (by decide)]
                      exact hi2
            next hd =>
              rw [mWh_eq tm_X6_ahead_76] at hs
              cases hB : B_X6_ahead_76 (mP s 20 11 (s 20 12)) with
              | inr r =>
                unfold B_X6_ahead_76 at hB
                rw [e12, eB, hb] at hB
                simp only [mBo, mBd] at hB
                rw [if_neg hd] at hB
                cases hB
              | inl s2 =>
                rw [hB] at hs
                have hs2 : mEnd s2 < mEnd s := by
                  unfold B_X6_ahead_76 at hB
                  rw [e12, eB, hb] at hB
                  simp only [mBo, mBd] at hB
                  rw [if_neg hd] at hB
                  have h2 := Sum.inl.inj hB; subst h2
                  unfold mEnd
                  rw [mP_s]
                  exact mtm_max (by_lt hb hv)
                have h5 := mWh_ind (dv := none) (B := B_X6_ahead_76) (Inv := fun s => mEnd s ≤ mEnd s2) (Post := fun r => ∀ c', r = some c' → mEnd c' ≤ mEnd s2) tm_X6_ahead_76 ?_ ?_ (s := s2) (Nat.le_refl _)
                · exact Nat.lt_of_le_of_lt (h5 c' hs) hs2
                · intro a b hi2 hab
                  simp only [B_X6_ahead_76, mBd, mBo] at hab
                  (repeat' split at hab) <;> first | (cases hab; done) | skip
                  have h2 := Sum.inl.inj hab; subst h2
                  exact Nat.le_trans (Nat.le_of_lt (mEnd_up (by assumption) (by_sml (by assumption)))) hi2
                · intro a r hi2 har c' hr
                  subst hr
                  simp only [B_X6_ahead_76, mBd, mBo] at har
                  (repeat' split at har) <;> first | (cases har; done) | skip
                  have h2 := Option.some.inj (Sum.inr.inj har); subst h2
                  unfold mEnd at hi2 ⊢
                  rw [mP_n _ _ _ (by decide)]
                  exact hi2
theorem adv_takes {c : mC} {p : Int32 × mC} (h : P_X6_takes c = some p) : mAdv c p.2 := by
  obtain ⟨c1, h1, h2⟩ := mBo_some h
  have h3 := Option.some.inj h2; subst h3
  exact adv_ahead h1
theorem adv_fails {c : mC} {x : Int32} {p : Int32 × mC} (h : P_X6_fails c x = some p) : p.1 = 0 ∧ mAdv c p.2 := by
  unfold P_X6_fails J_X6_fails_21 J_X6_fails_40 at h
  (repeat' split at h) <;>
  · have h3 := Option.some.inj h; subst h3
    refine ⟨rfl, ?_⟩
    first
      | exact mAdv_refl _
      | exact mAdv_trans (mAdv_part (by decide)) (mAdv_trans (mAdv_part (by decide)) (mAdv_part (by decide)))
theorem adv_puts {c c' : mC} {x y : Int32} (h : P_X6_puts c x y = some c') : mAdv c c' := by
  unfold P_X6_puts at h
  split at h
  next => cases h
  next => have h3 := Option.some.inj h; subst h3; exact mAdv_part (Or.inl (by decide))
theorem adv_adds {c c' : mC} {x y : Int32} (h : P_X6_adds c x y = some c') : mAdv c c' := by
  unfold P_X6_adds at h
  split at h
  next => cases h
  next =>
    have h3 := Option.some.inj h; subst h3; exact mAdv_part (Or.inl (by decide))
theorem adv_putsPhase {c c' : mC} {x y z : Int32} (h : P_X6_putsPhase c x y z = some c') : mAdv c c' := by
  unfold P_X6_putsPhase at h
  obtain ⟨c1, h1, h2⟩ := mBo_some h
  have h3 := Option.some.inj h2; subst h3
  exact adv_puts h1
theorem adv_takesNumber {c : mC} {x y : Int32} {p : Int32 × mC} (h : P_X6_takesNumber c x y = some p) : mAdv c p.2 ∧ (p.1 ≠ 0 → c 20 10 = 3) := by
  unfold P_X6_takesNumber mBd at h
  dsimp only at h
  split at h
  next ht =>
    refine ⟨?_, fun _ => ht⟩
    split at h
    next =>
      obtain ⟨c1, h1, h2⟩ := mBo_some h
      have h3 := Option.some.inj h2; subst h3
      exact (adv_fails h1).2
    next =>
      obtain ⟨c1, h1, h2⟩ := mBo_some h
      have h3 := Option.some.inj h2; subst h3
      exact mAdv_trans (mAdv_part (by decide)) (adv_takes h1)
  next =>
    obtain ⟨c1, h1, h2⟩ := mBo_some h
    have h3 := Option.some.inj h2; subst h3
    exact ⟨(adv_fails h1).2, fun z => absurd (adv_fails h1).1 z⟩
theorem key_word {c : mC} {v : Int32} (h : P_X6_key c = some v) (hv : v ≠ -1) : c 20 10 = 2 := by
  unfold P_X6_key at h
  split at h
  next e => exact e
  next => exact absurd (Option.some.inj h).symm hv
theorem from_ne {v : Int32} (h : ¬ P_X6_isFrom v 0 9 = 0) : v ≠ -1 := by
  rintro rfl; exact h rfl
set_option maxRecDepth 100000 in
theorem tm_X6_aPhase_108 {x1 : Int32} : mTm (B_X6_aPhase_108 x1) := by
  refine ⟨fun s => match s with | (x2, c) => mEnd c, fun s s2 h => ?_⟩
  obtain ⟨x2, c⟩ := s
  unfold B_X6_aPhase_108 mBd at h
  dsimp only at h
  cases hk : P_X6_key c with
  | none => rw [hk] at h; cases h
  | some k =>
    rw [hk] at h
    simp only [mBo] at h
    split at h
    next => cases h
    next hf =>
      have ht := key_word hk (from_ne hf)
      split at h
      next =>
        cases ha : P_X6_ahead c with
        | none => rw [ha] at h; cases h
        | some c6 =>
          rw [ha] at h
          simp only at h
          cases hn : P_X6_takesNumber c6 (P_X6_leastOf k) (P_X6_mostOf k) with
          | none => rw [hn] at h; cases h
          | some p =>
            rw [hn] at h
            simp only at h
            split at h
            next => cases h
            next hp =>
              have a1 := adv_ahead ha
              have a2 := adv_takesNumber hn
              have e6 := a2.2 hp
              have lt6 : mEnd c6 < mEnd c := by
                rcases a1.2 with z | z | z
                · rw [e6, ht] at z; exact absurd z (by decide)
                · rw [e6] at z; exact absurd z (by decide)
                · exact z
              cases hq : P_X6_putsPhase p.2 x1 ((2 : Int32) + k) (p.2 20 20) with
              | none => rw [hq] at h; cases h
              | some c10 =>
                rw [hq] at h
                have h2 := Sum.inl.inj h; subst h2
                exact Nat.lt_of_le_of_lt (Nat.le_trans (adv_putsPhase hq).1 a2.1.1) lt6
      next => cases h
theorem rl_X6_aPhase_108 (d : Nat) {X : mX} {g : mG} {x1 x2 : Int32} {c : mC} : mEv X (mCall mD X (d + 5)) 2 t_X6_aPhase (mDrop t_X6_aPhase 108) [some (mr 7 20), some (mi x1), some (mi x2), none] [] (mU g 7 c) = (wO (wW g 7)) (mWh none (B_X6_aPhase_108 x1) (x2, c)) := by
  refine mWh_ev (B := (B_X6_aPhase_108 x1)) (ev := fun s : (Int32 × mC) => match s with | (x2, c) => mEv X (mCall mD X (d + 5)) 2 t_X6_aPhase (mDrop t_X6_aPhase 108) [some (mr 7 20), some (mi x1), some (mi x2), none] [] (mU g 7 c)) (w := (wO (wW g 7))) (tm_X6_aPhase_108) ?_ (x2, c)
  rintro ⟨x2, c⟩
  show mEv X (mCall mD X (d + 5)) 2 t_X6_aPhase (mDrop t_X6_aPhase 108) [some (mr 7 20), some (mi x1), some (mi x2), none] [] (mU g 7 c) = wB (fun s : (Int32 × mC) => match s with | (x2, c) => mEv X (mCall mD X (d + 5)) 2 t_X6_aPhase (mDrop t_X6_aPhase 108) [some (mr 7 20), some (mi x1), some (mi x2), none] [] (mU g 7 c)) (wO (wW g 7)) (mBo (α := Int32) (.inr none) (P_X6_key c) (fun v1 => (mBd (α := Int32) (P_X6_isFrom v1 0 9) (fun v2 => (if v2 = 0 then (.inr (mBo (α := mC) none (P_X6_adds c 0 1) (fun c3 => (some (1, c3))))) else (mBo (α := Int32) (.inr none) (P_X6_key c) (fun v4 => (mBd (α := Int32) (P_X6_has x2 v4) (fun v5 => (if v5 = 0 then (mBo (α := mC) (.inr none) (P_X6_ahead c) (fun c6 => (mBd (α := Int32) (P_X6_leastOf v4) (fun v7 => (mBd (α := Int32) (P_X6_mostOf v4) (fun v8 => (mBo (α := Int32 × mC) (.inr none) (P_X6_takesNumber c6 v7 v8) (fun p9 => (if p9.1 = 0 then (.inr (some (0, p9.2))) else (mBo (α := mC) (.inr none) (P_X6_putsPhase p9.2 x1 ((2 : Int32) + v4) (p9.2 20 20)) (fun c10 => (.inl ((x2 ||| ((1 : Int32) <<< (v4 &&& 31))), c10))))))))))))) else (.inr (mBo (α := Int32 × mC) none (P_X6_fails c 5) (fun p12 => (some (p12.1, p12.2)))))))))))))))
  refine Eq.trans (e_X6_aPhase_108) ?_
  try simp only [mU_same, mU_mU]
  refine mw_oI ?_ (rr_X6_key d) (fun v1 => ?_)
  · rfl
  refine Eq.trans (e_X6_aPhase_112) ?_
  try simp only [mU_same, mU_mU]
  refine mw_cZ (rr_X6_isFrom (d + 4)) rfl (fun v2 hv2 => ?_)
  refine Eq.trans (e_X6_aPhase_118) ?_
  try simp only [mU_same, mU_mU]
  refine mw_ite (fun h14 => ?_) (fun h14 => ?_)
  · refine mw_inr ?_
    refine Eq.trans (e_X6_aPhase_182) ?_
    try simp only [mU_same, mU_mU]
    refine mw_oV ?_ (rr_X6_adds (d + 4)) (fun c3 => ?_)
    · rfl
    refine Eq.trans (e_X6_aPhase_188) ?_
    try simp only [mU_same, mU_mU]
    exact if_pos (by decide)
  · refine Eq.trans (e_X6_aPhase_121) ?_
    try simp only [mU_same, mU_mU]
    refine mw_oI ?_ (rr_X6_key d) (fun v4 => ?_)
    · rfl
    refine Eq.trans (e_X6_aPhase_125) ?_
    try simp only [mU_same, mU_mU]
    refine mw_cZ (rr_X6_has (d + 4)) rfl (fun v5 hv5 => ?_)
    refine Eq.trans (e_X6_aPhase_131) ?_
    try simp only [mU_same, mU_mU]
    refine mw_ite (fun h13 => ?_) (fun h13 => ?_)
    · refine Eq.trans (e_X6_aPhase_140) ?_
      try simp only [mU_same, mU_mU]
      refine mw_oV ?_ (rr_X6_ahead (d + 3)) (fun c6 => ?_)
      · rfl
      refine Eq.trans (e_X6_aPhase_150) ?_
      try simp only [mU_same, mU_mU]
      refine mw_cI (rr_X6_leastOf (d + 4)) (fun v7 => ?_)
      refine Eq.trans (e_X6_aPhase_155) ?_
      try simp only [mU_same, mU_mU]
      refine mw_cI (rr_X6_mostOf (d + 4)) (fun v8 => ?_)
      refine Eq.trans (e_X6_aPhase_159) ?_
      try simp only [mU_same, mU_mU]
      refine mw_oY ?_ (rr_X6_takesNumber (d + 1)) rfl (fun p9 hp9 => ?_)
      · rfl
      refine Eq.trans (e_X6_aPhase_162) ?_
      try simp only [mU_same, mU_mU]
      refine mw_ite (fun h11 => ?_) (fun h11 => ?_)
      · refine mw_inr ?_
        refine Eq.trans (e_X6_aPhase_165) ?_
        try simp only [mU_same, mU_mU]
        exact if_pos (by decide)
      · refine Eq.trans (e_X6_aPhase_167) ?_
        try simp only [mU_same, mU_mU]
        refine mw_oV ?_ (rr_X6_putsPhase (d + 3)) (fun c10 => ?_)
        · rfl
        refine Eq.trans (e_X6_aPhase_179) ?_
        try simp only [mU_same, mU_mU]
        exact mw_inl hk_X6_aPhase_108
    · refine mw_inr ?_
      refine Eq.trans (e_X6_aPhase_134) ?_
      try simp only [mU_same, mU_mU]
      refine mw_oY ?_ (rr_X6_fails (d + 4)) rfl (fun p12 hp12 => ?_)
      · rfl
      refine Eq.trans (e_X6_aPhase_139) ?_
      try simp only [mU_same, mU_mU]
      exact if_pos hp12
noncomputable def P_X6_aPhase (c : mC) : (Option (Int32 × mC)) := (mBo (α := Int32) none (P_X6_of c 0) (fun v1 => (if v1 = 8 then (mBo (α := Int32 × mC) none (P_X6_fails c 6) (fun p2 => (some (p2.1, p2.2)))) else (mBo (α := mC) none (P_X6_ahead c) (fun c3 => (mBo (α := Int32) none (P_X6_of c3 0) (fun v4 => (mBo (α := Int32 × mC) none (P_X6_takesNumber c3 0 1) (fun p5 => (if p5.1 = 0 then (some (0, p5.2)) else (mBo (α := mC) none (P_X6_putsPhase p5.2 v4 0 (p5.2 20 20)) (fun c6 => (mBo (α := Int32 × mC) none (P_X6_takesNumber c6 0 1) (fun p7 => (if p7.1 = 0 then (some (0, p7.2)) else (mBo (α := mC) none (P_X6_putsPhase p7.2 v4 1 (p7.2 20 20)) (fun c8 => (mBo (α := mC) none (P_X6_putsPhase c8 v4 2 5) (fun c9 => (mBo (α := mC) none (P_X6_putsPhase c9 v4 3 2) (fun c10 => (mBo (α := mC) none (P_X6_putsPhase c10 v4 4 20) (fun c11 => (mBo (α := mC) none (P_X6_putsPhase c11 v4 5 3) (fun c12 => (mBo (α := mC) none (P_X6_putsPhase c12 v4 6 1) (fun c13 => (mWh none (B_X6_aPhase_108 v4) (0, c13)))))))))))))))))))))))))))))
theorem rr_X6_aPhase (d : Nat) {X : mX} {g : mG} {c : mC} : mCall mD X (d + 6) 224 [mr 7 20] (mU g 7 c) = (wO (wW g 7)) (P_X6_aPhase c) := by
  refine Eq.trans (mCall_eq (d := d + 5) rfl) ?_
  show mEv X (mCall mD X (d + 5)) 2 t_X6_aPhase (mDrop t_X6_aPhase 0) [some (mr 7 20), none, none, none] [] (mU g 7 c) = _
  refine Eq.trans (e_X6_aPhase_0) ?_
  try simp only [mU_same, mU_mU]
  refine mw_oI ?_ (rr_X6_of (d + 4)) (fun v1 => ?_)
  · rfl
  refine Eq.trans (e_X6_aPhase_5) ?_
  try simp only [mU_same, mU_mU]
  refine mw_ite (fun h16 => ?_) (fun h16 => ?_)
  · refine Eq.trans (e_X6_aPhase_10) ?_
    try simp only [mU_same, mU_mU]
    refine mw_oY ?_ (rr_X6_fails (d + 4)) rfl (fun p2 hp2 => ?_)
    · rfl
    refine Eq.trans (e_X6_aPhase_16) ?_
    try simp only [mU_same, mU_mU]
    exact if_pos hp2
  · refine Eq.trans (e_X6_aPhase_17) ?_
    try simp only [mU_same, mU_mU]
    refine mw_oV ?_ (rr_X6_ahead (d + 3)) (fun c3 => ?_)
    · rfl
    refine Eq.trans (e_X6_aPhase_21) ?_
    try simp only [mU_same, mU_mU]
    refine mw_oI ?_ (rr_X6_of (d + 4)) (fun v4 => ?_)
    · rfl
    refine Eq.trans (e_X6_aPhase_26) ?_
    try simp only [mU_same, mU_mU]
    refine mw_oY ?_ (rr_X6_takesNumber (d + 1)) rfl (fun p5 hp5 => ?_)
    · rfl
    refine Eq.trans (e_X6_aPhase_33) ?_
    try simp only [mU_same, mU_mU]
    refine mw_ite (fun h15 => ?_) (fun h15 => ?_)
    · refine Eq.trans (e_X6_aPhase_36) ?_
      try simp only [mU_same, mU_mU]
      exact if_pos (by decide)
    · refine Eq.trans (e_X6_aPhase_38) ?_
      try simp only [mU_same, mU_mU]
      refine mw_oV ?_ (rr_X6_putsPhase (d + 3)) (fun c6 => ?_)
      · rfl
      refine Eq.trans (e_X6_aPhase_48) ?_
      try simp only [mU_same, mU_mU]
      refine mw_oY ?_ (rr_X6_takesNumber (d + 1)) rfl (fun p7 hp7 => ?_)
      · rfl
      refine Eq.trans (e_X6_aPhase_54) ?_
      try simp only [mU_same, mU_mU]
      refine mw_ite (fun h14 => ?_) (fun h14 => ?_)
      · refine Eq.trans (e_X6_aPhase_57) ?_
        try simp only [mU_same, mU_mU]
        exact if_pos (by decide)
      · refine Eq.trans (e_X6_aPhase_59) ?_
        try simp only [mU_same, mU_mU]
        refine mw_oV ?_ (rr_X6_putsPhase (d + 3)) (fun c8 => ?_)
        · rfl
        refine Eq.trans (e_X6_aPhase_69) ?_
        try simp only [mU_same, mU_mU]
        refine mw_oV ?_ (rr_X6_putsPhase (d + 3)) (fun c9 => ?_)
        · rfl
        refine Eq.trans (e_X6_aPhase_76) ?_
        try simp only [mU_same, mU_mU]
        refine mw_oV ?_ (rr_X6_putsPhase (d + 3)) (fun c10 => ?_)
        · rfl
        refine Eq.trans (e_X6_aPhase_83) ?_
        try simp only [mU_same, mU_mU]
        refine mw_oV ?_ (rr_X6_putsPhase (d + 3)) (fun c11 => ?_)
        · rfl
        refine Eq.trans (e_X6_aPhase_91) ?_
        try simp only [mU_same, mU_mU]
        refine mw_oV ?_ (rr_X6_putsPhase (d + 3)) (fun c12 => ?_)
        · rfl
        refine Eq.trans (e_X6_aPhase_98) ?_
        try simp only [mU_same, mU_mU]
        refine mw_oV ?_ (rr_X6_putsPhase (d + 3)) (fun c13 => ?_)
        · rfl
        refine Eq.trans (e_X6_aPhase_106) ?_
        try simp only [mU_same, mU_mU]
        exact Eq.trans hk_X6_aPhase_108 (rl_X6_aPhase_108 d)
theorem rr_X6_aPhase_at (d : Nat) {X : mX} {g : mG} : mCall mD X (d + 6) 224 [mr 7 20] g = wO (wW g 7) (P_X6_aPhase (g 7)) := by
  have h := rr_X6_aPhase (X := X) d (g := g) (c := g 7)
  rw [mU_self] at h
  exact h
theorem e_X6_aSet_0 {X : mX} {call : Nat → List mV → mG → mR} {g : mG} : mEv X call 2 t_X6_aSet (mDrop t_X6_aSet 0) [some (mr 7 20)] [] g = if (g 7 20 10) = 3 then mEv X call 2 t_X6_aSet (mDrop t_X6_aSet 14) [some (mr 7 20)] [] g else mEv X call 2 t_X6_aSet (mDrop t_X6_aSet 8) [some (mr 7 20)] [] g := (mEv_4 _ _ _ _).trans rfl
theorem e_X6_aSet_14 {X : mX} {call : Nat → List mV → mG → mR} {g : mG} : mEv X call 2 t_X6_aSet (mDrop t_X6_aSet 14) [some (mr 7 20)] [] g = mAns (mEv X call 2 t_X6_aSet) (mDrop t_X6_aSet 23) [some (mr 7 20)] [mi (g 7 20 13)] (call 158 [mr 7 20, mi 0] g) := (mEv_5 _ _ _ _).trans rfl
theorem e_X6_aSet_23 {X : mX} {call : Nat → List mV → mG → mR} {g : mG} {s0 s1 : Int32} : mEv X call 2 t_X6_aSet (mDrop t_X6_aSet 23) [some (mr 7 20)] [mi s1, mi s0] g = if (s0 >>> (s1 &&& 31)) = 0 then mEv X call 2 t_X6_aSet (mDrop t_X6_aSet 33) [some (mr 7 20)] [] g else mEv X call 2 t_X6_aSet (mDrop t_X6_aSet 27) [some (mr 7 20)] [] g := (mEv_2 _ _ _ _).trans rfl
theorem e_X6_aSet_33 {X : mX} {call : Nat → List mV → mG → mR} {g : mG} : mEv X call 2 t_X6_aSet (mDrop t_X6_aSet 33) [some (mr 7 20)] [] g = mAns (mEv X call 2 t_X6_aSet) (mDrop t_X6_aSet 41) [some (mr 7 20)] [] (call 172 [mr 7 20, mi (g 7 20 13)] g) := (mEv_4 _ _ _ _).trans rfl
theorem e_X6_aSet_41 {X : mX} {call : Nat → List mV → mG → mR} {g : mG} {s0 : Int32} : mEv X call 2 t_X6_aSet (mDrop t_X6_aSet 41) [some (mr 7 20)] [mi s0] g = if s0 = 0 then mEv X call 2 t_X6_aSet (mDrop t_X6_aSet 44) [some (mr 7 20)] [] g else mEv X call 2 t_X6_aSet (mDrop t_X6_aSet 50) [some (mr 7 20)] [] g := (mEv_1 _ _ _ _).trans rfl
theorem e_X6_aSet_44 {X : mX} {call : Nat → List mV → mG → mR} {g : mG} : mEv X call 2 t_X6_aSet (mDrop t_X6_aSet 44) [some (mr 7 20)] [] g = mAns (mEv X call 2 t_X6_aSet) (mDrop t_X6_aSet 49) [some (mr 7 20)] [] (call 218 [mr 7 20, mi 4] g) := (mEv_3 _ _ _ _).trans rfl
theorem e_X6_aSet_49 {X : mX} {call : Nat → List mV → mG → mR} {g : mG} {s0 : Int32} : mEv X call 2 t_X6_aSet (mDrop t_X6_aSet 49) [some (mr 7 20)] [mi s0] g = if (s0 : Int32) &&& 1 = s0 then some (some (mi s0), g) else none := (mEv_1 _ _ _ _).trans rfl
theorem e_X6_aSet_50 {X : mX} {call : Nat → List mV → mG → mR} {g : mG} : mEv X call 2 t_X6_aSet (mDrop t_X6_aSet 50) [some (mr 7 20)] [] g = mEv X call 2 t_X6_aSet (mDrop t_X6_aSet 58) [some (mr 7 20)] [] (mU g 7 (mP (g 7) 20 20 (g 7 20 13))) := (mEv_4 _ _ _ _).trans rfl
theorem e_X6_aSet_58 {X : mX} {call : Nat → List mV → mG → mR} {g : mG} : mEv X call 2 t_X6_aSet (mDrop t_X6_aSet 58) [some (mr 7 20)] [] g = mAns (mEv X call 2 t_X6_aSet) (mDrop t_X6_aSet 62) [some (mr 7 20)] [] (call 219 [mr 7 20] g) := (mEv_2 _ _ _ _).trans rfl
theorem e_X6_aSet_62 {X : mX} {call : Nat → List mV → mG → mR} {g : mG} {s0 : Int32} : mEv X call 2 t_X6_aSet (mDrop t_X6_aSet 62) [some (mr 7 20)] [mi s0] g = if (s0 : Int32) &&& 1 = s0 then some (some (mi s0), g) else none := (mEv_1 _ _ _ _).trans rfl
theorem e_X6_aSet_27 {X : mX} {call : Nat → List mV → mG → mR} {g : mG} : mEv X call 2 t_X6_aSet (mDrop t_X6_aSet 27) [some (mr 7 20)] [] g = mAns (mEv X call 2 t_X6_aSet) (mDrop t_X6_aSet 32) [some (mr 7 20)] [] (call 218 [mr 7 20, mi 3] g) := (mEv_3 _ _ _ _).trans rfl
theorem e_X6_aSet_32 {X : mX} {call : Nat → List mV → mG → mR} {g : mG} {s0 : Int32} : mEv X call 2 t_X6_aSet (mDrop t_X6_aSet 32) [some (mr 7 20)] [mi s0] g = if (s0 : Int32) &&& 1 = s0 then some (some (mi s0), g) else none := (mEv_1 _ _ _ _).trans rfl
theorem e_X6_aSet_8 {X : mX} {call : Nat → List mV → mG → mR} {g : mG} : mEv X call 2 t_X6_aSet (mDrop t_X6_aSet 8) [some (mr 7 20)] [] g = mAns (mEv X call 2 t_X6_aSet) (mDrop t_X6_aSet 13) [some (mr 7 20)] [] (call 218 [mr 7 20, mi 2] g) := (mEv_3 _ _ _ _).trans rfl
theorem e_X6_aSet_13 {X : mX} {call : Nat → List mV → mG → mR} {g : mG} {s0 : Int32} : mEv X call 2 t_X6_aSet (mDrop t_X6_aSet 13) [some (mr 7 20)] [mi s0] g = if (s0 : Int32) &&& 1 = s0 then some (some (mi s0), g) else none := (mEv_1 _ _ _ _).trans rfl
noncomputable def P_X6_aSet (c : mC) : (Option (Int32 × mC)) := (if (c 20 10) = 3 then (mBo (α := Int32) none (P_X6_of c 0) (fun v1 => (if ((c 20 13) >>> (v1 &&& 31)) = 0 then (mBo (α := Int32) none (P_X6_isPeace c (c 20 13)) (fun v2 => (if v2 = 0 then (mBo (α := Int32 × mC) none (P_X6_fails c 4) (fun p3 => (some (p3.1, p3.2)))) else (mBo (α := Int32 × mC) none (P_X6_takes (mP c 20 20 (c 20 13))) (fun p4 => (some (p4.1, p4.2))))))) else (mBo (α := Int32 × mC) none (P_X6_fails c 3) (fun p6 => (some (p6.1, p6.2))))))) else (mBo (α := Int32 × mC) none (P_X6_fails c 2) (fun p8 => (some (p8.1, p8.2)))))
theorem rr_X6_aSet (d : Nat) {X : mX} {g : mG} {c : mC} : mCall mD X (d + 6) 225 [mr 7 20] (mU g 7 c) = (wO (wW g 7)) (P_X6_aSet c) := by
  refine Eq.trans (mCall_eq (d := d + 5) rfl) ?_
  show mEv X (mCall mD X (d + 5)) 2 t_X6_aSet (mDrop t_X6_aSet 0) [some (mr 7 20)] [] (mU g 7 c) = _
  refine Eq.trans (e_X6_aSet_0) ?_
  try simp only [mU_same, mU_mU]
  refine mw_ite (fun h9 => ?_) (fun h9 => ?_)
  · refine Eq.trans (e_X6_aSet_14) ?_
    try simp only [mU_same, mU_mU]
    refine mw_oI ?_ (rr_X6_of (d + 4)) (fun v1 => ?_)
    · rfl
    refine Eq.trans (e_X6_aSet_23) ?_
    try simp only [mU_same, mU_mU]
    refine mw_ite (fun h7 => ?_) (fun h7 => ?_)
    · refine Eq.trans (e_X6_aSet_33) ?_
      try simp only [mU_same, mU_mU]
      refine mw_oZ ?_ (rr_X6_isPeace d) rfl (fun v2 hv2 => ?_)
      · rfl
      refine Eq.trans (e_X6_aSet_41) ?_
      try simp only [mU_same, mU_mU]
      refine mw_ite (fun h5 => ?_) (fun h5 => ?_)
      · refine Eq.trans (e_X6_aSet_44) ?_
        try simp only [mU_same, mU_mU]
        refine mw_oY ?_ (rr_X6_fails (d + 4)) rfl (fun p3 hp3 => ?_)
        · rfl
        refine Eq.trans (e_X6_aSet_49) ?_
        try simp only [mU_same, mU_mU]
        exact if_pos hp3
      · refine Eq.trans (e_X6_aSet_50) ?_
        try simp only [mU_same, mU_mU]
        refine Eq.trans (e_X6_aSet_58) ?_
        try simp only [mU_same, mU_mU]
        refine mw_oY ?_ (rr_X6_takes (d + 2)) rfl (fun p4 hp4 => ?_)
        · rfl
        refine Eq.trans (e_X6_aSet_62) ?_
        try simp only [mU_same, mU_mU]
        exact if_pos hp4
    · refine Eq.trans (e_X6_aSet_27) ?_
      try simp only [mU_same, mU_mU]
      refine mw_oY ?_ (rr_X6_fails (d + 4)) rfl (fun p6 hp6 => ?_)
      · rfl
      refine Eq.trans (e_X6_aSet_32) ?_
      try simp only [mU_same, mU_mU]
      exact if_pos hp6
  · refine Eq.trans (e_X6_aSet_8) ?_
    try simp only [mU_same, mU_mU]
    refine mw_oY ?_ (rr_X6_fails (d + 4)) rfl (fun p8 hp8 => ?_)
    · rfl
    refine Eq.trans (e_X6_aSet_13) ?_
    try simp only [mU_same, mU_mU]
    exact if_pos hp8
theorem rr_X6_aSet_at (d : Nat) {X : mX} {g : mG} : mCall mD X (d + 6) 225 [mr 7 20] g = wO (wW g 7) (P_X6_aSet (g 7)) := by
  have h := rr_X6_aSet (X := X) d (g := g) (c := g 7)
  rw [mU_self] at h
  exact h
theorem e_X6_aGoal_0 {X : mX} {call : Nat → List mV → mG → mR} {g : mG} {x1 x2 : Int32} : mEv X call 2 t_X6_aGoal (mDrop t_X6_aGoal 0) [some (mr 7 20), some (mi x1), some (mi x2)] [] g = mAns (mEv X call 2 t_X6_aGoal) (mDrop t_X6_aGoal 5) [some (mr 7 20), some (mi x1), some (mi x2)] [] (call 221 [mr 7 20, mi x2] g) := (mEv_3 _ _ _ _).trans rfl
theorem e_X6_aGoal_5 {X : mX} {call : Nat → List mV → mG → mR} {g : mG} {x1 x2 s0 : Int32} : mEv X call 2 t_X6_aGoal (mDrop t_X6_aGoal 5) [some (mr 7 20), some (mi x1), some (mi x2)] [mi s0] g = if s0 = 0 then mEv X call 2 t_X6_aGoal (mDrop t_X6_aGoal 15) [some (mr 7 20), some (mi x1), some (mi x2)] [] g else mEv X call 2 t_X6_aGoal (mDrop t_X6_aGoal 8) [some (mr 7 20), some (mi x1), some (mi x2)] [] g := (mEv_1 _ _ _ _).trans rfl
theorem e_X6_aGoal_15 {X : mX} {call : Nat → List mV → mG → mR} {g : mG} {x1 x2 : Int32} : mEv X call 2 t_X6_aGoal (mDrop t_X6_aGoal 15) [some (mr 7 20), some (mi x1), some (mi x2)] [] g = if (0 : Int32) &&& 1 = 0 then some (some (mi 0), g) else none := (mEv_2 _ _ _ _).trans rfl
noncomputable def J_X6_aGoal_15 (c : mC) : (Option (Int32 × mC)) := (some (0, c))
theorem rj_X6_aGoal_15 (d : Nat) {X : mX} {g : mG} {x1 x2 : Int32} {c : mC} : mEv X (mCall mD X (d + 6)) 2 t_X6_aGoal (mDrop t_X6_aGoal 15) [some (mr 7 20), some (mi x1), some (mi x2)] [] (mU g 7 c) = (wO (wW g 7)) (J_X6_aGoal_15 c) := by
  refine Eq.trans (e_X6_aGoal_15) ?_
  try simp only [mU_same, mU_mU]
  exact if_pos (by decide)
theorem e_X6_aGoal_8 {X : mX} {call : Nat → List mV → mG → mR} {g : mG} {x1 x2 : Int32} : mEv X call 2 t_X6_aGoal (mDrop t_X6_aGoal 8) [some (mr 7 20), some (mi x1), some (mi x2)] [] g = mAns (mEv X call 2 t_X6_aGoal) (mDrop t_X6_aGoal 12) [some (mr 7 20), some (mi x1), some (mi x2)] [] (call 225 [mr 7 20] g) := (mEv_2 _ _ _ _).trans rfl
theorem e_X6_aGoal_12 {X : mX} {call : Nat → List mV → mG → mR} {g : mG} {x1 x2 s0 : Int32} : mEv X call 2 t_X6_aGoal (mDrop t_X6_aGoal 12) [some (mr 7 20), some (mi x1), some (mi x2)] [mi s0] g = if s0 = 0 then mEv X call 2 t_X6_aGoal (mDrop t_X6_aGoal 15) [some (mr 7 20), some (mi x1), some (mi x2)] [] g else mEv X call 2 t_X6_aGoal (mDrop t_X6_aGoal 17) [some (mr 7 20), some (mi x1), some (mi x2)] [] g := (mEv_1 _ _ _ _).trans rfl
theorem e_X6_aGoal_17 {X : mX} {call : Nat → List mV → mG → mR} {g : mG} {x1 x2 : Int32} : mEv X call 2 t_X6_aGoal (mDrop t_X6_aGoal 17) [some (mr 7 20), some (mi x1), some (mi x2)] [] g = mAns (mEv X call 2 t_X6_aGoal) (mDrop t_X6_aGoal 26) [some (mr 7 20), some (mi x1), some (mi x2)] [] (call 159 [mr 7 20, mi x1, mi (g 7 20 20)] g) := (mEv_5 _ _ _ _).trans rfl
theorem e_X6_aGoal_26 {X : mX} {call : Nat → List mV → mG → mR} {g : mG} {x1 x2 : Int32} : mEv X call 2 t_X6_aGoal (mDrop t_X6_aGoal 26) [some (mr 7 20), some (mi x1), some (mi x2)] [] g = mAns (mEv X call 2 t_X6_aGoal) (mDrop t_X6_aGoal 33) [some (mr 7 20), some (mi x1), some (mi x2)] [] (call 220 [mr 7 20, mi 0, mi 30] g) := (mEv_4 _ _ _ _).trans rfl
theorem e_X6_aGoal_33 {X : mX} {call : Nat → List mV → mG → mR} {g : mG} {x1 x2 s0 : Int32} : mEv X call 2 t_X6_aGoal (mDrop t_X6_aGoal 33) [some (mr 7 20), some (mi x1), some (mi x2)] [mi s0] g = if s0 = 0 then mEv X call 2 t_X6_aGoal (mDrop t_X6_aGoal 36) [some (mr 7 20), some (mi x1), some (mi x2)] [] g else mEv X call 2 t_X6_aGoal (mDrop t_X6_aGoal 38) [some (mr 7 20), some (mi x1), some (mi x2)] [] g := (mEv_1 _ _ _ _).trans rfl
theorem e_X6_aGoal_36 {X : mX} {call : Nat → List mV → mG → mR} {g : mG} {x1 x2 : Int32} : mEv X call 2 t_X6_aGoal (mDrop t_X6_aGoal 36) [some (mr 7 20), some (mi x1), some (mi x2)] [] g = if (0 : Int32) &&& 1 = 0 then some (some (mi 0), g) else none := (mEv_2 _ _ _ _).trans rfl
theorem e_X6_aGoal_38 {X : mX} {call : Nat → List mV → mG → mR} {g : mG} {x1 x2 : Int32} : mEv X call 2 t_X6_aGoal (mDrop t_X6_aGoal 38) [some (mr 7 20), some (mi x1), some (mi x2)] [] g = mAns (mEv X call 2 t_X6_aGoal) (mDrop t_X6_aGoal 49) [some (mr 7 20), some (mi x1), some (mi x2)] [] (call 159 [mr 7 20, mi (x1 + 1), mi (g 7 20 20)] g) := (mEv_7 _ _ _ _).trans rfl
theorem e_X6_aGoal_49 {X : mX} {call : Nat → List mV → mG → mR} {g : mG} {x1 x2 : Int32} : mEv X call 2 t_X6_aGoal (mDrop t_X6_aGoal 49) [some (mr 7 20), some (mi x1), some (mi x2)] [] g = if (1 : Int32) &&& 1 = 1 then some (some (mi 1), g) else none := (mEv_2 _ _ _ _).trans rfl
noncomputable def P_X6_aGoal (c : mC) (x1 : Int32) (x2 : Int32) : (Option (Int32 × mC)) := (mBo (α := Int32 × mC) none (P_X6_takesWord c x2) (fun p1 => (if p1.1 = 0 then (J_X6_aGoal_15 p1.2) else (mBo (α := Int32 × mC) none (P_X6_aSet p1.2) (fun p2 => (if p2.1 = 0 then (J_X6_aGoal_15 p2.2) else (mBo (α := mC) none (P_X6_puts p2.2 x1 (p2.2 20 20)) (fun c3 => (mBo (α := Int32 × mC) none (P_X6_takesNumber c3 0 30) (fun p4 => (if p4.1 = 0 then (some (0, p4.2)) else (mBo (α := mC) none (P_X6_puts p4.2 (x1 + 1) (p4.2 20 20)) (fun c5 => (some (1, c5)))))))))))))))
theorem rr_X6_aGoal (d : Nat) {X : mX} {g : mG} {x1 x2 : Int32} {c : mC} : mCall mD X (d + 7) 226 [mr 7 20, mi x1, mi x2] (mU g 7 c) = (wO (wW g 7)) (P_X6_aGoal c x1 x2) := by
  refine Eq.trans (mCall_eq (d := d + 6) rfl) ?_
  show mEv X (mCall mD X (d + 6)) 2 t_X6_aGoal (mDrop t_X6_aGoal 0) [some (mr 7 20), some (mi x1), some (mi x2)] [] (mU g 7 c) = _
  refine Eq.trans (e_X6_aGoal_0) ?_
  try simp only [mU_same, mU_mU]
  refine mw_oY ?_ (rr_X6_takesWord d) rfl (fun p1 hp1 => ?_)
  · rfl
  refine Eq.trans (e_X6_aGoal_5) ?_
  try simp only [mU_same, mU_mU]
  refine mw_ite (fun h8 => ?_) (fun h8 => ?_)
  · exact rj_X6_aGoal_15 d
  · refine Eq.trans (e_X6_aGoal_8) ?_
    try simp only [mU_same, mU_mU]
    refine mw_oY ?_ (rr_X6_aSet d) rfl (fun p2 hp2 => ?_)
    · rfl
    refine Eq.trans (e_X6_aGoal_12) ?_
    try simp only [mU_same, mU_mU]
    refine mw_ite (fun h7 => ?_) (fun h7 => ?_)
    · exact rj_X6_aGoal_15 d
    · refine Eq.trans (e_X6_aGoal_17) ?_
      try simp only [mU_same, mU_mU]
      refine mw_oV ?_ (rr_X6_puts (d + 5)) (fun c3 => ?_)
      · rfl
      refine Eq.trans (e_X6_aGoal_26) ?_
      try simp only [mU_same, mU_mU]
      refine mw_oY ?_ (rr_X6_takesNumber (d + 2)) rfl (fun p4 hp4 => ?_)
      · rfl
      refine Eq.trans (e_X6_aGoal_33) ?_
      try simp only [mU_same, mU_mU]
      refine mw_ite (fun h6 => ?_) (fun h6 => ?_)
      · refine Eq.trans (e_X6_aGoal_36) ?_
        try simp only [mU_same, mU_mU]
        exact if_pos (by decide)
      · refine Eq.trans (e_X6_aGoal_38) ?_
        try simp only [mU_same, mU_mU]
        refine mw_oV ?_ (rr_X6_puts (d + 5)) (fun c5 => ?_)
        · rfl
        refine Eq.trans (e_X6_aGoal_49) ?_
        try simp only [mU_same, mU_mU]
        exact if_pos (by decide)
theorem rr_X6_aGoal_at (d : Nat) {X : mX} {g : mG} {x1 x2 : Int32} : mCall mD X (d + 7) 226 [mr 7 20, mi x1, mi x2] g = wO (wW g 7) (P_X6_aGoal (g 7) x1 x2) := by
  have h := rr_X6_aGoal (X := X) d (g := g) (c := g 7) (x1 := x1) (x2 := x2)
  rw [mU_self] at h
  exact h
theorem e_X6_aBreak_0 {X : mX} {call : Nat → List mV → mG → mR} {g : mG} : mEv X call 2 t_X6_aBreak (mDrop t_X6_aBreak 0) [some (mr 7 20), none] [] g = mAns (mEv X call 2 t_X6_aBreak) (mDrop t_X6_aBreak 4) [some (mr 7 20), none] [] (call 216 [mr 7 20] g) := (mEv_2 _ _ _ _).trans rfl
theorem e_X6_aBreak_4 {X : mX} {call : Nat → List mV → mG → mR} {g : mG} : mEv X call 2 t_X6_aBreak (mDrop t_X6_aBreak 4) [some (mr 7 20), none] [] g = if (g 7 20 10) = 3 then mEv X call 2 t_X6_aBreak (mDrop t_X6_aBreak 18) [some (mr 7 20), none] [] g else mEv X call 2 t_X6_aBreak (mDrop t_X6_aBreak 12) [some (mr 7 20), none] [] g := (mEv_4 _ _ _ _).trans rfl
theorem e_X6_aBreak_18 {X : mX} {call : Nat → List mV → mG → mR} {g : mG} : mEv X call 2 t_X6_aBreak (mDrop t_X6_aBreak 18) [some (mr 7 20), none] [] g = if (g 7 20 13) ≤ 1 then mEv X call 2 t_X6_aBreak (mDrop t_X6_aBreak 32) [some (mr 7 20), none] [] g else mEv X call 2 t_X6_aBreak (mDrop t_X6_aBreak 26) [some (mr 7 20), none] [] g := (mEv_4 _ _ _ _).trans rfl
theorem e_X6_aBreak_32 {X : mX} {call : Nat → List mV → mG → mR} {g : mG} : mEv X call 2 t_X6_aBreak (mDrop t_X6_aBreak 32) [some (mr 7 20), none] [] g = mAns (mEv X call 2 t_X6_aBreak) (mDrop t_X6_aBreak 43) [some (mr 7 20), none] [] (call 156 [mi (g 7 20 19), mi (g 7 20 13)] g) := (mEv_5 _ _ _ _).trans rfl
theorem e_X6_aBreak_43 {X : mX} {call : Nat → List mV → mG → mR} {g : mG} {s0 : Int32} : mEv X call 2 t_X6_aBreak (mDrop t_X6_aBreak 43) [some (mr 7 20), none] [mi s0] g = if s0 = 0 then mEv X call 2 t_X6_aBreak (mDrop t_X6_aBreak 52) [some (mr 7 20), none] [] g else mEv X call 2 t_X6_aBreak (mDrop t_X6_aBreak 46) [some (mr 7 20), none] [] g := (mEv_1 _ _ _ _).trans rfl
theorem e_X6_aBreak_52 {X : mX} {call : Nat → List mV → mG → mR} {g : mG} : mEv X call 2 t_X6_aBreak (mDrop t_X6_aBreak 52) [some (mr 7 20), none] [] g = mEv X call 2 t_X6_aBreak (mDrop t_X6_aBreak 67) [some (mr 7 20), none] [] (mU g 7 (mP (g 7) 20 19 ((g 7 20 19) ||| ((1 : Int32) <<< ((g 7 20 13) &&& 31))))) := (mEv_9 _ _ _ _).trans rfl
theorem e_X6_aBreak_67 {X : mX} {call : Nat → List mV → mG → mR} {g : mG} : mEv X call 2 t_X6_aBreak (mDrop t_X6_aBreak 67) [some (mr 7 20), none] [] g = mAns (mEv X call 2 t_X6_aBreak) (mDrop t_X6_aBreak 82) [some (mr 7 20), some (mi ((176 : Int32) + ((5 : Int32) * (g 7 20 13))))] [] (call 216 [mr 7 20] g) := (mEv_9 _ _ _ _).trans rfl
theorem e_X6_aBreak_82 {X : mX} {call : Nat → List mV → mG → mR} {g : mG} {x1 : Int32} : mEv X call 2 t_X6_aBreak (mDrop t_X6_aBreak 82) [some (mr 7 20), some (mi x1)] [] g = mAns (mEv X call 2 t_X6_aBreak) (mDrop t_X6_aBreak 91) [some (mr 7 20), some (mi x1)] [] (call 226 [mr 7 20, mi (x1 + 0), mi 14] g) := (mEv_6 _ _ _ _).trans rfl
theorem e_X6_aBreak_91 {X : mX} {call : Nat → List mV → mG → mR} {g : mG} {x1 s0 : Int32} : mEv X call 2 t_X6_aBreak (mDrop t_X6_aBreak 91) [some (mr 7 20), some (mi x1)] [mi s0] g = if s0 = 0 then mEv X call 2 t_X6_aBreak (mDrop t_X6_aBreak 125) [some (mr 7 20), some (mi x1)] [] g else mEv X call 2 t_X6_aBreak (mDrop t_X6_aBreak 94) [some (mr 7 20), some (mi x1)] [] g := (mEv_1 _ _ _ _).trans rfl
theorem e_X6_aBreak_125 {X : mX} {call : Nat → List mV → mG → mR} {g : mG} {x1 : Int32} : mEv X call 2 t_X6_aBreak (mDrop t_X6_aBreak 125) [some (mr 7 20), some (mi x1)] [] g = if (0 : Int32) &&& 1 = 0 then some (some (mi 0), g) else none := (mEv_2 _ _ _ _).trans rfl
noncomputable def J_X6_aBreak_125 (c : mC) : (Option (Int32 × mC)) := (some (0, c))
theorem rj_X6_aBreak_125 (d : Nat) {X : mX} {g : mG} {x1 : Int32} {c : mC} : mEv X (mCall mD X (d + 7)) 2 t_X6_aBreak (mDrop t_X6_aBreak 125) [some (mr 7 20), some (mi x1)] [] (mU g 7 c) = (wO (wW g 7)) (J_X6_aBreak_125 c) := by
  refine Eq.trans (e_X6_aBreak_125) ?_
  try simp only [mU_same, mU_mU]
  exact if_pos (by decide)
theorem e_X6_aBreak_94 {X : mX} {call : Nat → List mV → mG → mR} {g : mG} {x1 : Int32} : mEv X call 2 t_X6_aBreak (mDrop t_X6_aBreak 94) [some (mr 7 20), some (mi x1)] [] g = mAns (mEv X call 2 t_X6_aBreak) (mDrop t_X6_aBreak 103) [some (mr 7 20), some (mi x1)] [] (call 226 [mr 7 20, mi (x1 + 2), mi 15] g) := (mEv_6 _ _ _ _).trans rfl
theorem e_X6_aBreak_103 {X : mX} {call : Nat → List mV → mG → mR} {g : mG} {x1 s0 : Int32} : mEv X call 2 t_X6_aBreak (mDrop t_X6_aBreak 103) [some (mr 7 20), some (mi x1)] [mi s0] g = if s0 = 0 then mEv X call 2 t_X6_aBreak (mDrop t_X6_aBreak 125) [some (mr 7 20), some (mi x1)] [] g else mEv X call 2 t_X6_aBreak (mDrop t_X6_aBreak 106) [some (mr 7 20), some (mi x1)] [] g := (mEv_1 _ _ _ _).trans rfl
theorem e_X6_aBreak_106 {X : mX} {call : Nat → List mV → mG → mR} {g : mG} {x1 : Int32} : mEv X call 2 t_X6_aBreak (mDrop t_X6_aBreak 106) [some (mr 7 20), some (mi x1)] [] g = mAns (mEv X call 2 t_X6_aBreak) (mDrop t_X6_aBreak 112) [some (mr 7 20), some (mi x1)] [] (call 221 [mr 7 20, mi 16] g) := (mEv_3 _ _ _ _).trans rfl
theorem e_X6_aBreak_112 {X : mX} {call : Nat → List mV → mG → mR} {g : mG} {x1 s0 : Int32} : mEv X call 2 t_X6_aBreak (mDrop t_X6_aBreak 112) [some (mr 7 20), some (mi x1)] [mi s0] g = if s0 = 0 then mEv X call 2 t_X6_aBreak (mDrop t_X6_aBreak 125) [some (mr 7 20), some (mi x1)] [] g else mEv X call 2 t_X6_aBreak (mDrop t_X6_aBreak 115) [some (mr 7 20), some (mi x1)] [] g := (mEv_1 _ _ _ _).trans rfl
theorem e_X6_aBreak_115 {X : mX} {call : Nat → List mV → mG → mR} {g : mG} {x1 : Int32} : mEv X call 2 t_X6_aBreak (mDrop t_X6_aBreak 115) [some (mr 7 20), some (mi x1)] [] g = mAns (mEv X call 2 t_X6_aBreak) (mDrop t_X6_aBreak 122) [some (mr 7 20), some (mi x1)] [] (call 220 [mr 7 20, mi 0, mi 20] g) := (mEv_4 _ _ _ _).trans rfl
theorem e_X6_aBreak_122 {X : mX} {call : Nat → List mV → mG → mR} {g : mG} {x1 s0 : Int32} : mEv X call 2 t_X6_aBreak (mDrop t_X6_aBreak 122) [some (mr 7 20), some (mi x1)] [mi s0] g = if s0 = 0 then mEv X call 2 t_X6_aBreak (mDrop t_X6_aBreak 125) [some (mr 7 20), some (mi x1)] [] g else mEv X call 2 t_X6_aBreak (mDrop t_X6_aBreak 127) [some (mr 7 20), some (mi x1)] [] g := (mEv_1 _ _ _ _).trans rfl
theorem e_X6_aBreak_127 {X : mX} {call : Nat → List mV → mG → mR} {g : mG} {x1 : Int32} : mEv X call 2 t_X6_aBreak (mDrop t_X6_aBreak 127) [some (mr 7 20), some (mi x1)] [] g = mAns (mEv X call 2 t_X6_aBreak) (mDrop t_X6_aBreak 138) [some (mr 7 20), some (mi x1)] [] (call 159 [mr 7 20, mi (x1 + 4), mi (g 7 20 20)] g) := (mEv_7 _ _ _ _).trans rfl
theorem e_X6_aBreak_138 {X : mX} {call : Nat → List mV → mG → mR} {g : mG} {x1 : Int32} : mEv X call 2 t_X6_aBreak (mDrop t_X6_aBreak 138) [some (mr 7 20), some (mi x1)] [] g = if (1 : Int32) &&& 1 = 1 then some (some (mi 1), g) else none := (mEv_2 _ _ _ _).trans rfl
theorem e_X6_aBreak_46 {X : mX} {call : Nat → List mV → mG → mR} {g : mG} : mEv X call 2 t_X6_aBreak (mDrop t_X6_aBreak 46) [some (mr 7 20), none] [] g = mAns (mEv X call 2 t_X6_aBreak) (mDrop t_X6_aBreak 51) [some (mr 7 20), none] [] (call 218 [mr 7 20, mi 5] g) := (mEv_3 _ _ _ _).trans rfl
theorem e_X6_aBreak_51 {X : mX} {call : Nat → List mV → mG → mR} {g : mG} {s0 : Int32} : mEv X call 2 t_X6_aBreak (mDrop t_X6_aBreak 51) [some (mr 7 20), none] [mi s0] g = if (s0 : Int32) &&& 1 = s0 then some (some (mi s0), g) else none := (mEv_1 _ _ _ _).trans rfl
theorem e_X6_aBreak_26 {X : mX} {call : Nat → List mV → mG → mR} {g : mG} : mEv X call 2 t_X6_aBreak (mDrop t_X6_aBreak 26) [some (mr 7 20), none] [] g = mAns (mEv X call 2 t_X6_aBreak) (mDrop t_X6_aBreak 31) [some (mr 7 20), none] [] (call 218 [mr 7 20, mi 4] g) := (mEv_3 _ _ _ _).trans rfl
theorem e_X6_aBreak_31 {X : mX} {call : Nat → List mV → mG → mR} {g : mG} {s0 : Int32} : mEv X call 2 t_X6_aBreak (mDrop t_X6_aBreak 31) [some (mr 7 20), none] [mi s0] g = if (s0 : Int32) &&& 1 = s0 then some (some (mi s0), g) else none := (mEv_1 _ _ _ _).trans rfl
theorem e_X6_aBreak_12 {X : mX} {call : Nat → List mV → mG → mR} {g : mG} : mEv X call 2 t_X6_aBreak (mDrop t_X6_aBreak 12) [some (mr 7 20), none] [] g = mAns (mEv X call 2 t_X6_aBreak) (mDrop t_X6_aBreak 17) [some (mr 7 20), none] [] (call 218 [mr 7 20, mi 2] g) := (mEv_3 _ _ _ _).trans rfl
theorem e_X6_aBreak_17 {X : mX} {call : Nat → List mV → mG → mR} {g : mG} {s0 : Int32} : mEv X call 2 t_X6_aBreak (mDrop t_X6_aBreak 17) [some (mr 7 20), none] [mi s0] g = if (s0 : Int32) &&& 1 = s0 then some (some (mi s0), g) else none := (mEv_1 _ _ _ _).trans rfl
noncomputable def P_X6_aBreak (c : mC) : (Option (Int32 × mC)) := (mBo (α := mC) none (P_X6_ahead c) (fun c1 => (if (c1 20 10) = 3 then (if (c1 20 13) ≤ 1 then (mBd (α := Int32) (P_X6_has (c1 20 19) (c1 20 13)) (fun v2 => (if v2 = 0 then (mBo (α := mC) none (P_X6_ahead (mP c1 20 19 ((c1 20 19) ||| ((1 : Int32) <<< ((c1 20 13) &&& 31))))) (fun c3 => (mBo (α := Int32 × mC) none (P_X6_aGoal c3 (((176 : Int32) + ((5 : Int32) * ((mP c1 20 19 ((c1 20 19) ||| ((1 : Int32) <<< ((c1 20 13) &&& 31)))) 20 13))) + 0) 14) (fun p4 => (if p4.1 = 0 then (J_X6_aBreak_125 p4.2) else (mBo (α := Int32 × mC) none (P_X6_aGoal p4.2 (((176 : Int32) + ((5 : Int32) * ((mP c1 20 19 ((c1 20 19) ||| ((1 : Int32) <<< ((c1 20 13) &&& 31)))) 20 13))) + 2) 15) (fun p5 => (if p5.1 = 0 then (J_X6_aBreak_125 p5.2) else (mBo (α := Int32 × mC) none (P_X6_takesWord p5.2 16) (fun p6 => (if p6.1 = 0 then (J_X6_aBreak_125 p6.2) else (mBo (α := Int32 × mC) none (P_X6_takesNumber p6.2 0 20) (fun p7 => (if p7.1 = 0 then (J_X6_aBreak_125 p7.2) else (mBo (α := mC) none (P_X6_puts p7.2 (((176 : Int32) + ((5 : Int32) * ((mP c1 20 19 ((c1 20 19) ||| ((1 : Int32) <<< ((c1 20 13) &&& 31)))) 20 13))) + 4) (p7.2 20 20)) (fun c8 => (some (1, c8)))))))))))))))))) else (mBo (α := Int32 × mC) none (P_X6_fails c1 5) (fun p13 => (some (p13.1, p13.2))))))) else (mBo (α := Int32 × mC) none (P_X6_fails c1 4) (fun p15 => (some (p15.1, p15.2))))) else (mBo (α := Int32 × mC) none (P_X6_fails c1 2) (fun p17 => (some (p17.1, p17.2)))))))
theorem rr_X6_aBreak (d : Nat) {X : mX} {g : mG} {c : mC} : mCall mD X (d + 8) 227 [mr 7 20] (mU g 7 c) = (wO (wW g 7)) (P_X6_aBreak c) := by
  refine Eq.trans (mCall_eq (d := d + 7) rfl) ?_
  show mEv X (mCall mD X (d + 7)) 2 t_X6_aBreak (mDrop t_X6_aBreak 0) [some (mr 7 20), none] [] (mU g 7 c) = _
  refine Eq.trans (e_X6_aBreak_0) ?_
  try simp only [mU_same, mU_mU]
  refine mw_oV ?_ (rr_X6_ahead (d + 5)) (fun c1 => ?_)
  · rfl
  refine Eq.trans (e_X6_aBreak_4) ?_
  try simp only [mU_same, mU_mU]
  refine mw_ite (fun h18 => ?_) (fun h18 => ?_)
  · refine Eq.trans (e_X6_aBreak_18) ?_
    try simp only [mU_same, mU_mU]
    refine mw_ite (fun h16 => ?_) (fun h16 => ?_)
    · refine Eq.trans (e_X6_aBreak_32) ?_
      try simp only [mU_same, mU_mU]
      refine mw_cZ (rr_X6_has (d + 6)) rfl (fun v2 hv2 => ?_)
      refine Eq.trans (e_X6_aBreak_43) ?_
      try simp only [mU_same, mU_mU]
      refine mw_ite (fun h14 => ?_) (fun h14 => ?_)
      · refine Eq.trans (e_X6_aBreak_52) ?_
        try simp only [mU_same, mU_mU]
        refine Eq.trans (e_X6_aBreak_67) ?_
        try simp only [mU_same, mU_mU]
        refine mw_oV ?_ (rr_X6_ahead (d + 5)) (fun c3 => ?_)
        · rfl
        refine Eq.trans (e_X6_aBreak_82) ?_
        try simp only [mU_same, mU_mU]
        refine mw_oY ?_ (rr_X6_aGoal d) rfl (fun p4 hp4 => ?_)
        · rfl
        refine Eq.trans (e_X6_aBreak_91) ?_
        try simp only [mU_same, mU_mU]
        refine mw_ite (fun h12 => ?_) (fun h12 => ?_)
        · exact rj_X6_aBreak_125 d
        · refine Eq.trans (e_X6_aBreak_94) ?_
          try simp only [mU_same, mU_mU]
          refine mw_oY ?_ (rr_X6_aGoal d) rfl (fun p5 hp5 => ?_)
          · rfl
          refine Eq.trans (e_X6_aBreak_103) ?_
          try simp only [mU_same, mU_mU]
          refine mw_ite (fun h11 => ?_) (fun h11 => ?_)
          · exact rj_X6_aBreak_125 d
          · refine Eq.trans (e_X6_aBreak_106) ?_
            try simp only [mU_same, mU_mU]
            refine mw_oY ?_ (rr_X6_takesWord (d + 1)) rfl (fun p6 hp6 => ?_)
            · rfl
            refine Eq.trans (e_X6_aBreak_112) ?_
            try simp only [mU_same, mU_mU]
            refine mw_ite (fun h10 => ?_) (fun h10 => ?_)
            · exact rj_X6_aBreak_125 d
            · refine Eq.trans (e_X6_aBreak_115) ?_
              try simp only [mU_same, mU_mU]
              refine mw_oY ?_ (rr_X6_takesNumber (d + 3)) rfl (fun p7 hp7 => ?_)
              · rfl
              refine Eq.trans (e_X6_aBreak_122) ?_
              try simp only [mU_same, mU_mU]
              refine mw_ite (fun h9 => ?_) (fun h9 => ?_)
              · exact rj_X6_aBreak_125 d
              · refine Eq.trans (e_X6_aBreak_127) ?_
                try simp only [mU_same, mU_mU]
                refine mw_oV ?_ (rr_X6_puts (d + 6)) (fun c8 => ?_)
                · rfl
                refine Eq.trans (e_X6_aBreak_138) ?_
                try simp only [mU_same, mU_mU]
                exact if_pos (by decide)
      · refine Eq.trans (e_X6_aBreak_46) ?_
        try simp only [mU_same, mU_mU]
        refine mw_oY ?_ (rr_X6_fails (d + 6)) rfl (fun p13 hp13 => ?_)
        · rfl
        refine Eq.trans (e_X6_aBreak_51) ?_
        try simp only [mU_same, mU_mU]
        exact if_pos hp13
    · refine Eq.trans (e_X6_aBreak_26) ?_
      try simp only [mU_same, mU_mU]
      refine mw_oY ?_ (rr_X6_fails (d + 6)) rfl (fun p15 hp15 => ?_)
      · rfl
      refine Eq.trans (e_X6_aBreak_31) ?_
      try simp only [mU_same, mU_mU]
      exact if_pos hp15
  · refine Eq.trans (e_X6_aBreak_12) ?_
    try simp only [mU_same, mU_mU]
    refine mw_oY ?_ (rr_X6_fails (d + 6)) rfl (fun p17 hp17 => ?_)
    · rfl
    refine Eq.trans (e_X6_aBreak_17) ?_
    try simp only [mU_same, mU_mU]
    exact if_pos hp17
theorem rr_X6_aBreak_at (d : Nat) {X : mX} {g : mG} : mCall mD X (d + 8) 227 [mr 7 20] g = wO (wW g 7) (P_X6_aBreak (g 7)) := by
  have h := rr_X6_aBreak (X := X) d (g := g) (c := g 7)
  rw [mU_self] at h
  exact h
theorem e_X6_isCycle_0 {X : mX} {call : Nat → List mV → mG → mR} {g : mG} {x0 : Int32} : mEv X call 2 t_X6_isCycle (mDrop t_X6_isCycle 0) [some (mi x0)] [] g = if x0 = 0 then mEv X call 2 t_X6_isCycle (mDrop t_X6_isCycle 16) [some (mi x0)] [] g else mEv X call 2 t_X6_isCycle (mDrop t_X6_isCycle 4) [some (mi x0)] [] g := (mEv_2 _ _ _ _).trans rfl
theorem e_X6_isCycle_16 {X : mX} {call : Nat → List mV → mG → mR} {g : mG} {x0 : Int32} : mEv X call 2 t_X6_isCycle (mDrop t_X6_isCycle 16) [some (mi x0)] [] g = mEv X call 2 t_X6_isCycle (mDrop t_X6_isCycle 21) [some (mi x0)] [mi 1] g := (mEv_2 _ _ _ _).trans rfl
theorem e_X6_isCycle_21 {X : mX} {call : Nat → List mV → mG → mR} {g : mG} {x0 s0 : Int32} : mEv X call 2 t_X6_isCycle (mDrop t_X6_isCycle 21) [some (mi x0)] [mi s0] g = if (s0 : Int32) &&& 1 = s0 then some (some (mi s0), g) else none := (mEv_1 _ _ _ _).trans rfl
noncomputable def J_X6_isCycle_16  : (Int32) := 1
theorem rj_X6_isCycle_16 (d : Nat) {X : mX} {g : mG} {x0 : Int32} : mEv X (mCall mD X (d + 1)) 2 t_X6_isCycle (mDrop t_X6_isCycle 16) [some (mi x0)] [] g = (wN g) (J_X6_isCycle_16 ) := by
  refine Eq.trans (e_X6_isCycle_16) ?_
  refine Eq.trans (e_X6_isCycle_21) ?_
  exact if_pos (by decide)
theorem e_X6_isCycle_4 {X : mX} {call : Nat → List mV → mG → mR} {g : mG} {x0 : Int32} : mEv X call 2 t_X6_isCycle (mDrop t_X6_isCycle 4) [some (mi x0)] [] g = mAns (mEv X call 2 t_X6_isCycle) (mDrop t_X6_isCycle 13) [some (mi x0)] [] (call 155 [mi x0, mi 20, mi 240] g) := (mEv_4 _ _ _ _).trans rfl
theorem e_X6_isCycle_13 {X : mX} {call : Nat → List mV → mG → mR} {g : mG} {x0 s0 : Int32} : mEv X call 2 t_X6_isCycle (mDrop t_X6_isCycle 13) [some (mi x0)] [mi s0] g = if s0 = 0 then mEv X call 2 t_X6_isCycle (mDrop t_X6_isCycle 20) [some (mi x0)] [] g else mEv X call 2 t_X6_isCycle (mDrop t_X6_isCycle 16) [some (mi x0)] [] g := (mEv_1 _ _ _ _).trans rfl
theorem e_X6_isCycle_20 {X : mX} {call : Nat → List mV → mG → mR} {g : mG} {x0 : Int32} : mEv X call 2 t_X6_isCycle (mDrop t_X6_isCycle 20) [some (mi x0)] [] g = mEv X call 2 t_X6_isCycle (mDrop t_X6_isCycle 21) [some (mi x0)] [mi 0] g := (mEv_1 _ _ _ _).trans rfl
noncomputable def P_X6_isCycle (x0 : Int32) : (Int32) := (if x0 = 0 then (J_X6_isCycle_16 ) else (mBd (α := Int32) (P_X6_isFrom x0 20 240) (fun v1 => (if v1 = 0 then 0 else (J_X6_isCycle_16 )))))
theorem rr_X6_isCycle (d : Nat) {X : mX} {g : mG} {x0 : Int32} : mCall mD X (d + 2) 228 [mi x0] g = (wN g) (P_X6_isCycle x0) := by
  refine Eq.trans (mCall_eq (d := d + 1) rfl) ?_
  show mEv X (mCall mD X (d + 1)) 2 t_X6_isCycle (mDrop t_X6_isCycle 0) [some (mi x0)] [] g = _
  refine Eq.trans (e_X6_isCycle_0) ?_
  refine mw_ite (fun h3 => ?_) (fun h3 => ?_)
  · exact rj_X6_isCycle_16 d
  · refine Eq.trans (e_X6_isCycle_4) ?_
    refine mw_cZ (rr_X6_isFrom d) rfl (fun v1 hv1 => ?_)
    refine Eq.trans (e_X6_isCycle_13) ?_
    refine mw_ite (fun h2 => ?_) (fun h2 => ?_)
    · refine Eq.trans (e_X6_isCycle_20) ?_
      refine Eq.trans (e_X6_isCycle_21) ?_
      exact if_pos (by decide)
    · exact rj_X6_isCycle_16 d
theorem e_X6_aClock_0 {X : mX} {call : Nat → List mV → mG → mR} {g : mG} {x1 : Int32} : mEv X call 2 t_X6_aClock (mDrop t_X6_aClock 0) [some (mr 7 20), some (mi x1)] [] g = mAns (mEv X call 2 t_X6_aClock) (mDrop t_X6_aClock 8) [some (mr 7 20), some (mi x1)] [] (call 156 [mi (g 7 20 19), mi x1] g) := (mEv_4 _ _ _ _).trans rfl
theorem e_X6_aClock_8 {X : mX} {call : Nat → List mV → mG → mR} {g : mG} {x1 s0 : Int32} : mEv X call 2 t_X6_aClock (mDrop t_X6_aClock 8) [some (mr 7 20), some (mi x1)] [mi s0] g = if s0 = 0 then mEv X call 2 t_X6_aClock (mDrop t_X6_aClock 17) [some (mr 7 20), some (mi x1)] [] g else mEv X call 2 t_X6_aClock (mDrop t_X6_aClock 11) [some (mr 7 20), some (mi x1)] [] g := (mEv_1 _ _ _ _).trans rfl
theorem e_X6_aClock_17 {X : mX} {call : Nat → List mV → mG → mR} {g : mG} {x1 : Int32} : mEv X call 2 t_X6_aClock (mDrop t_X6_aClock 17) [some (mr 7 20), some (mi x1)] [] g = mEv X call 2 t_X6_aClock (mDrop t_X6_aClock 29) [some (mr 7 20), some (mi x1)] [] (mU g 7 (mP (g 7) 20 19 ((g 7 20 19) ||| ((1 : Int32) <<< (x1 &&& 31))))) := (mEv_8 _ _ _ _).trans rfl
theorem e_X6_aClock_29 {X : mX} {call : Nat → List mV → mG → mR} {g : mG} {x1 : Int32} : mEv X call 2 t_X6_aClock (mDrop t_X6_aClock 29) [some (mr 7 20), some (mi x1)] [] g = mAns (mEv X call 2 t_X6_aClock) (mDrop t_X6_aClock 33) [some (mr 7 20), some (mi x1)] [] (call 216 [mr 7 20] g) := (mEv_2 _ _ _ _).trans rfl
theorem e_X6_aClock_33 {X : mX} {call : Nat → List mV → mG → mR} {g : mG} {x1 : Int32} : mEv X call 2 t_X6_aClock (mDrop t_X6_aClock 33) [some (mr 7 20), some (mi x1)] [] g = if (g 7 20 10) = 3 then mEv X call 2 t_X6_aClock (mDrop t_X6_aClock 47) [some (mr 7 20), some (mi x1)] [] g else mEv X call 2 t_X6_aClock (mDrop t_X6_aClock 41) [some (mr 7 20), some (mi x1)] [] g := (mEv_4 _ _ _ _).trans rfl
theorem e_X6_aClock_47 {X : mX} {call : Nat → List mV → mG → mR} {g : mG} {x1 : Int32} : mEv X call 2 t_X6_aClock (mDrop t_X6_aClock 47) [some (mr 7 20), some (mi x1)] [] g = if x1 = 11 then mEv X call 2 t_X6_aClock (mDrop t_X6_aClock 53) [some (mr 7 20), some (mi x1)] [] g else mEv X call 2 t_X6_aClock (mDrop t_X6_aClock 66) [some (mr 7 20), some (mi x1)] [] g := (mEv_3 _ _ _ _).trans rfl
theorem e_X6_aClock_53 {X : mX} {call : Nat → List mV → mG → mR} {g : mG} {x1 : Int32} : mEv X call 2 t_X6_aClock (mDrop t_X6_aClock 53) [some (mr 7 20), some (mi x1)] [] g = mAns (mEv X call 2 t_X6_aClock) (mDrop t_X6_aClock 60) [some (mr 7 20), some (mi x1)] [] (call 228 [mi (g 7 20 13)] g) := (mEv_3 _ _ _ _).trans rfl
theorem e_X6_aClock_60 {X : mX} {call : Nat → List mV → mG → mR} {g : mG} {x1 s0 : Int32} : mEv X call 2 t_X6_aClock (mDrop t_X6_aClock 60) [some (mr 7 20), some (mi x1)] [mi s0] g = if s0 = 0 then mEv X call 2 t_X6_aClock (mDrop t_X6_aClock 63) [some (mr 7 20), some (mi x1)] [] g else mEv X call 2 t_X6_aClock (mDrop t_X6_aClock 82) [some (mr 7 20), some (mi x1)] [] g := (mEv_1 _ _ _ _).trans rfl
theorem e_X6_aClock_63 {X : mX} {call : Nat → List mV → mG → mR} {g : mG} {x1 : Int32} : mEv X call 2 t_X6_aClock (mDrop t_X6_aClock 63) [some (mr 7 20), some (mi x1)] [] g = mEv X call 2 t_X6_aClock (mDrop t_X6_aClock 76) [some (mr 7 20), some (mi x1)] [] g := (mEv_1 _ _ _ _).trans rfl
theorem e_X6_aClock_76 {X : mX} {call : Nat → List mV → mG → mR} {g : mG} {x1 : Int32} : mEv X call 2 t_X6_aClock (mDrop t_X6_aClock 76) [some (mr 7 20), some (mi x1)] [] g = mAns (mEv X call 2 t_X6_aClock) (mDrop t_X6_aClock 81) [some (mr 7 20), some (mi x1)] [] (call 218 [mr 7 20, mi 4] g) := (mEv_3 _ _ _ _).trans rfl
theorem e_X6_aClock_81 {X : mX} {call : Nat → List mV → mG → mR} {g : mG} {x1 s0 : Int32} : mEv X call 2 t_X6_aClock (mDrop t_X6_aClock 81) [some (mr 7 20), some (mi x1)] [mi s0] g = if (s0 : Int32) &&& 1 = s0 then some (some (mi s0), g) else none := (mEv_1 _ _ _ _).trans rfl
noncomputable def J_X6_aClock_76 (c : mC) : (Option (Int32 × mC)) := (mBo (α := Int32 × mC) none (P_X6_fails c 4) (fun p1 => (some (p1.1, p1.2))))
theorem rj_X6_aClock_76 (d : Nat) {X : mX} {g : mG} {x1 : Int32} {c : mC} : mEv X (mCall mD X (d + 3)) 2 t_X6_aClock (mDrop t_X6_aClock 76) [some (mr 7 20), some (mi x1)] [] (mU g 7 c) = (wO (wW g 7)) (J_X6_aClock_76 c) := by
  refine Eq.trans (e_X6_aClock_76) ?_
  try simp only [mU_same, mU_mU]
  refine mw_oY ?_ (rr_X6_fails (d + 2)) rfl (fun p1 hp1 => ?_)
  · rfl
  refine Eq.trans (e_X6_aClock_81) ?_
  try simp only [mU_same, mU_mU]
  exact if_pos hp1
theorem e_X6_aClock_82 {X : mX} {call : Nat → List mV → mG → mR} {g : mG} {x1 : Int32} : mEv X call 2 t_X6_aClock (mDrop t_X6_aClock 82) [some (mr 7 20), some (mi x1)] [] g = if x1 = 11 then mEv X call 2 t_X6_aClock (mDrop t_X6_aClock 89) [some (mr 7 20), some (mi x1)] [mr 7 20] g else mEv X call 2 t_X6_aClock (mDrop t_X6_aClock 93) [some (mr 7 20), some (mi x1)] [mr 7 20] g := (mEv_4 _ _ _ _).trans rfl
theorem e_X6_aClock_89 {X : mX} {call : Nat → List mV → mG → mR} {g : mG} {x1 : Int32} : mEv X call 2 t_X6_aClock (mDrop t_X6_aClock 89) [some (mr 7 20), some (mi x1)] [mr 7 20] g = mEv X call 2 t_X6_aClock (mDrop t_X6_aClock 94) [some (mr 7 20), some (mi x1)] [mi 2, mr 7 20] g := (mEv_2 _ _ _ _).trans rfl
theorem e_X6_aClock_94 {X : mX} {call : Nat → List mV → mG → mR} {g : mG} {x1 s1 : Int32} : mEv X call 2 t_X6_aClock (mDrop t_X6_aClock 94) [some (mr 7 20), some (mi x1)] [mi s1, mr 7 20] g = mAns (mEv X call 2 t_X6_aClock) (mDrop t_X6_aClock 101) [some (mr 7 20), some (mi x1)] [] (call 159 [mr 7 20, mi s1, mi (g 7 20 13)] g) := (mEv_3 _ _ _ _).trans rfl
theorem e_X6_aClock_101 {X : mX} {call : Nat → List mV → mG → mR} {g : mG} {x1 : Int32} : mEv X call 2 t_X6_aClock (mDrop t_X6_aClock 101) [some (mr 7 20), some (mi x1)] [] g = mAns (mEv X call 2 t_X6_aClock) (mDrop t_X6_aClock 105) [some (mr 7 20), some (mi x1)] [] (call 219 [mr 7 20] g) := (mEv_2 _ _ _ _).trans rfl
theorem e_X6_aClock_105 {X : mX} {call : Nat → List mV → mG → mR} {g : mG} {x1 s0 : Int32} : mEv X call 2 t_X6_aClock (mDrop t_X6_aClock 105) [some (mr 7 20), some (mi x1)] [mi s0] g = if (s0 : Int32) &&& 1 = s0 then some (some (mi s0), g) else none := (mEv_1 _ _ _ _).trans rfl
noncomputable def J_X6_aClock_94 (c : mC) (s1 : Int32) : (Option (Int32 × mC)) := (mBo (α := mC) none (P_X6_puts c s1 (c 20 13)) (fun c1 => (mBo (α := Int32 × mC) none (P_X6_takes c1) (fun p2 => (some (p2.1, p2.2))))))
theorem rj_X6_aClock_94 (d : Nat) {X : mX} {g : mG} {x1 s1 : Int32} {c : mC} : mEv X (mCall mD X (d + 3)) 2 t_X6_aClock (mDrop t_X6_aClock 94) [some (mr 7 20), some (mi x1)] [mi s1, mr 7 20] (mU g 7 c) = (wO (wW g 7)) (J_X6_aClock_94 c s1) := by
  refine Eq.trans (e_X6_aClock_94) ?_
  try simp only [mU_same, mU_mU]
  refine mw_oV ?_ (rr_X6_puts (d + 2)) (fun c1 => ?_)
  · rfl
  refine Eq.trans (e_X6_aClock_101) ?_
  try simp only [mU_same, mU_mU]
  refine mw_oY ?_ (rr_X6_takes d) rfl (fun p2 hp2 => ?_)
  · rfl
  refine Eq.trans (e_X6_aClock_105) ?_
  try simp only [mU_same, mU_mU]
  exact if_pos hp2
theorem e_X6_aClock_93 {X : mX} {call : Nat → List mV → mG → mR} {g : mG} {x1 : Int32} : mEv X call 2 t_X6_aClock (mDrop t_X6_aClock 93) [some (mr 7 20), some (mi x1)] [mr 7 20] g = mEv X call 2 t_X6_aClock (mDrop t_X6_aClock 94) [some (mr 7 20), some (mi x1)] [mi 3, mr 7 20] g := (mEv_1 _ _ _ _).trans rfl
noncomputable def J_X6_aClock_82 (c : mC) (x1 : Int32) : (Option (Int32 × mC)) := (if x1 = 11 then (J_X6_aClock_94 c 2) else (J_X6_aClock_94 c 3))
theorem rj_X6_aClock_82 (d : Nat) {X : mX} {g : mG} {x1 : Int32} {c : mC} : mEv X (mCall mD X (d + 3)) 2 t_X6_aClock (mDrop t_X6_aClock 82) [some (mr 7 20), some (mi x1)] [] (mU g 7 c) = (wO (wW g 7)) (J_X6_aClock_82 c x1) := by
  refine Eq.trans (e_X6_aClock_82) ?_
  try simp only [mU_same, mU_mU]
  refine mw_ite (fun h1 => ?_) (fun h1 => ?_)
  · refine Eq.trans (e_X6_aClock_89) ?_
    try simp only [mU_same, mU_mU]
    exact rj_X6_aClock_94 d
  · refine Eq.trans (e_X6_aClock_93) ?_
    try simp only [mU_same, mU_mU]
    exact rj_X6_aClock_94 d
theorem e_X6_aClock_66 {X : mX} {call : Nat → List mV → mG → mR} {g : mG} {x1 : Int32} : mEv X call 2 t_X6_aClock (mDrop t_X6_aClock 66) [some (mr 7 20), some (mi x1)] [] g = if (g 7 20 13) ≤ 239 then mEv X call 2 t_X6_aClock (mDrop t_X6_aClock 82) [some (mr 7 20), some (mi x1)] [] g else mEv X call 2 t_X6_aClock (mDrop t_X6_aClock 76) [some (mr 7 20), some (mi x1)] [] g := (mEv_4 _ _ _ _).trans rfl
theorem e_X6_aClock_41 {X : mX} {call : Nat → List mV → mG → mR} {g : mG} {x1 : Int32} : mEv X call 2 t_X6_aClock (mDrop t_X6_aClock 41) [some (mr 7 20), some (mi x1)] [] g = mAns (mEv X call 2 t_X6_aClock) (mDrop t_X6_aClock 46) [some (mr 7 20), some (mi x1)] [] (call 218 [mr 7 20, mi 2] g) := (mEv_3 _ _ _ _).trans rfl
theorem e_X6_aClock_46 {X : mX} {call : Nat → List mV → mG → mR} {g : mG} {x1 s0 : Int32} : mEv X call 2 t_X6_aClock (mDrop t_X6_aClock 46) [some (mr 7 20), some (mi x1)] [mi s0] g = if (s0 : Int32) &&& 1 = s0 then some (some (mi s0), g) else none := (mEv_1 _ _ _ _).trans rfl
theorem e_X6_aClock_11 {X : mX} {call : Nat → List mV → mG → mR} {g : mG} {x1 : Int32} : mEv X call 2 t_X6_aClock (mDrop t_X6_aClock 11) [some (mr 7 20), some (mi x1)] [] g = mAns (mEv X call 2 t_X6_aClock) (mDrop t_X6_aClock 16) [some (mr 7 20), some (mi x1)] [] (call 218 [mr 7 20, mi 5] g) := (mEv_3 _ _ _ _).trans rfl
theorem e_X6_aClock_16 {X : mX} {call : Nat → List mV → mG → mR} {g : mG} {x1 s0 : Int32} : mEv X call 2 t_X6_aClock (mDrop t_X6_aClock 16) [some (mr 7 20), some (mi x1)] [mi s0] g = if (s0 : Int32) &&& 1 = s0 then some (some (mi s0), g) else none := (mEv_1 _ _ _ _).trans rfl
noncomputable def P_X6_aClock (c : mC) (x1 : Int32) : (Option (Int32 × mC)) := (mBd (α := Int32) (P_X6_has (c 20 19) x1) (fun v1 => (if v1 = 0 then (mBo (α := mC) none (P_X6_ahead (mP c 20 19 ((c 20 19) ||| ((1 : Int32) <<< (x1 &&& 31))))) (fun c2 => (if (c2 20 10) = 3 then (if x1 = 11 then (mBd (α := Int32) (P_X6_isCycle (c2 20 13)) (fun v3 => (if v3 = 0 then (J_X6_aClock_76 c2) else (J_X6_aClock_82 c2 x1)))) else (if (c2 20 13) ≤ 239 then (J_X6_aClock_82 c2 x1) else (J_X6_aClock_76 c2))) else (mBo (α := Int32 × mC) none (P_X6_fails c2 2) (fun p7 => (some (p7.1, p7.2))))))) else (mBo (α := Int32 × mC) none (P_X6_fails c 5) (fun p9 => (some (p9.1, p9.2)))))))
theorem rr_X6_aClock (d : Nat) {X : mX} {g : mG} {x1 : Int32} {c : mC} : mCall mD X (d + 4) 229 [mr 7 20, mi x1] (mU g 7 c) = (wO (wW g 7)) (P_X6_aClock c x1) := by
  refine Eq.trans (mCall_eq (d := d + 3) rfl) ?_
  show mEv X (mCall mD X (d + 3)) 2 t_X6_aClock (mDrop t_X6_aClock 0) [some (mr 7 20), some (mi x1)] [] (mU g 7 c) = _
  refine Eq.trans (e_X6_aClock_0) ?_
  try simp only [mU_same, mU_mU]
  refine mw_cZ (rr_X6_has (d + 2)) rfl (fun v1 hv1 => ?_)
  refine Eq.trans (e_X6_aClock_8) ?_
  try simp only [mU_same, mU_mU]
  refine mw_ite (fun h10 => ?_) (fun h10 => ?_)
  · refine Eq.trans (e_X6_aClock_17) ?_
    try simp only [mU_same, mU_mU]
    refine Eq.trans (e_X6_aClock_29) ?_
    try simp only [mU_same, mU_mU]
    refine mw_oV ?_ (rr_X6_ahead (d + 1)) (fun c2 => ?_)
    · rfl
    refine Eq.trans (e_X6_aClock_33) ?_
    try simp only [mU_same, mU_mU]
    refine mw_ite (fun h8 => ?_) (fun h8 => ?_)
    · refine Eq.trans (e_X6_aClock_47) ?_
      try simp only [mU_same, mU_mU]
      refine mw_ite (fun h6 => ?_) (fun h6 => ?_)
      · refine Eq.trans (e_X6_aClock_53) ?_
        try simp only [mU_same, mU_mU]
        refine mw_cZ (rr_X6_isCycle (d + 1)) rfl (fun v3 hv3 => ?_)
        refine Eq.trans (e_X6_aClock_60) ?_
        try simp only [mU_same, mU_mU]
        refine mw_ite (fun h4 => ?_) (fun h4 => ?_)
        · refine Eq.trans (e_X6_aClock_63) ?_
          try simp only [mU_same, mU_mU]
          exact rj_X6_aClock_76 d
        · exact rj_X6_aClock_82 d
      · refine Eq.trans (e_X6_aClock_66) ?_
        try simp only [mU_same, mU_mU]
        refine mw_ite (fun h5 => ?_) (fun h5 => ?_)
        · exact rj_X6_aClock_82 d
        · exact rj_X6_aClock_76 d
    · refine Eq.trans (e_X6_aClock_41) ?_
      try simp only [mU_same, mU_mU]
      refine mw_oY ?_ (rr_X6_fails (d + 2)) rfl (fun p7 hp7 => ?_)
      · rfl
      refine Eq.trans (e_X6_aClock_46) ?_
      try simp only [mU_same, mU_mU]
      exact if_pos hp7
  · refine Eq.trans (e_X6_aClock_11) ?_
    try simp only [mU_same, mU_mU]
    refine mw_oY ?_ (rr_X6_fails (d + 2)) rfl (fun p9 hp9 => ?_)
    · rfl
    refine Eq.trans (e_X6_aClock_16) ?_
    try simp only [mU_same, mU_mU]
    exact if_pos hp9
theorem rr_X6_aClock_at (d : Nat) {X : mX} {g : mG} {x1 : Int32} : mCall mD X (d + 4) 229 [mr 7 20, mi x1] g = wO (wW g 7) (P_X6_aClock (g 7) x1) := by
  have h := rr_X6_aClock (X := X) d (g := g) (c := g 7) (x1 := x1)
  rw [mU_self] at h
  exact h
theorem e_X6_aLine_0 {X : mX} {call : Nat → List mV → mG → mR} {g : mG} : mEv X call 2 t_X6_aLine (mDrop t_X6_aLine 0) [some (mr 7 20), none, none] [] g = mAns (mEv X call 2 t_X6_aLine) (mDrop t_X6_aLine 4) [some (mr 7 20), none, none] [] (call 217 [mr 7 20] g) := (mEv_2 _ _ _ _).trans rfl
theorem e_X6_aLine_4 {X : mX} {call : Nat → List mV → mG → mR} {g : mG} {s0 : Int32} : mEv X call 2 t_X6_aLine (mDrop t_X6_aLine 4) [some (mr 7 20), none, none] [mi s0] g = if s0 = 10 then mEv X call 2 t_X6_aLine (mDrop t_X6_aLine 11) [some (mr 7 20), some (mi s0), none] [] g else mEv X call 2 t_X6_aLine (mDrop t_X6_aLine 18) [some (mr 7 20), some (mi s0), none] [] g := (mEv_4 _ _ _ _).trans rfl
theorem e_X6_aLine_11 {X : mX} {call : Nat → List mV → mG → mR} {g : mG} {x1 : Int32} : mEv X call 2 t_X6_aLine (mDrop t_X6_aLine 11) [some (mr 7 20), some (mi x1), none] [] g = mAns (mEv X call 2 t_X6_aLine) (mDrop t_X6_aLine 15) [some (mr 7 20), some (mi x1), none] [] (call 224 [mr 7 20] g) := (mEv_2 _ _ _ _).trans rfl
theorem e_X6_aLine_15 {X : mX} {call : Nat → List mV → mG → mR} {g : mG} {x1 s0 : Int32} : mEv X call 2 t_X6_aLine (mDrop t_X6_aLine 15) [some (mr 7 20), some (mi x1), none] [mi s0] g = mEv X call 2 t_X6_aLine (mDrop t_X6_aLine 56) [some (mr 7 20), some (mi x1), none] [mi s0] g := (mEv_1 _ _ _ _).trans rfl
theorem e_X6_aLine_56 {X : mX} {call : Nat → List mV → mG → mR} {g : mG} {x1 s0 : Int32} : mEv X call 2 t_X6_aLine (mDrop t_X6_aLine 56) [some (mr 7 20), some (mi x1), none] [mi s0] g = if s0 = 0 then mEv X call 2 t_X6_aLine (mDrop t_X6_aLine 61) [some (mr 7 20), some (mi x1), some (mi s0)] [] g else mEv X call 2 t_X6_aLine (mDrop t_X6_aLine 63) [some (mr 7 20), some (mi x1), some (mi s0)] [] g := (mEv_3 _ _ _ _).trans rfl
theorem e_X6_aLine_61 {X : mX} {call : Nat → List mV → mG → mR} {g : mG} {x1 x2 : Int32} : mEv X call 2 t_X6_aLine (mDrop t_X6_aLine 61) [some (mr 7 20), some (mi x1), some (mi x2)] [] g = if (0 : Int32) &&& 1 = 0 then some (some (mi 0), g) else none := (mEv_2 _ _ _ _).trans rfl
theorem e_X6_aLine_63 {X : mX} {call : Nat → List mV → mG → mR} {g : mG} {x1 x2 : Int32} : mEv X call 2 t_X6_aLine (mDrop t_X6_aLine 63) [some (mr 7 20), some (mi x1), some (mi x2)] [] g = if (g 7 20 10) = 4 then mEv X call 2 t_X6_aLine (mDrop t_X6_aLine 77) [some (mr 7 20), some (mi x1), some (mi x2)] [] g else mEv X call 2 t_X6_aLine (mDrop t_X6_aLine 71) [some (mr 7 20), some (mi x1), some (mi x2)] [] g := (mEv_4 _ _ _ _).trans rfl
theorem e_X6_aLine_77 {X : mX} {call : Nat → List mV → mG → mR} {g : mG} {x1 x2 : Int32} : mEv X call 2 t_X6_aLine (mDrop t_X6_aLine 77) [some (mr 7 20), some (mi x1), some (mi x2)] [] g = mEv X call 2 t_X6_aLine (mDrop t_X6_aLine 87) [some (mr 7 20), some (mi x1), some (mi x2)] [] (mU g 7 (mP (g 7) 20 18 ((g 7 20 18) + 1))) := (mEv_6 _ _ _ _).trans rfl
theorem e_X6_aLine_87 {X : mX} {call : Nat → List mV → mG → mR} {g : mG} {x1 x2 : Int32} : mEv X call 2 t_X6_aLine (mDrop t_X6_aLine 87) [some (mr 7 20), some (mi x1), some (mi x2)] [] g = mAns (mEv X call 2 t_X6_aLine) (mDrop t_X6_aLine 91) [some (mr 7 20), some (mi x1), some (mi x2)] [] (call 219 [mr 7 20] g) := (mEv_2 _ _ _ _).trans rfl
theorem e_X6_aLine_91 {X : mX} {call : Nat → List mV → mG → mR} {g : mG} {x1 x2 s0 : Int32} : mEv X call 2 t_X6_aLine (mDrop t_X6_aLine 91) [some (mr 7 20), some (mi x1), some (mi x2)] [mi s0] g = if (s0 : Int32) &&& 1 = s0 then some (some (mi s0), g) else none := (mEv_1 _ _ _ _).trans rfl
theorem e_X6_aLine_71 {X : mX} {call : Nat → List mV → mG → mR} {g : mG} {x1 x2 : Int32} : mEv X call 2 t_X6_aLine (mDrop t_X6_aLine 71) [some (mr 7 20), some (mi x1), some (mi x2)] [] g = mAns (mEv X call 2 t_X6_aLine) (mDrop t_X6_aLine 76) [some (mr 7 20), some (mi x1), some (mi x2)] [] (call 218 [mr 7 20, mi 2] g) := (mEv_3 _ _ _ _).trans rfl
theorem e_X6_aLine_76 {X : mX} {call : Nat → List mV → mG → mR} {g : mG} {x1 x2 s0 : Int32} : mEv X call 2 t_X6_aLine (mDrop t_X6_aLine 76) [some (mr 7 20), some (mi x1), some (mi x2)] [mi s0] g = if (s0 : Int32) &&& 1 = s0 then some (some (mi s0), g) else none := (mEv_1 _ _ _ _).trans rfl
noncomputable def J_X6_aLine_56 (c : mC) (s0 : Int32) : (Option (Int32 × mC)) := (if s0 = 0 then (some (0, c)) else (if (c 20 10) = 4 then (mBo (α := Int32 × mC) none (P_X6_takes (mP c 20 18 ((c 20 18) + 1))) (fun p1 => (some (p1.1, p1.2)))) else (mBo (α := Int32 × mC) none (P_X6_fails c 2) (fun p2 => (some (p2.1, p2.2))))))
theorem rj_X6_aLine_56 (d : Nat) {X : mX} {g : mG} {x1 s0 : Int32} {c : mC} : mEv X (mCall mD X (d + 8)) 2 t_X6_aLine (mDrop t_X6_aLine 56) [some (mr 7 20), some (mi x1), none] [mi s0] (mU g 7 c) = (wO (wW g 7)) (J_X6_aLine_56 c s0) := by
  refine Eq.trans (e_X6_aLine_56) ?_
  try simp only [mU_same, mU_mU]
  refine mw_ite (fun h4 => ?_) (fun h4 => ?_)
  · refine Eq.trans (e_X6_aLine_61) ?_
    try simp only [mU_same, mU_mU]
    exact if_pos (by decide)
  · refine Eq.trans (e_X6_aLine_63) ?_
    try simp only [mU_same, mU_mU]
    refine mw_ite (fun h3 => ?_) (fun h3 => ?_)
    · refine Eq.trans (e_X6_aLine_77) ?_
      try simp only [mU_same, mU_mU]
      refine Eq.trans (e_X6_aLine_87) ?_
      try simp only [mU_same, mU_mU]
      refine mw_oY ?_ (rr_X6_takes (d + 5)) rfl (fun p1 hp1 => ?_)
      · rfl
      refine Eq.trans (e_X6_aLine_91) ?_
      try simp only [mU_same, mU_mU]
      exact if_pos hp1
    · refine Eq.trans (e_X6_aLine_71) ?_
      try simp only [mU_same, mU_mU]
      refine mw_oY ?_ (rr_X6_fails (d + 7)) rfl (fun p2 hp2 => ?_)
      · rfl
      refine Eq.trans (e_X6_aLine_76) ?_
      try simp only [mU_same, mU_mU]
      exact if_pos hp2
theorem e_X6_aLine_18 {X : mX} {call : Nat → List mV → mG → mR} {g : mG} {x1 : Int32} : mEv X call 2 t_X6_aLine (mDrop t_X6_aLine 18) [some (mr 7 20), some (mi x1), none] [] g = if x1 = 11 then mEv X call 2 t_X6_aLine (mDrop t_X6_aLine 30) [some (mr 7 20), some (mi x1), none] [] g else mEv X call 2 t_X6_aLine (mDrop t_X6_aLine 24) [some (mr 7 20), some (mi x1), none] [] g := (mEv_3 _ _ _ _).trans rfl
theorem e_X6_aLine_30 {X : mX} {call : Nat → List mV → mG → mR} {g : mG} {x1 : Int32} : mEv X call 2 t_X6_aLine (mDrop t_X6_aLine 30) [some (mr 7 20), some (mi x1), none] [] g = mAns (mEv X call 2 t_X6_aLine) (mDrop t_X6_aLine 35) [some (mr 7 20), some (mi x1), none] [] (call 229 [mr 7 20, mi x1] g) := (mEv_3 _ _ _ _).trans rfl
theorem e_X6_aLine_35 {X : mX} {call : Nat → List mV → mG → mR} {g : mG} {x1 s0 : Int32} : mEv X call 2 t_X6_aLine (mDrop t_X6_aLine 35) [some (mr 7 20), some (mi x1), none] [mi s0] g = mEv X call 2 t_X6_aLine (mDrop t_X6_aLine 56) [some (mr 7 20), some (mi x1), none] [mi s0] g := (mEv_1 _ _ _ _).trans rfl
noncomputable def J_X6_aLine_30 (c : mC) (x1 : Int32) : (Option (Int32 × mC)) := (mBo (α := Int32 × mC) none (P_X6_aClock c x1) (fun p1 => (J_X6_aLine_56 p1.2 p1.1)))
theorem rj_X6_aLine_30 (d : Nat) {X : mX} {g : mG} {x1 : Int32} {c : mC} : mEv X (mCall mD X (d + 8)) 2 t_X6_aLine (mDrop t_X6_aLine 30) [some (mr 7 20), some (mi x1), none] [] (mU g 7 c) = (wO (wW g 7)) (J_X6_aLine_30 c x1) := by
  refine Eq.trans (e_X6_aLine_30) ?_
  try simp only [mU_same, mU_mU]
  refine mw_oY ?_ (rr_X6_aClock (d + 4)) rfl (fun p1 hp1 => ?_)
  · rfl
  refine Eq.trans (e_X6_aLine_35) ?_
  try simp only [mU_same, mU_mU]
  exact rj_X6_aLine_56 d
theorem e_X6_aLine_24 {X : mX} {call : Nat → List mV → mG → mR} {g : mG} {x1 : Int32} : mEv X call 2 t_X6_aLine (mDrop t_X6_aLine 24) [some (mr 7 20), some (mi x1), none] [] g = if x1 = 12 then mEv X call 2 t_X6_aLine (mDrop t_X6_aLine 30) [some (mr 7 20), some (mi x1), none] [] g else mEv X call 2 t_X6_aLine (mDrop t_X6_aLine 38) [some (mr 7 20), some (mi x1), none] [] g := (mEv_3 _ _ _ _).trans rfl
theorem e_X6_aLine_38 {X : mX} {call : Nat → List mV → mG → mR} {g : mG} {x1 : Int32} : mEv X call 2 t_X6_aLine (mDrop t_X6_aLine 38) [some (mr 7 20), some (mi x1), none] [] g = if x1 = 13 then mEv X call 2 t_X6_aLine (mDrop t_X6_aLine 44) [some (mr 7 20), some (mi x1), none] [] g else mEv X call 2 t_X6_aLine (mDrop t_X6_aLine 51) [some (mr 7 20), some (mi x1), none] [] g := (mEv_3 _ _ _ _).trans rfl
theorem e_X6_aLine_44 {X : mX} {call : Nat → List mV → mG → mR} {g : mG} {x1 : Int32} : mEv X call 2 t_X6_aLine (mDrop t_X6_aLine 44) [some (mr 7 20), some (mi x1), none] [] g = mAns (mEv X call 2 t_X6_aLine) (mDrop t_X6_aLine 48) [some (mr 7 20), some (mi x1), none] [] (call 227 [mr 7 20] g) := (mEv_2 _ _ _ _).trans rfl
theorem e_X6_aLine_48 {X : mX} {call : Nat → List mV → mG → mR} {g : mG} {x1 s0 : Int32} : mEv X call 2 t_X6_aLine (mDrop t_X6_aLine 48) [some (mr 7 20), some (mi x1), none] [mi s0] g = mEv X call 2 t_X6_aLine (mDrop t_X6_aLine 56) [some (mr 7 20), some (mi x1), none] [mi s0] g := (mEv_1 _ _ _ _).trans rfl
theorem e_X6_aLine_51 {X : mX} {call : Nat → List mV → mG → mR} {g : mG} {x1 : Int32} : mEv X call 2 t_X6_aLine (mDrop t_X6_aLine 51) [some (mr 7 20), some (mi x1), none] [] g = mAns (mEv X call 2 t_X6_aLine) (mDrop t_X6_aLine 56) [some (mr 7 20), some (mi x1), none] [] (call 218 [mr 7 20, mi 2] g) := (mEv_3 _ _ _ _).trans rfl
noncomputable def P_X6_aLine (c : mC) : (Option (Int32 × mC)) := (mBo (α := Int32) none (P_X6_key c) (fun v1 => (if v1 = 10 then (mBo (α := Int32 × mC) none (P_X6_aPhase c) (fun p2 => (J_X6_aLine_56 p2.2 p2.1))) else (if v1 = 11 then (J_X6_aLine_30 c v1) else (if v1 = 12 then (J_X6_aLine_30 c v1) else (if v1 = 13 then (mBo (α := Int32 × mC) none (P_X6_aBreak c) (fun p3 => (J_X6_aLine_56 p3.2 p3.1))) else (mBo (α := Int32 × mC) none (P_X6_fails c 2) (fun p4 => (J_X6_aLine_56 p4.2 p4.1)))))))))
theorem rr_X6_aLine (d : Nat) {X : mX} {g : mG} {c : mC} : mCall mD X (d + 9) 230 [mr 7 20] (mU g 7 c) = (wO (wW g 7)) (P_X6_aLine c) := by
  refine Eq.trans (mCall_eq (d := d + 8) rfl) ?_
  show mEv X (mCall mD X (d + 8)) 2 t_X6_aLine (mDrop t_X6_aLine 0) [some (mr 7 20), none, none] [] (mU g 7 c) = _
  refine Eq.trans (e_X6_aLine_0) ?_
  try simp only [mU_same, mU_mU]
  refine mw_oI ?_ (rr_X6_key (d + 3)) (fun v1 => ?_)
  · rfl
  refine Eq.trans (e_X6_aLine_4) ?_
  try simp only [mU_same, mU_mU]
  refine mw_ite (fun h8 => ?_) (fun h8 => ?_)
  · refine Eq.trans (e_X6_aLine_11) ?_
    try simp only [mU_same, mU_mU]
    refine mw_oY ?_ (rr_X6_aPhase (d + 2)) rfl (fun p2 hp2 => ?_)
    · rfl
    refine Eq.trans (e_X6_aLine_15) ?_
    try simp only [mU_same, mU_mU]
    exact rj_X6_aLine_56 d
  · refine Eq.trans (e_X6_aLine_18) ?_
    try simp only [mU_same, mU_mU]
    refine mw_ite (fun h7 => ?_) (fun h7 => ?_)
    · exact rj_X6_aLine_30 d
    · refine Eq.trans (e_X6_aLine_24) ?_
      try simp only [mU_same, mU_mU]
      refine mw_ite (fun h6 => ?_) (fun h6 => ?_)
      · exact rj_X6_aLine_30 d
      · refine Eq.trans (e_X6_aLine_38) ?_
        try simp only [mU_same, mU_mU]
        refine mw_ite (fun h5 => ?_) (fun h5 => ?_)
        · refine Eq.trans (e_X6_aLine_44) ?_
          try simp only [mU_same, mU_mU]
          refine mw_oY ?_ (rr_X6_aBreak d) rfl (fun p3 hp3 => ?_)
          · rfl
          refine Eq.trans (e_X6_aLine_48) ?_
          try simp only [mU_same, mU_mU]
          exact rj_X6_aLine_56 d
        · refine Eq.trans (e_X6_aLine_51) ?_
          try simp only [mU_same, mU_mU]
          refine mw_oY ?_ (rr_X6_fails (d + 7)) rfl (fun p4 hp4 => ?_)
          · rfl
          exact rj_X6_aLine_56 d
theorem rr_X6_aLine_at (d : Nat) {X : mX} {g : mG} : mCall mD X (d + 9) 230 [mr 7 20] g = wO (wW g 7) (P_X6_aLine (g 7)) := by
  have h := rr_X6_aLine (X := X) d (g := g) (c := g 7)
  rw [mU_self] at h
  exact h
theorem e_X6_load_0 {X : mX} {call : Nat → List mV → mG → mR} {g : mG} {x1 : Int32} : mEv X call 1 t_X6_load (mDrop t_X6_load 0) [some (mr 7 20), some (mi x1), none] [] g = mAns (mEv X call 1 t_X6_load) (mDrop t_X6_load 9) [some (mr 7 20), some (mi x1), none] [] (call 155 [mi x1, mi 0, mi (g 7 20 8)] g) := (mEv_5 _ _ _ _).trans rfl
theorem e_X6_load_9 {X : mX} {call : Nat → List mV → mG → mR} {g : mG} {x1 s0 : Int32} : mEv X call 1 t_X6_load (mDrop t_X6_load 9) [some (mr 7 20), some (mi x1), none] [mi s0] g = if s0 = 0 then mEv X call 1 t_X6_load (mDrop t_X6_load 12) [some (mr 7 20), some (mi x1), none] [] g else mEv X call 1 t_X6_load (mDrop t_X6_load 18) [some (mr 7 20), some (mi x1), none] [] g := (mEv_1 _ _ _ _).trans rfl
theorem e_X6_load_12 {X : mX} {call : Nat → List mV → mG → mR} {g : mG} {x1 : Int32} : mEv X call 1 t_X6_load (mDrop t_X6_load 12) [some (mr 7 20), some (mi x1), none] [] g = mAns (mEv X call 1 t_X6_load) (mDrop t_X6_load 17) [some (mr 7 20), some (mi x1), none] [] (call 152 [mr 7 20, mi 1] g) := (mEv_3 _ _ _ _).trans rfl
theorem e_X6_load_17 {X : mX} {call : Nat → List mV → mG → mR} {g : mG} {x1 s0 : Int32} : mEv X call 1 t_X6_load (mDrop t_X6_load 17) [some (mr 7 20), some (mi x1), none] [mi s0] g = some (some (mi s0), g) := (mEv_1 _ _ _ _).trans rfl
theorem e_X6_load_18 {X : mX} {call : Nat → List mV → mG → mR} {g : mG} {x1 : Int32} : mEv X call 1 t_X6_load (mDrop t_X6_load 18) [some (mr 7 20), some (mi x1), none] [] g = mEv X call 1 t_X6_load (mDrop t_X6_load 23) [some (mr 7 20), some (mi x1), none] [] (mU g 7 (mP (g 7) 20 9 x1)) := (mEv_3 _ _ _ _).trans rfl
theorem e_X6_load_23 {X : mX} {call : Nat → List mV → mG → mR} {g : mG} {x1 : Int32} : mEv X call 1 t_X6_load (mDrop t_X6_load 23) [some (mr 7 20), some (mi x1), none] [] g = mEv X call 1 t_X6_load (mDrop t_X6_load 25) [some (mr 7 20), some (mi x1), some (mi 0)] [] g := (mEv_2 _ _ _ _).trans rfl
theorem e_X6_load_25 {X : mX} {call : Nat → List mV → mG → mR} {g : mG} {x1 x2 : Int32} : mEv X call 1 t_X6_load (mDrop t_X6_load 25) [some (mr 7 20), some (mi x1), some (mi x2)] [] g = if x1 ≤ x2 then mEv X call 1 t_X6_load (mDrop t_X6_load 48) [some (mr 7 20), some (mi x1), some (mi x2)] [] g else mEv X call 1 t_X6_load (mDrop t_X6_load 30) [some (mr 7 20), some (mi x1), some (mi x2)] [] g := (mEv_3 _ _ _ _).trans rfl
theorem e_X6_load_48 {X : mX} {call : Nat → List mV → mG → mR} {g : mG} {x1 x2 : Int32} : mEv X call 1 t_X6_load (mDrop t_X6_load 48) [some (mr 7 20), some (mi x1), some (mi x2)] [] g = mEv X call 1 t_X6_load (mDrop t_X6_load 53) [some (mr 7 20), some (mi x1), some (mi x2)] [] (mU g 7 (mP (g 7) 20 8 0)) := (mEv_3 _ _ _ _).trans rfl
theorem e_X6_load_53 {X : mX} {call : Nat → List mV → mG → mR} {g : mG} {x1 x2 : Int32} : mEv X call 1 t_X6_load (mDrop t_X6_load 53) [some (mr 7 20), some (mi x1), some (mi x2)] [] g = mEv X call 1 t_X6_load (mDrop t_X6_load 58) [some (mr 7 20), some (mi x1), some (mi x2)] [] (mU g 7 (mP (g 7) 20 14 0)) := (mEv_3 _ _ _ _).trans rfl
theorem e_X6_load_58 {X : mX} {call : Nat → List mV → mG → mR} {g : mG} {x1 x2 : Int32} : mEv X call 1 t_X6_load (mDrop t_X6_load 58) [some (mr 7 20), some (mi x1), some (mi x2)] [] g = mEv X call 1 t_X6_load (mDrop t_X6_load 63) [some (mr 7 20), some (mi x1), some (mi x2)] [] (mU g 7 (mP (g 7) 20 15 (-1))) := (mEv_3 _ _ _ _).trans rfl
theorem e_X6_load_63 {X : mX} {call : Nat → List mV → mG → mR} {g : mG} {x1 x2 : Int32} : mEv X call 1 t_X6_load (mDrop t_X6_load 63) [some (mr 7 20), some (mi x1), some (mi x2)] [] g = mEv X call 1 t_X6_load (mDrop t_X6_load 68) [some (mr 7 20), some (mi x1), some (mi x2)] [] (mU g 7 (mP (g 7) 20 16 (-1))) := (mEv_3 _ _ _ _).trans rfl
theorem e_X6_load_68 {X : mX} {call : Nat → List mV → mG → mR} {g : mG} {x1 x2 : Int32} : mEv X call 1 t_X6_load (mDrop t_X6_load 68) [some (mr 7 20), some (mi x1), some (mi x2)] [] g = mEv X call 1 t_X6_load (mDrop t_X6_load 73) [some (mr 7 20), some (mi x1), some (mi x2)] [] (mU g 7 (mP (g 7) 20 18 0)) := (mEv_3 _ _ _ _).trans rfl
theorem e_X6_load_73 {X : mX} {call : Nat → List mV → mG → mR} {g : mG} {x1 x2 : Int32} : mEv X call 1 t_X6_load (mDrop t_X6_load 73) [some (mr 7 20), some (mi x1), some (mi x2)] [] g = mEv X call 1 t_X6_load (mDrop t_X6_load 78) [some (mr 7 20), some (mi x1), some (mi x2)] [] (mU g 7 (mP (g 7) 20 19 0)) := (mEv_3 _ _ _ _).trans rfl
theorem e_X6_load_78 {X : mX} {call : Nat → List mV → mG → mR} {g : mG} {x1 x2 : Int32} : mEv X call 1 t_X6_load (mDrop t_X6_load 78) [some (mr 7 20), some (mi x1), some (mi x2)] [] g = mEv X call 1 t_X6_load (mDrop t_X6_load 83) [some (mr 7 20), some (mi x1), some (mi x2)] [] (mU g 7 (mP (g 7) 20 12 0)) := (mEv_3 _ _ _ _).trans rfl
theorem e_X6_load_83 {X : mX} {call : Nat → List mV → mG → mR} {g : mG} {x1 x2 : Int32} : mEv X call 1 t_X6_load (mDrop t_X6_load 83) [some (mr 7 20), some (mi x1), some (mi x2)] [] g = mAns (mEv X call 1 t_X6_load) (mDrop t_X6_load 91) [some (mr 7 20), some (mi x1), some (mi x2)] [] (call 161 [mr 7 20, mi 0, mi 288] g) := (mEv_4 _ _ _ _).trans rfl
theorem e_X6_load_91 {X : mX} {call : Nat → List mV → mG → mR} {g : mG} {x1 x2 : Int32} : mEv X call 1 t_X6_load (mDrop t_X6_load 91) [some (mr 7 20), some (mi x1), some (mi x2)] [] g = mAns (mEv X call 1 t_X6_load) (mDrop t_X6_load 95) [some (mr 7 20), some (mi x1), some (mi x2)] [] (call 169 [mr 7 20] g) := (mEv_2 _ _ _ _).trans rfl
theorem e_X6_load_95 {X : mX} {call : Nat → List mV → mG → mR} {g : mG} {x1 x2 : Int32} : mEv X call 1 t_X6_load (mDrop t_X6_load 95) [some (mr 7 20), some (mi x1), some (mi x2)] [] g = mAns (mEv X call 1 t_X6_load) (mDrop t_X6_load 99) [some (mr 7 20), some (mi x1), some (mi x2)] [] (call 216 [mr 7 20] g) := (mEv_2 _ _ _ _).trans rfl
theorem e_X6_load_99 {X : mX} {call : Nat → List mV → mG → mR} {g : mG} {x1 x2 : Int32} : mEv X call 1 t_X6_load (mDrop t_X6_load 99) [some (mr 7 20), some (mi x1), some (mi x2)] [] g = mEv X call 1 t_X6_load (mDrop t_X6_load 101) [some (mr 7 20), some (mi x1), some (mi 1)] [] g := (mEv_2 _ _ _ _).trans rfl
theorem e_X6_load_101 {X : mX} {call : Nat → List mV → mG → mR} {g : mG} {x1 x2 : Int32} : mEv X call 1 t_X6_load (mDrop t_X6_load 101) [some (mr 7 20), some (mi x1), some (mi x2)] [] g = if x2 = 0 then mEv X call 1 t_X6_load (mDrop t_X6_load 120) [some (mr 7 20), some (mi x1), some (mi x2)] [] g else mEv X call 1 t_X6_load (mDrop t_X6_load 105) [some (mr 7 20), some (mi x1), some (mi x2)] [] g := (mEv_2 _ _ _ _).trans rfl
theorem e_X6_load_120 {X : mX} {call : Nat → List mV → mG → mR} {g : mG} {x1 x2 : Int32} : mEv X call 1 t_X6_load (mDrop t_X6_load 120) [some (mr 7 20), some (mi x1), some (mi x2)] [] g = mEv X call 1 t_X6_load (mDrop t_X6_load 128) [some (mr 7 20), some (mi x1), some (mi x2)] [] (mU g 7 (mP (g 7) 20 17 (g 7 20 14))) := (mEv_4 _ _ _ _).trans rfl
theorem e_X6_load_128 {X : mX} {call : Nat → List mV → mG → mR} {g : mG} {x1 x2 : Int32} : mEv X call 1 t_X6_load (mDrop t_X6_load 128) [some (mr 7 20), some (mi x1), some (mi x2)] [] g = if (g 7 20 14) ≤ 0 then mEv X call 1 t_X6_load (mDrop t_X6_load 150) [some (mr 7 20), some (mi x1), some (mi x2)] [] g else mEv X call 1 t_X6_load (mDrop t_X6_load 135) [some (mr 7 20), some (mi x1), some (mi x2)] [] g := (mEv_3 _ _ _ _).trans rfl
theorem e_X6_load_150 {X : mX} {call : Nat → List mV → mG → mR} {g : mG} {x1 x2 : Int32} : mEv X call 1 t_X6_load (mDrop t_X6_load 150) [some (mr 7 20), some (mi x1), some (mi x2)] [] g = mAns (mEv X call 1 t_X6_load) (mDrop t_X6_load 154) [some (mr 7 20), some (mi x1), some (mi x2)] [] (call 174 [mr 7 20] g) := (mEv_2 _ _ _ _).trans rfl
theorem e_X6_load_154 {X : mX} {call : Nat → List mV → mG → mR} {g : mG} {x1 x2 : Int32} : mEv X call 1 t_X6_load (mDrop t_X6_load 154) [some (mr 7 20), some (mi x1), some (mi x2)] [] g = mAns (mEv X call 1 t_X6_load) (mDrop t_X6_load 160) [some (mr 7 20), some (mi x1), some (mi x2)] [mr 7 20] (call 158 [mr 7 20, mi 0] g) := (mEv_4 _ _ _ _).trans rfl
theorem e_X6_load_160 {X : mX} {call : Nat → List mV → mG → mR} {g : mG} {x1 x2 s1 : Int32} : mEv X call 1 t_X6_load (mDrop t_X6_load 160) [some (mr 7 20), some (mi x1), some (mi x2)] [mi s1, mr 7 20] g = mAns (mEv X call 1 t_X6_load) (mDrop t_X6_load 163) [some (mr 7 20), some (mi x1), some (mi x2)] [] (call 154 [mr 7 20, mi s1] g) := (mEv_1 _ _ _ _).trans rfl
theorem e_X6_load_163 {X : mX} {call : Nat → List mV → mG → mR} {g : mG} {x1 x2 s0 : Int32} : mEv X call 1 t_X6_load (mDrop t_X6_load 163) [some (mr 7 20), some (mi x1), some (mi x2)] [mi s0] g = some (some (mi s0), g) := (mEv_1 _ _ _ _).trans rfl
theorem e_X6_load_135 {X : mX} {call : Nat → List mV → mG → mR} {g : mG} {x1 x2 : Int32} : mEv X call 1 t_X6_load (mDrop t_X6_load 135) [some (mr 7 20), some (mi x1), some (mi x2)] [] g = mAns (mEv X call 1 t_X6_load) (mDrop t_X6_load 143) [some (mr 7 20), some (mi x1), some (mi x2)] [] (call 161 [mr 7 20, mi 288, mi 0] g) := (mEv_4 _ _ _ _).trans rfl
theorem e_X6_load_143 {X : mX} {call : Nat → List mV → mG → mR} {g : mG} {x1 x2 : Int32} : mEv X call 1 t_X6_load (mDrop t_X6_load 143) [some (mr 7 20), some (mi x1), some (mi x2)] [] g = mAns (mEv X call 1 t_X6_load) (mDrop t_X6_load 149) [some (mr 7 20), some (mi x1), some (mi x2)] [] (call 152 [mr 7 20, mi 9] g) := (mEv_3 _ _ _ _).trans rfl
theorem e_X6_load_149 {X : mX} {call : Nat → List mV → mG → mR} {g : mG} {x1 x2 s0 : Int32} : mEv X call 1 t_X6_load (mDrop t_X6_load 149) [some (mr 7 20), some (mi x1), some (mi x2)] [mi s0] g = some (some (mi s0), g) := (mEv_1 _ _ _ _).trans rfl
noncomputable def J_X6_load_120 (c : mC) : (Option (Int32 × mC)) := (if ((mP c 20 17 (c 20 14)) 20 14) ≤ 0 then (mBo (α := mC) none (P_X6_starts (mP c 20 17 (c 20 14))) (fun c1 => (mBo (α := Int32) none (P_X6_of c1 0) (fun v2 => (mBo (α := Int32 × mC) none (P_X6_gives c1 v2) (fun p3 => (some (p3.1, p3.2)))))))) else (mBo (α := mC) none (P_X6_copies (mP c 20 17 (c 20 14)) 288 0) (fun c4 => (mBo (α := Int32 × mC) none (P_X6_refuse c4 9) (fun p5 => (some (p5.1, p5.2)))))))
theorem rj_X6_load_120 (d : Nat) {X : mX} {g : mG} {x1 x2 : Int32} {c : mC} : mEv X (mCall mD X (d + 9)) 1 t_X6_load (mDrop t_X6_load 120) [some (mr 7 20), some (mi x1), some (mi x2)] [] (mU g 7 c) = (wO (wW g 7)) (J_X6_load_120 c) := by
  refine Eq.trans (e_X6_load_120) ?_
  try simp only [mU_same, mU_mU]
  refine Eq.trans (e_X6_load_128) ?_
  try simp only [mU_same, mU_mU]
  refine mw_ite (fun h6 => ?_) (fun h6 => ?_)
  · refine Eq.trans (e_X6_load_150) ?_
    try simp only [mU_same, mU_mU]
    refine mw_oV ?_ (rr_X6_starts (d + 2)) (fun c1 => ?_)
    · rfl
    refine Eq.trans (e_X6_load_154) ?_
    try simp only [mU_same, mU_mU]
    refine mw_oI ?_ (rr_X6_of (d + 8)) (fun v2 => ?_)
    · rfl
    refine Eq.trans (e_X6_load_160) ?_
    try simp only [mU_same, mU_mU]
    refine mw_oW ?_ (rr_X6_gives (d + 8)) (fun p3 => ?_)
    · rfl
    refine Eq.trans (e_X6_load_163) ?_
    try simp only [mU_same, mU_mU]
    all_goals rfl
  · refine Eq.trans (e_X6_load_135) ?_
    try simp only [mU_same, mU_mU]
    refine mw_oV ?_ (rr_X6_copies (d + 8)) (fun c4 => ?_)
    · rfl
    refine Eq.trans (e_X6_load_143) ?_
    try simp only [mU_same, mU_mU]
    refine mw_oW ?_ (rr_X6_refuse (d + 8)) (fun p5 => ?_)
    · rfl
    refine Eq.trans (e_X6_load_149) ?_
    try simp only [mU_same, mU_mU]
    all_goals rfl
theorem e_X6_load_105 {X : mX} {call : Nat → List mV → mG → mR} {g : mG} {x1 x2 : Int32} : mEv X call 1 t_X6_load (mDrop t_X6_load 105) [some (mr 7 20), some (mi x1), some (mi x2)] [] g = if (g 7 20 10) = 0 then mEv X call 1 t_X6_load (mDrop t_X6_load 120) [some (mr 7 20), some (mi x1), some (mi x2)] [] g else mEv X call 1 t_X6_load (mDrop t_X6_load 112) [some (mr 7 20), some (mi x1), some (mi x2)] [] g := (mEv_3 _ _ _ _).trans rfl
theorem e_X6_load_112 {X : mX} {call : Nat → List mV → mG → mR} {g : mG} {x1 x2 : Int32} : mEv X call 1 t_X6_load (mDrop t_X6_load 112) [some (mr 7 20), some (mi x1), some (mi x2)] [] g = mAns (mEv X call 1 t_X6_load) (mDrop t_X6_load 116) [some (mr 7 20), some (mi x1), some (mi x2)] [] (call 230 [mr 7 20] g) := (mEv_2 _ _ _ _).trans rfl
theorem e_X6_load_116 {X : mX} {call : Nat → List mV → mG → mR} {g : mG} {x1 x2 s0 : Int32} : mEv X call 1 t_X6_load (mDrop t_X6_load 116) [some (mr 7 20), some (mi x1), some (mi x2)] [mi s0] g = mEv X call 1 t_X6_load (mDrop t_X6_load 101) [some (mr 7 20), some (mi x1), some (mi s0)] [] g := (mEv_2 _ _ _ _).trans rfl
noncomputable def B_X6_load_101  : (Int32 × mC) → (Int32 × mC) ⊕ (Option (Int32 × mC)) := fun s => match s with | (x2, c) => (if x2 = 0 then (.inr (J_X6_load_120 c)) else (if (c 20 10) = 0 then (.inr (J_X6_load_120 c)) else (mBo (α := Int32 × mC) (.inr none) (P_X6_aLine c) (fun p1 => (.inl (p1.1, p1.2))))))
theorem adv_aPhase {c : mC} {p : Int32 × mC} (h : P_X6_aPhase c = some p) : mAdv c p.2 := by
  unfold P_X6_aPhase at h
  obtain ⟨n, -, h⟩ := mBo_some h
  split at h
  next =>
    obtain ⟨c1, h1, h2⟩ := mBo_some h
    have h3 := Option.some.inj h2; subst h3
    exact (adv_fails h1).2
  next =>
    obtain ⟨c3, h3, h⟩ := mBo_some h
    obtain ⟨v4, -, h⟩ := mBo_some h
    obtain ⟨p5, h5, h⟩ := mBo_some h
    have a5 := mAdv_trans (adv_ahead h3) (adv_takesNumber h5).1
    split at h
    next => have h2 := Option.some.inj h; subst h2; exact a5
    next =>
      obtain ⟨c6, h6, h⟩ := mBo_some h
      obtain ⟨p7, h7, h⟩ := mBo_some h
      have a7 := mAdv_trans a5 (mAdv_trans (adv_putsPhase h6) (adv_takesNumber h7).1)
      split at h
      next => have h2 := Option.some.inj h; subst h2; exact a7
      next =>
        obtain ⟨c8, h8, h⟩ := mBo_some h
        obtain ⟨c9, h9, h⟩ := mBo_some h
        obtain ⟨c10, h10, h⟩ := mBo_some h
        obtain ⟨c11, h11, h⟩ := mBo_some h
        obtain ⟨c12, h12, h⟩ := mBo_some h
        obtain ⟨c13, h13, h⟩ := mBo_some h
        have a13 := mAdv_trans a7 (mAdv_trans (adv_putsPhase h8) (mAdv_trans (adv_putsPhase h9) (mAdv_trans (adv_putsPhase h10) (mAdv_trans (adv_putsPhase h11) (mAdv_trans (adv_putsPhase h12) (adv_putsPhase h13))))))
        have h0 := mWh_ind (dv := none) (B := B_X6_aPhase_108 v4) (Inv := fun s => mAdv c s.2) (Post := fun r => ∀ p, r = some p → mAdv c p.2) tm_X6_aPhase_108 ?_ ?_ (s := (0, c13)) a13
        · exact h0 p h
        · rintro ⟨x2, a⟩ s2 hi hs
          unfold B_X6_aPhase_108 mBd at hs
          dsimp only at hs hi
          cases hk : P_X6_key a with
          | none => rw [hk] at hs; cases hs
          | some k =>
            rw [hk] at hs
            simp only [mBo] at hs
            split at hs
            next => cases hs
            next =>
              split at hs
              next =>
                cases ha : P_X6_ahead a with
                | none => rw [ha] at hs; cases hs
                | some c6 =>
                  rw [ha] at hs
                  simp only at hs
                  cases hn : P_X6_takesNumber c6 (P_X6_leastOf k) (P_X6_mostOf k) with
                  | none => rw [hn] at hs; cases hs
                  | some p =>
                    rw [hn] at hs
                    simp only at hs
                    split at hs
                    next => cases hs
                    next =>
                      cases hq : P_X6_putsPhase p.2 v4 ((2 : Int32) + k) (p.2 20 20) with
                      | none => rw [hq] at hs; cases hs
                      | some c10 =>
                        rw [hq] at hs
                        have h2 := Sum.inl.inj hs; subst h2
                        exact mAdv_trans hi (mAdv_trans (adv_ahead ha) (mAdv_trans (adv_takesNumber hn).1 (adv_putsPhase hq)))
              next => cases hs
        · rintro ⟨x2, a⟩ r hi hs p hr
          subst hr
          unfold B_X6_aPhase_108 mBd at hs
          dsimp only at hs hi
          cases hk : P_X6_key a with
          | none => rw [hk] at hs; cases hs
          | some k =>
            rw [hk] at hs
            simp only [mBo] at hs
            split at hs
            next =>
              have hs := Sum.inr.inj hs
              cases hq : P_X6_adds a 0 1 with
              | none => rw [hq] at hs; cases hs
              | some c3 =>
                rw [hq] at hs
                have h2 := Option.some.inj hs; subst h2
                exact mAdv_trans hi (adv_adds hq)
            next =>
              split at hs
              next =>
                cases ha : P_X6_ahead a with
                | none => rw [ha] at hs; cases hs
                | some c6 =>
                  rw [ha] at hs
                  simp only at hs
                  cases hn : P_X6_takesNumber c6 (P_X6_leastOf k) (P_X6_mostOf k) with
                  | none => rw [hn] at hs; cases hs
                  | some p9 =>
                    rw [hn] at hs
                    simp only at hs
                    split at hs
                    next =>
                      have h2 := Option.some.inj (Sum.inr.inj hs); subst h2
                      exact mAdv_trans hi (mAdv_trans (adv_ahead ha) (adv_takesNumber hn).1)
                    next =>
                      cases hq : P_X6_putsPhase p9.2 v4 ((2 : Int32) + k) (p9.2 20 20) with
                      | none => rw [hq] at hs; cases hs
                      | some c10 => rw [hq] at hs; cases hs
              next =>
                have hs := Sum.inr.inj hs
                cases hq : P_X6_fails a 5 with
                | none => rw [hq] at hs; cases hs
                | some p12 =>
                  rw [hq] at hs
                  have h2 := Option.some.inj hs; subst h2
                  exact mAdv_trans hi (adv_fails hq).2
theorem adv_aSet {c : mC} {p : Int32 × mC} (h : P_X6_aSet c = some p) : mAdv c p.2 := by
  unfold P_X6_aSet at h
  split at h
  next =>
    obtain ⟨v1, -, h⟩ := mBo_some h
    split at h
    next =>
      obtain ⟨v2, -, h⟩ := mBo_some h
      split at h
      next =>
        obtain ⟨c1, h1, h2⟩ := mBo_some h
        have h3 := Option.some.inj h2; subst h3
        exact (adv_fails h1).2
      next =>
        obtain ⟨c1, h1, h2⟩ := mBo_some h
        have h3 := Option.some.inj h2; subst h3
        exact mAdv_trans (mAdv_part (by decide)) (adv_takes h1)
    next =>
      obtain ⟨c1, h1, h2⟩ := mBo_some h
      have h3 := Option.some.inj h2; subst h3
      exact (adv_fails h1).2
  next =>
    obtain ⟨c1, h1, h2⟩ := mBo_some h
    have h3 := Option.some.inj h2; subst h3
    exact (adv_fails h1).2
theorem adv_takesWord {c : mC} {x : Int32} {p : Int32 × mC} (h : P_X6_takesWord c x = some p) : mAdv c p.2 := by
  unfold P_X6_takesWord at h
  obtain ⟨v1, -, h⟩ := mBo_some h
  split at h
  next =>
    obtain ⟨c1, h1, h2⟩ := mBo_some h
    have h3 := Option.some.inj h2; subst h3
    exact adv_takes h1
  next =>
    obtain ⟨c1, h1, h2⟩ := mBo_some h
    have h3 := Option.some.inj h2; subst h3
    exact (adv_fails h1).2
theorem adv_aGoal {c : mC} {x y : Int32} {p : Int32 × mC} (h : P_X6_aGoal c x y = some p) : mAdv c p.2 := by
  unfold P_X6_aGoal J_X6_aGoal_15 at h
  obtain ⟨p1, h1, h⟩ := mBo_some h
  have a1 := adv_takesWord h1
  split at h
  next => have h2 := Option.some.inj h; subst h2; exact a1
  next =>
    obtain ⟨p2, h2, h⟩ := mBo_some h
    have a2 := mAdv_trans a1 (adv_aSet h2)
    split at h
    next => have h2 := Option.some.inj h; subst h2; exact a2
    next =>
      obtain ⟨c3, h3, h⟩ := mBo_some h
      obtain ⟨p4, h4, h⟩ := mBo_some h
      have a4 := mAdv_trans a2 (mAdv_trans (adv_puts h3) (adv_takesNumber h4).1)
      split at h
      next => have h2 := Option.some.inj h; subst h2; exact a4
      next =>
        obtain ⟨c5, h5, h⟩ := mBo_some h
        have h2 := Option.some.inj h; subst h2
        exact mAdv_trans a4 (adv_puts h5)
theorem adv_aBreak {c : mC} {p : Int32 × mC} (h : P_X6_aBreak c = some p) : mAdv c p.2 := by
  unfold P_X6_aBreak J_X6_aBreak_125 mBd at h
  dsimp only at h
  obtain ⟨c1, h1, h⟩ := mBo_some h
  have a1 := adv_ahead h1
  split at h
  next =>
    split at h
    next =>
      split at h
      next =>
        obtain ⟨c3, h3, h⟩ := mBo_some h
        obtain ⟨p4, h4, h⟩ := mBo_some h
        have a4 := mAdv_trans a1 (mAdv_trans (mAdv_part (by decide)) (mAdv_trans (adv_ahead h3) (adv_aGoal h4)))
        split at h
        next => have h2 := Option.some.inj h; subst h2; exact a4
        next =>
          obtain ⟨p5, h5, h⟩ := mBo_some h
          have a5 := mAdv_trans a4 (adv_aGoal h5)
          split at h
          next => have h2 := Option.some.inj h; subst h2; exact a5
          next =>
            obtain ⟨p6, h6, h⟩ := mBo_some h
            have a6 := mAdv_trans a5 (adv_takesWord h6)
            split at h
            next => have h2 := Option.some.inj h; subst h2; exact a6
            next =>
              obtain ⟨p7, h7, h⟩ := mBo_some h
              have a7 := mAdv_trans a6 (adv_takesNumber h7).1
              split at h
              next => have h2 := Option.some.inj h; subst h2; exact a7
              next =>
                obtain ⟨c8, h8, h⟩ := mBo_some h
                have h2 := Option.some.inj h; subst h2
                exact mAdv_trans a7 (adv_puts h8)
      next =>
        obtain ⟨p2, h2, h⟩ := mBo_some h
        have h3 := Option.some.inj h; subst h3
        exact mAdv_trans a1 (adv_fails h2).2
    next =>
      obtain ⟨p2, h2, h⟩ := mBo_some h
      have h3 := Option.some.inj h; subst h3
      exact mAdv_trans a1 (adv_fails h2).2
  next =>
    obtain ⟨p2, h2, h⟩ := mBo_some h
    have h3 := Option.some.inj h; subst h3
    exact mAdv_trans a1 (adv_fails h2).2
theorem adv_aClock {c : mC} {x : Int32} {p : Int32 × mC} (h : P_X6_aClock c x = some p) : mAdv c p.2 := by
  have f94 : ∀ {a : mC} {s : Int32} {p : Int32 × mC}, J_X6_aClock_94 a s = some p → mAdv a p.2 := by
    intro a s p h
    unfold J_X6_aClock_94 at h
    obtain ⟨c1, h1, h⟩ := mBo_some h
    obtain ⟨p2, h2, h⟩ := mBo_some h
    have h3 := Option.some.inj h; subst h3
    exact mAdv_trans (adv_puts h1) (adv_takes h2)
  have f82 : ∀ {a : mC} {s : Int32} {p : Int32 × mC}, J_X6_aClock_82 a s = some p → mAdv a p.2 := by
    intro a s p h
    unfold J_X6_aClock_82 at h
    split at h
    next => exact f94 h
    next => exact f94 h
  have f76 : ∀ {a : mC} {p : Int32 × mC}, J_X6_aClock_76 a = some p → mAdv a p.2 := by
    intro a p h
    unfold J_X6_aClock_76 at h
    obtain ⟨p2, h2, h⟩ := mBo_some h
    have h3 := Option.some.inj h; subst h3
    exact (adv_fails h2).2
  unfold P_X6_aClock mBd at h
  dsimp only at h
  split at h
  next =>
    obtain ⟨c2, h2, h⟩ := mBo_some h
    have a2 := mAdv_trans (mAdv_part (j := 20) (k := 19) (by decide)) (adv_ahead h2)
    split at h
    next =>
      split at h
      next =>
        split at h
        next => exact mAdv_trans a2 (f76 h)
        next => exact mAdv_trans a2 (f82 h)
      next =>
        split at h
        next => exact mAdv_trans a2 (f82 h)
        next => exact mAdv_trans a2 (f76 h)
    next =>
      obtain ⟨p2, h2, h⟩ := mBo_some h
      have h3 := Option.some.inj h; subst h3
      exact mAdv_trans a2 (adv_fails h2).2
  next =>
    obtain ⟨p2, h2, h⟩ := mBo_some h
    have h3 := Option.some.inj h; subst h3
    exact (adv_fails h2).2
theorem adv_56 {c0 c : mC} {s : Int32} {p : Int32 × mC} (h0 : c0 20 10 = 2) (h : J_X6_aLine_56 c s = some p) (ha : mAdv c0 c) : p.1 = 0 ∨ mEnd p.2 < mEnd c0 := by
  unfold J_X6_aLine_56 at h
  split at h
  next => have h2 := Option.some.inj h; subst h2; exact Or.inl rfl
  next =>
    split at h
    next e =>
      obtain ⟨p1, h1, h⟩ := mBo_some h
      have h2 := Option.some.inj h; subst h2
      have a1 := adv_takes h1
      have e1 : mEnd (mP c 20 18 (c 20 18 + 1)) = mEnd c := by unfold mEnd; rw [mP_n _ _ _ (by decide)]
      have l1 : mEnd p1.2 ≤ mEnd c := by have := a1.1; rw [e1] at this; exact this
      rcases ha.2 with z | z | z
      · rw [e, h0] at z; exact absurd z (by decide)
      · rw [e] at z; exact absurd z (by decide)
      · exact Or.inr (Nat.lt_of_le_of_lt l1 z)
    next =>
      obtain ⟨p1, h1, h⟩ := mBo_some h
      have h2 := Option.some.inj h; subst h2
      exact Or.inl (adv_fails h1).1
theorem adv_aLine {c : mC} {p : Int32 × mC} (h : P_X6_aLine c = some p) : p.1 = 0 ∨ mEnd p.2 < mEnd c := by
  unfold P_X6_aLine J_X6_aLine_30 at h
  obtain ⟨k, hk, h⟩ := mBo_some h
  split at h
  next e =>
    obtain ⟨p1, h1, h⟩ := mBo_some h
    exact adv_56 (key_word hk (by rw [e]; decide)) h (adv_aPhase h1)
  next =>
    split at h
    next e =>
      obtain ⟨p1, h1, h⟩ := mBo_some h
      exact adv_56 (key_word hk (by rw [e]; decide)) h (adv_aClock h1)
    next =>
      split at h
      next e =>
        obtain ⟨p1, h1, h⟩ := mBo_some h
        exact adv_56 (key_word hk (by rw [e]; decide)) h (adv_aClock h1)
      next =>
        split at h
        next e =>
          obtain ⟨p1, h1, h⟩ := mBo_some h
          exact adv_56 (key_word hk (by rw [e]; decide)) h (adv_aBreak h1)
        next =>
          obtain ⟨p1, h1, h⟩ := mBo_some h
          left
          have z := (adv_fails h1).1
          unfold J_X6_aLine_56 at h
          rw [if_pos z] at h
          have h2 := Option.some.inj h; subst h2; rfl
set_option maxRecDepth 100000 in
theorem tm_X6_load_101  : mTm (B_X6_load_101 ) := by
  refine ⟨fun s => match s with | (x2, c) => if x2 = 0 then 0 else mEnd c + 1, fun s s2 h => ?_⟩
  obtain ⟨x2, c⟩ := s
  unfold B_X6_load_101 at h
  dsimp only at h
  split at h
  next => cases h
  next hx =>
    split at h
    next => cases h
    next =>
      cases hp : P_X6_aLine c with
      | none => rw [hp] at h; cases h
      | some p1 =>
        rw [hp] at h
        have h2 := Sum.inl.inj h; subst h2
        dsimp only
        rw [if_neg hx]
        rcases adv_aLine hp with z | z
        · rw [if_pos z]; omega
        · split <;> omega
theorem rl_X6_load_101 (d : Nat) {X : mX} {g : mG} {x1 x2 : Int32} {c : mC} : mEv X (mCall mD X (d + 9)) 1 t_X6_load (mDrop t_X6_load 101) [some (mr 7 20), some (mi x1), some (mi x2)] [] (mU g 7 c) = (wO (wW g 7)) (mWh none B_X6_load_101 (x2, c)) := by
  refine mWh_ev (B := B_X6_load_101) (ev := fun s : (Int32 × mC) => match s with | (x2, c) => mEv X (mCall mD X (d + 9)) 1 t_X6_load (mDrop t_X6_load 101) [some (mr 7 20), some (mi x1), some (mi x2)] [] (mU g 7 c)) (w := (wO (wW g 7))) (tm_X6_load_101) ?_ (x2, c)
  rintro ⟨x2, c⟩
  show mEv X (mCall mD X (d + 9)) 1 t_X6_load (mDrop t_X6_load 101) [some (mr 7 20), some (mi x1), some (mi x2)] [] (mU g 7 c) = wB (fun s : (Int32 × mC) => match s with | (x2, c) => mEv X (mCall mD X (d + 9)) 1 t_X6_load (mDrop t_X6_load 101) [some (mr 7 20), some (mi x1), some (mi x2)] [] (mU g 7 c)) (wO (wW g 7)) (B_X6_load_101  (x2, c))
  refine Eq.trans (e_X6_load_101) ?_
  try simp only [mU_same, mU_mU]
  refine mw_ite (fun h3 => ?_) (fun h3 => ?_)
  · refine mw_inr ?_
    exact rj_X6_load_120 d
  · refine Eq.trans (e_X6_load_105) ?_
    try simp only [mU_same, mU_mU]
    refine mw_ite (fun h2 => ?_) (fun h2 => ?_)
    · refine mw_inr ?_
      exact rj_X6_load_120 d
    · refine Eq.trans (e_X6_load_112) ?_
      try simp only [mU_same, mU_mU]
      refine mw_oY ?_ (rr_X6_aLine d) rfl (fun p1 hp1 => ?_)
      · rfl
      refine Eq.trans (e_X6_load_116) ?_
      try simp only [mU_same, mU_mU]
      exact mw_inl rfl
theorem e_X6_load_30 {X : mX} {call : Nat → List mV → mG → mR} {g : mG} {x1 x2 : Int32} : mEv X call 1 t_X6_load (mDrop t_X6_load 30) [some (mr 7 20), some (mi x1), some (mi x2)] [] g = if (x2 : Int32) < 0 ∨ 700 ≤ (x2 : Int32).toNatClampNeg then none else mEv X call 1 t_X6_load (mDrop t_X6_load 41) [some (mr 7 20), some (mi x1), some (mi x2)] [mi (g 7 22 (x2).toNatClampNeg), mi x2, mr 7 23] g := (mEv_7 _ _ _ _).trans rfl
theorem e_X6_load_41 {X : mX} {call : Nat → List mV → mG → mR} {g : mG} {x1 x2 s1 s2 : Int32} : mEv X call 1 t_X6_load (mDrop t_X6_load 41) [some (mr 7 20), some (mi x1), some (mi x2)] [mi s2, mi s1, mr 7 23] g = if (s1 : Int32) < 0 ∨ 700 ≤ (s1 : Int32).toNatClampNeg then none else mEv X call 1 t_X6_load (mDrop t_X6_load 42) [some (mr 7 20), some (mi x1), some (mi x2)] [] (mU g 7 (mP (g 7) 23 (s1).toNatClampNeg (s2).toInt8.toInt32)) := (mEv_1 _ _ _ _).trans rfl
theorem e_X6_load_42 {X : mX} {call : Nat → List mV → mG → mR} {g : mG} {x1 x2 : Int32} : mEv X call 1 t_X6_load (mDrop t_X6_load 42) [some (mr 7 20), some (mi x1), some (mi x2)] [] g = mEv X call 1 t_X6_load (mDrop t_X6_load 25) [some (mr 7 20), some (mi x1), some (mi (x2 + 1))] [] g := (mEv_2 _ _ _ _).trans rfl
noncomputable def B_X6_load_25 (x1 : Int32) : (Int32 × mC) → (Int32 × mC) ⊕ (Option (Int32 × mC)) := fun s => match s with | (x2, c) => (if x1 ≤ x2 then (.inr (mBo (α := mC) none (P_X6_copies (mP (mP (mP (mP (mP (mP (mP c 20 8 0) 20 14 0) 20 15 (-1)) 20 16 (-1)) 20 18 0) 20 19 0) 20 12 0) 0 288) (fun c1 => (mBo (α := mC) none (P_X6_begins c1) (fun c2 => (mBo (α := mC) none (P_X6_ahead c2) (fun c3 => (mWh none B_X6_load_101 (1, c3))))))))) else (if (x2 : Int32) < 0 ∨ 700 ≤ (x2 : Int32).toNatClampNeg then (.inr none) else (if (x2 : Int32) < 0 ∨ 700 ≤ (x2 : Int32).toNatClampNeg then (.inr none) else (.inl ((x2 + 1), (mP c 23 (x2).toNatClampNeg ((c 22 (x2).toNatClampNeg)).toInt8.toInt32))))))
set_option maxRecDepth 100000 in
theorem tm_X6_load_25 {x1 : Int32} : mTm (B_X6_load_25 x1) := by
  refine ⟨fun s => match s with | (x2, c) => mMx x2, fun s s2 h => ?_⟩
  obtain ⟨x2, c⟩ := s
  simp only [B_X6_load_25, mBd, mBo] at h
  (repeat' split at h) <;> first | (have h2 := Sum.inl.inj h; subst h2; dsimp only; first | exact mtm_max (by assumption) | exact mtm_lt (by assumption)) | (cases h; done)
theorem rl_X6_load_25 (d : Nat) {X : mX} {g : mG} {x1 x2 : Int32} {c : mC} : mEv X (mCall mD X (d + 9)) 1 t_X6_load (mDrop t_X6_load 25) [some (mr 7 20), some (mi x1), some (mi x2)] [] (mU g 7 c) = (wO (wW g 7)) (mWh none (B_X6_load_25 x1) (x2, c)) := by
  refine mWh_ev (B := (B_X6_load_25 x1)) (ev := fun s : (Int32 × mC) => match s with | (x2, c) => mEv X (mCall mD X (d + 9)) 1 t_X6_load (mDrop t_X6_load 25) [some (mr 7 20), some (mi x1), some (mi x2)] [] (mU g 7 c)) (w := (wO (wW g 7))) (tm_X6_load_25) ?_ (x2, c)
  rintro ⟨x2, c⟩
  show mEv X (mCall mD X (d + 9)) 1 t_X6_load (mDrop t_X6_load 25) [some (mr 7 20), some (mi x1), some (mi x2)] [] (mU g 7 c) = wB (fun s : (Int32 × mC) => match s with | (x2, c) => mEv X (mCall mD X (d + 9)) 1 t_X6_load (mDrop t_X6_load 25) [some (mr 7 20), some (mi x1), some (mi x2)] [] (mU g 7 c)) (wO (wW g 7)) (B_X6_load_25 x1 (x2, c))
  refine Eq.trans (e_X6_load_25) ?_
  try simp only [mU_same, mU_mU]
  refine mw_ite (fun h4 => ?_) (fun h4 => ?_)
  · refine mw_inr ?_
    refine Eq.trans (e_X6_load_48) ?_
    try simp only [mU_same, mU_mU]
    refine Eq.trans (e_X6_load_53) ?_
    try simp only [mU_same, mU_mU]
    refine Eq.trans (e_X6_load_58) ?_
    try simp only [mU_same, mU_mU]
    refine Eq.trans (e_X6_load_63) ?_
    try simp only [mU_same, mU_mU]
    refine Eq.trans (e_X6_load_68) ?_
    try simp only [mU_same, mU_mU]
    refine Eq.trans (e_X6_load_73) ?_
    try simp only [mU_same, mU_mU]
    refine Eq.trans (e_X6_load_78) ?_
    try simp only [mU_same, mU_mU]
    refine Eq.trans (e_X6_load_83) ?_
    try simp only [mU_same, mU_mU]
    refine mw_oV ?_ (rr_X6_copies (d + 8)) (fun c1 => ?_)
    · rfl
    refine Eq.trans (e_X6_load_91) ?_
    try simp only [mU_same, mU_mU]
    refine mw_oV ?_ (rr_X6_begins (d + 7)) (fun c2 => ?_)
    · rfl
    refine Eq.trans (e_X6_load_95) ?_
    try simp only [mU_same, mU_mU]
    refine mw_oV ?_ (rr_X6_ahead (d + 7)) (fun c3 => ?_)
    · rfl
    refine Eq.trans (e_X6_load_99) ?_
    try simp only [mU_same, mU_mU]
    exact rl_X6_load_101 d
  · refine Eq.trans (e_X6_load_30) ?_
    try simp only [mU_same, mU_mU]
    refine mw_ite (fun _ => rfl) (fun _ => ?_)
    refine Eq.trans (e_X6_load_41) ?_
    try simp only [mU_same, mU_mU]
    refine mw_ite (fun _ => rfl) (fun _ => ?_)
    refine Eq.trans (e_X6_load_42) ?_
    try simp only [mU_same, mU_mU]
    exact mw_inl rfl
noncomputable def P_X6_load (c : mC) (x1 : Int32) : (Option (Int32 × mC)) := (mBd (α := Int32) (P_X6_isFrom x1 0 (c 20 8)) (fun v1 => (if v1 = 0 then (mBo (α := Int32 × mC) none (P_X6_refuse c 1) (fun p2 => (some (p2.1, p2.2)))) else (mWh none (B_X6_load_25 x1) (0, (mP c 20 9 x1))))))
theorem rr_X6_load (d : Nat) {X : mX} {g : mG} {x1 : Int32} {c : mC} : mCall mD X (d + 10) 231 [mr 7 20, mi x1] (mU g 7 c) = (wO (wW g 7)) (P_X6_load c x1) := by
  refine Eq.trans (mCall_eq (d := d + 9) rfl) ?_
  show mEv X (mCall mD X (d + 9)) 1 t_X6_load (mDrop t_X6_load 0) [some (mr 7 20), some (mi x1), none] [] (mU g 7 c) = _
  refine Eq.trans (e_X6_load_0) ?_
  try simp only [mU_same, mU_mU]
  refine mw_cZ (rr_X6_isFrom (d + 8)) rfl (fun v1 hv1 => ?_)
  refine Eq.trans (e_X6_load_9) ?_
  try simp only [mU_same, mU_mU]
  refine mw_ite (fun h3 => ?_) (fun h3 => ?_)
  · refine Eq.trans (e_X6_load_12) ?_
    try simp only [mU_same, mU_mU]
    refine mw_oW ?_ (rr_X6_refuse (d + 8)) (fun p2 => ?_)
    · rfl
    refine Eq.trans (e_X6_load_17) ?_
    try simp only [mU_same, mU_mU]
    all_goals rfl
  · refine Eq.trans (e_X6_load_18) ?_
    try simp only [mU_same, mU_mU]
    refine Eq.trans (e_X6_load_23) ?_
    try simp only [mU_same, mU_mU]
    exact rl_X6_load_25 d
theorem rr_X6_load_at (d : Nat) {X : mX} {g : mG} {x1 : Int32} : mCall mD X (d + 10) 231 [mr 7 20, mi x1] g = wO (wW g 7) (P_X6_load (g 7) x1) := by
  have h := rr_X6_load (X := X) d (g := g) (c := g 7) (x1 := x1)
  rw [mU_self] at h
  exact h
