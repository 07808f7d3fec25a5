theorem e_X4_takeFrom_0 {X : mX} {call : Nat → List mV → mG → mR} {g : mG} {i r o : Nat} (h_r : r = 8 ∨ r = 9) : mEv X call 0 t_X4_takeFrom (mDrop t_X4_takeFrom 0) [some (mr i r), some (mr o r)] [] g = mEv X call 0 t_X4_takeFrom (mDrop t_X4_takeFrom 8) [some (mr i r), some (mr o r)] [] (mU g i (mP (g i) r 1 (g o r 1))) := by
  rcases h_r with rfl | rfl <;> exact (mEv_4 _ _ _ _).trans rfl
theorem e_X4_takeFrom_8 {X : mX} {call : Nat → List mV → mG → mR} {g : mG} {i r o : Nat} (h_r : r = 8 ∨ r = 9) : mEv X call 0 t_X4_takeFrom (mDrop t_X4_takeFrom 8) [some (mr i r), some (mr o r)] [] g = mEv X call 0 t_X4_takeFrom (mDrop t_X4_takeFrom 16) [some (mr i r), some (mr o r)] [] (mU g i (mP (g i) r 2 (g o r 2))) := by
  rcases h_r with rfl | rfl <;> exact (mEv_4 _ _ _ _).trans rfl
theorem e_X4_takeFrom_16 {X : mX} {call : Nat → List mV → mG → mR} {g : mG} {i r o : Nat} (h_r : r = 8 ∨ r = 9) : mEv X call 0 t_X4_takeFrom (mDrop t_X4_takeFrom 16) [some (mr i r), some (mr o r)] [] g = mEv X call 0 t_X4_takeFrom (mDrop t_X4_takeFrom 24) [some (mr i r), some (mr o r)] [] (mU g i (mP (g i) r 3 (g o r 3))) := by
  rcases h_r with rfl | rfl <;> exact (mEv_4 _ _ _ _).trans rfl
theorem e_X4_takeFrom_24 {X : mX} {call : Nat → List mV → mG → mR} {g : mG} {i r o : Nat} (h_r : r = 8 ∨ r = 9) : mEv X call 0 t_X4_takeFrom (mDrop t_X4_takeFrom 24) [some (mr i r), some (mr o r)] [] g = mEv X call 0 t_X4_takeFrom (mDrop t_X4_takeFrom 32) [some (mr i r), some (mr o r)] [] (mU g i (mP (g i) r 4 (g o r 4))) := by
  rcases h_r with rfl | rfl <;> exact (mEv_4 _ _ _ _).trans rfl
theorem e_X4_takeFrom_32 {X : mX} {call : Nat → List mV → mG → mR} {g : mG} {i r o : Nat} (h_r : r = 8 ∨ r = 9) : mEv X call 0 t_X4_takeFrom (mDrop t_X4_takeFrom 32) [some (mr i r), some (mr o r)] [] g = mEv X call 0 t_X4_takeFrom (mDrop t_X4_takeFrom 40) [some (mr i r), some (mr o r)] [] (mU g i (mP (g i) r 5 (g o r 5))) := by
  rcases h_r with rfl | rfl <;> exact (mEv_4 _ _ _ _).trans rfl
theorem e_X4_takeFrom_40 {X : mX} {call : Nat → List mV → mG → mR} {g : mG} {i r o : Nat} (h_r : r = 8 ∨ r = 9) : mEv X call 0 t_X4_takeFrom (mDrop t_X4_takeFrom 40) [some (mr i r), some (mr o r)] [] g = mEv X call 0 t_X4_takeFrom (mDrop t_X4_takeFrom 48) [some (mr i r), some (mr o r)] [] (mU g i (mP (g i) r 6 (g o r 6))) := by
  rcases h_r with rfl | rfl <;> exact (mEv_4 _ _ _ _).trans rfl
theorem e_X4_takeFrom_48 {X : mX} {call : Nat → List mV → mG → mR} {g : mG} {i r o : Nat} (h_r : r = 8 ∨ r = 9) : mEv X call 0 t_X4_takeFrom (mDrop t_X4_takeFrom 48) [some (mr i r), some (mr o r)] [] g = mEv X call 0 t_X4_takeFrom (mDrop t_X4_takeFrom 56) [some (mr i r), some (mr o r)] [] (mU g i (mP (g i) r 7 (g o r 7))) := by
  rcases h_r with rfl | rfl <;> exact (mEv_4 _ _ _ _).trans rfl
theorem e_X4_takeFrom_56 {X : mX} {call : Nat → List mV → mG → mR} {g : mG} {i r o : Nat} (h_r : r = 8 ∨ r = 9) : mEv X call 0 t_X4_takeFrom (mDrop t_X4_takeFrom 56) [some (mr i r), some (mr o r)] [] g = mEv X call 0 t_X4_takeFrom (mDrop t_X4_takeFrom 64) [some (mr i r), some (mr o r)] [] (mU g i (mP (g i) r 8 (g o r 8))) := by
  rcases h_r with rfl | rfl <;> exact (mEv_4 _ _ _ _).trans rfl
theorem e_X4_takeFrom_64 {X : mX} {call : Nat → List mV → mG → mR} {g : mG} {i r o : Nat} (h_r : r = 8 ∨ r = 9) : mEv X call 0 t_X4_takeFrom (mDrop t_X4_takeFrom 64) [some (mr i r), some (mr o r)] [] g = some (none, g) := by
  rcases h_r with rfl | rfl <;> exact (mEv_1 _ _ _ _).trans rfl
noncomputable def P_X4_takeFrom (r : Nat) (c : mC) (co : mC) : (mC) := (mP (mP (mP (mP (mP (mP (mP (mP c r 1 (co r 1)) r 2 (co r 2)) r 3 (co r 3)) r 4 (co r 4)) r 5 (co r 5)) r 6 (co r 6)) r 7 (co r 7)) r 8 (co r 8))
theorem rr_X4_takeFrom (d : Nat) {X : mX} {g : mG} {i r o : Nat} (h_r : r = 8 ∨ r = 9) (h_o : o ≠ i) {c : mC} : mCall mD X (d + 1) 89 [mr i r, mr o r] (mU g i c) = (wV g i) (P_X4_takeFrom r c (g o)) := by
  refine Eq.trans (mCall_eq (d := d + 0) rfl) ?_
  show mEv X (mCall mD X (d + 0)) 0 t_X4_takeFrom (mDrop t_X4_takeFrom 0) [some (mr i r), some (mr o r)] [] (mU g i c) = _
  refine Eq.trans (e_X4_takeFrom_0 h_r) ?_
  try simp only [mU_same, mU_mU, mU_ne _ _ h_o]
  refine Eq.trans (e_X4_takeFrom_8 h_r) ?_
  try simp only [mU_same, mU_mU, mU_ne _ _ h_o]
  refine Eq.trans (e_X4_takeFrom_16 h_r) ?_
  try simp only [mU_same, mU_mU, mU_ne _ _ h_o]
  refine Eq.trans (e_X4_takeFrom_24 h_r) ?_
  try simp only [mU_same, mU_mU, mU_ne _ _ h_o]
  refine Eq.trans (e_X4_takeFrom_32 h_r) ?_
  try simp only [mU_same, mU_mU, mU_ne _ _ h_o]
  refine Eq.trans (e_X4_takeFrom_40 h_r) ?_
  try simp only [mU_same, mU_mU, mU_ne _ _ h_o]
  refine Eq.trans (e_X4_takeFrom_48 h_r) ?_
  try simp only [mU_same, mU_mU, mU_ne _ _ h_o]
  refine Eq.trans (e_X4_takeFrom_56 h_r) ?_
  try simp only [mU_same, mU_mU, mU_ne _ _ h_o]
  refine Eq.trans (e_X4_takeFrom_64 h_r) ?_
  try simp only [mU_same, mU_mU, mU_ne _ _ h_o]
  all_goals rfl
theorem rr_X4_takeFrom_at (d : Nat) {X : mX} {g : mG} {i r o : Nat} (h_r : r = 8 ∨ r = 9) (h_o : o ≠ i) : mCall mD X (d + 1) 89 [mr i r, mr o r] g = some (none, mU g i (P_X4_takeFrom r (g i) (g o))) := by
  have h := rr_X4_takeFrom (X := X) d (g := g) (c := g i) h_r h_o (i := i) (o := o)
  rw [mU_self] at h
  exact h
theorem e_X1_takeFrom_0 {X : mX} {call : Nat → List mV → mG → mR} {g : mG} {i o : Nat} : mEv X call 0 t_X1_takeFrom (mDrop t_X1_takeFrom 0) [some (mr i 10), some (mr o 10)] [] g = mEv X call 0 t_X1_takeFrom (mDrop t_X1_takeFrom 8) [some (mr i 10), some (mr o 10)] [] (mU g i (mP (g i) 10 3 (g o 10 3))) := (mEv_4 _ _ _ _).trans rfl
theorem e_X1_takeFrom_8 {X : mX} {call : Nat → List mV → mG → mR} {g : mG} {i o : Nat} : mEv X call 0 t_X1_takeFrom (mDrop t_X1_takeFrom 8) [some (mr i 10), some (mr o 10)] [] g = mEv X call 0 t_X1_takeFrom (mDrop t_X1_takeFrom 16) [some (mr i 10), some (mr o 10)] [] (mU g i (mP (g i) 10 4 (g o 10 4))) := (mEv_4 _ _ _ _).trans rfl
theorem e_X1_takeFrom_16 {X : mX} {call : Nat → List mV → mG → mR} {g : mG} {i o : Nat} : mEv X call 0 t_X1_takeFrom (mDrop t_X1_takeFrom 16) [some (mr i 10), some (mr o 10)] [] g = mAns (mEv X call 0 t_X1_takeFrom) (mDrop t_X1_takeFrom 27) [some (mr i 10), some (mr o 10)] [] (call 144 [mr o 11, mr i 11] g) := (mEv_5 _ _ _ _).trans rfl
theorem e_X1_takeFrom_27 {X : mX} {call : Nat → List mV → mG → mR} {g : mG} {i o : Nat} : mEv X call 0 t_X1_takeFrom (mDrop t_X1_takeFrom 27) [some (mr i 10), some (mr o 10)] [] g = mAns (mEv X call 0 t_X1_takeFrom) (mDrop t_X1_takeFrom 38) [some (mr i 10), some (mr o 10)] [] (call 144 [mr o 12, mr i 12] g) := (mEv_5 _ _ _ _).trans rfl
theorem e_X1_takeFrom_38 {X : mX} {call : Nat → List mV → mG → mR} {g : mG} {i o : Nat} : mEv X call 0 t_X1_takeFrom (mDrop t_X1_takeFrom 38) [some (mr i 10), some (mr o 10)] [] g = mAns (mEv X call 0 t_X1_takeFrom) (mDrop t_X1_takeFrom 49) [some (mr i 10), some (mr o 10)] [] (call 144 [mr o 13, mr i 13] g) := (mEv_5 _ _ _ _).trans rfl
theorem e_X1_takeFrom_49 {X : mX} {call : Nat → List mV → mG → mR} {g : mG} {i o : Nat} : mEv X call 0 t_X1_takeFrom (mDrop t_X1_takeFrom 49) [some (mr i 10), some (mr o 10)] [] g = some (none, g) := (mEv_1 _ _ _ _).trans rfl
noncomputable def P_X1_takeFrom (c : mC) (co : mC) : (mC) := (mBd (α := mC) (mCp 32 (mP (mP c 10 3 (co 10 3)) 10 4 (co 10 4)) 11 (co 11)) (fun c1 => (mBd (α := mC) (mCp 32 c1 12 (co 12)) (fun c2 => (mBd (α := mC) (mCp 32 c2 13 (co 13)) (fun c3 => c3))))))
theorem rr_X1_takeFrom (d : Nat) {X : mX} {g : mG} {i o : Nat} (h_o : o ≠ i) {c : mC} : mCall mD X (d + 3) 48 [mr i 10, mr o 10] (mU g i c) = (wV g i) (P_X1_takeFrom c (g o)) := by
  refine Eq.trans (mCall_eq (d := d + 2) rfl) ?_
  show mEv X (mCall mD X (d + 2)) 0 t_X1_takeFrom (mDrop t_X1_takeFrom 0) [some (mr i 10), some (mr o 10)] [] (mU g i c) = _
  refine Eq.trans (e_X1_takeFrom_0) ?_
  try simp only [mU_same, mU_mU, mU_ne _ _ h_o]
  refine Eq.trans (e_X1_takeFrom_8) ?_
  try simp only [mU_same, mU_mU, mU_ne _ _ h_o]
  refine Eq.trans (e_X1_takeFrom_16) ?_
  try simp only [mU_same, mU_mU, mU_ne _ _ h_o]
  refine mw_cV (rr_X5_copyRow_11 d h_o) (fun c1 => ?_)
  refine Eq.trans (e_X1_takeFrom_27) ?_
  try simp only [mU_same, mU_mU, mU_ne _ _ h_o]
  refine mw_cV (rr_X5_copyRow_12 d h_o) (fun c2 => ?_)
  refine Eq.trans (e_X1_takeFrom_38) ?_
  try simp only [mU_same, mU_mU, mU_ne _ _ h_o]
  refine mw_cV (rr_X5_copyRow_13 d h_o) (fun c3 => ?_)
  refine Eq.trans (e_X1_takeFrom_49) ?_
  try simp only [mU_same, mU_mU, mU_ne _ _ h_o]
  all_goals rfl
theorem rr_X1_takeFrom_at (d : Nat) {X : mX} {g : mG} {i o : Nat} (h_o : o ≠ i) : mCall mD X (d + 3) 48 [mr i 10, mr o 10] g = some (none, mU g i (P_X1_takeFrom (g i) (g o))) := by
  have h := rr_X1_takeFrom (X := X) d (g := g) (c := g i) h_o (i := i) (o := o)
  rw [mU_self] at h
  exact h
theorem e_X1_wipe_0 {X : mX} {call : Nat → List mV → mG → mR} {g : mG} {i : Nat} : mEv X call 0 t_X1_wipe (mDrop t_X1_wipe 0) [some (mr i 10)] [] g = mEv X call 0 t_X1_wipe (mDrop t_X1_wipe 5) [some (mr i 10)] [] (mU g i (mP (g i) 10 3 0)) := (mEv_3 _ _ _ _).trans rfl
theorem e_X1_wipe_5 {X : mX} {call : Nat → List mV → mG → mR} {g : mG} {i : Nat} : mEv X call 0 t_X1_wipe (mDrop t_X1_wipe 5) [some (mr i 10)] [] g = mEv X call 0 t_X1_wipe (mDrop t_X1_wipe 10) [some (mr i 10)] [] (mU g i (mP (g i) 10 4 0)) := (mEv_3 _ _ _ _).trans rfl
theorem e_X1_wipe_10 {X : mX} {call : Nat → List mV → mG → mR} {g : mG} {i : Nat} : mEv X call 0 t_X1_wipe (mDrop t_X1_wipe 10) [some (mr i 10)] [] g = some (none, g) := (mEv_1 _ _ _ _).trans rfl
noncomputable def P_X1_wipe (c : mC) : (mC) := (mP (mP c 10 3 0) 10 4 0)
theorem rr_X1_wipe (d : Nat) {X : mX} {g : mG} {i : Nat} {c : mC} : mCall mD X (d + 1) 47 [mr i 10] (mU g i c) = (wV g i) (P_X1_wipe c) := by
  refine Eq.trans (mCall_eq (d := d + 0) rfl) ?_
  show mEv X (mCall mD X (d + 0)) 0 t_X1_wipe (mDrop t_X1_wipe 0) [some (mr i 10)] [] (mU g i c) = _
  refine Eq.trans (e_X1_wipe_0) ?_
  try simp only [mU_same, mU_mU]
  refine Eq.trans (e_X1_wipe_5) ?_
  try simp only [mU_same, mU_mU]
  refine Eq.trans (e_X1_wipe_10) ?_
  try simp only [mU_same, mU_mU]
  all_goals rfl
theorem rr_X1_wipe_at (d : Nat) {X : mX} {g : mG} {i : Nat} : mCall mD X (d + 1) 47 [mr i 10] g = some (none, mU g i (P_X1_wipe (g i))) := by
  have h := rr_X1_wipe (X := X) d (g := g) (c := g i) (i := i)
  rw [mU_self] at h
  exact h
theorem e_X5_firstIn_0 {X : mX} {call : Nat → List mV → mG → mR} {g : mG} {x0 : Int32} : mEv X call 1 t_X5_firstIn (mDrop t_X5_firstIn 0) [some (mi x0), none] [] g = mEv X call 1 t_X5_firstIn (mDrop t_X5_firstIn 2) [some (mi x0), some (mi 0)] [] g := (mEv_2 _ _ _ _).trans rfl
theorem e_X5_firstIn_2 {X : mX} {call : Nat → List mV → mG → mR} {g : mG} {x0 x1 : Int32} : mEv X call 1 t_X5_firstIn (mDrop t_X5_firstIn 2) [some (mi x0), some (mi x1)] [] g = if 8 ≤ x1 then mEv X call 1 t_X5_firstIn (mDrop t_X5_firstIn 24) [some (mi x0), some (mi x1)] [] g else mEv X call 1 t_X5_firstIn (mDrop t_X5_firstIn 8) [some (mi x0), some (mi x1)] [] g := (mEv_3 _ _ _ _).trans rfl
theorem e_X5_firstIn_24 {X : mX} {call : Nat → List mV → mG → mR} {g : mG} {x0 x1 : Int32} : mEv X call 1 t_X5_firstIn (mDrop t_X5_firstIn 24) [some (mi x0), some (mi x1)] [] g = some (some (mi (-1)), g) := (mEv_2 _ _ _ _).trans rfl
theorem e_X5_firstIn_8 {X : mX} {call : Nat → List mV → mG → mR} {g : mG} {x0 x1 : Int32} : mEv X call 1 t_X5_firstIn (mDrop t_X5_firstIn 8) [some (mi x0), some (mi x1)] [] g = if ((x0 >>> (x1 &&& 31)) &&& 1) = 0 then mEv X call 1 t_X5_firstIn (mDrop t_X5_firstIn 18) [some (mi x0), some (mi x1)] [] g else mEv X call 1 t_X5_firstIn (mDrop t_X5_firstIn 16) [some (mi x0), some (mi x1)] [] g := (mEv_6 _ _ _ _).trans rfl
theorem e_X5_firstIn_18 {X : mX} {call : Nat → List mV → mG → mR} {g : mG} {x0 x1 : Int32} : mEv X call 1 t_X5_firstIn (mDrop t_X5_firstIn 18) [some (mi x0), some (mi x1)] [] g = mEv X call 1 t_X5_firstIn (mDrop t_X5_firstIn 2) [some (mi x0), some (mi (x1 + 1))] [] g := (mEv_2 _ _ _ _).trans rfl
theorem e_X5_firstIn_16 {X : mX} {call : Nat → List mV → mG → mR} {g : mG} {x0 x1 : Int32} : mEv X call 1 t_X5_firstIn (mDrop t_X5_firstIn 16) [some (mi x0), some (mi x1)] [] g = some (some (mi x1), g) := (mEv_2 _ _ _ _).trans rfl
noncomputable def B_X5_firstIn_2 (x0 : Int32) : (Int32) → (Int32) ⊕ (Int32) := fun x1 => (if 8 ≤ x1 then (.inr (-1)) else (if ((x0 >>> (x1 &&& 31)) &&& 1) = 0 then (.inl (x1 + 1)) else (.inr x1)))
set_option maxRecDepth 100000 in
theorem tm_X5_firstIn_2 {x0 : Int32} : mTm (B_X5_firstIn_2 x0) := by
  refine ⟨fun x1 => ((8 : Int32).toInt - (x1 : Int32).toInt).toNat, fun s s2 h => ?_⟩
  skip
  simp only [B_X5_firstIn_2, mBd] at h
  (repeat' split at h) <;> first | (have h2 := Sum.inl.inj h; subst h2; dsimp only; exact mtm_up (by assumption)) | (cases h; done)
theorem rl_X5_firstIn_2 (d : Nat) {X : mX} {g : mG} {x0 x1 : Int32} : mEv X (mCall mD X (d + 0)) 1 t_X5_firstIn (mDrop t_X5_firstIn 2) [some (mi x0), some (mi x1)] [] g = (wN g) (mWh 0 (B_X5_firstIn_2 x0) x1) := by
  refine mWh_ev (B := (B_X5_firstIn_2 x0)) (ev := fun x1 : (Int32) => mEv X (mCall mD X (d + 0)) 1 t_X5_firstIn (mDrop t_X5_firstIn 2) [some (mi x0), some (mi x1)] [] g) (w := (wN g)) (tm_X5_firstIn_2) ?_ x1
  intro x1
  show mEv X (mCall mD X (d + 0)) 1 t_X5_firstIn (mDrop t_X5_firstIn 2) [some (mi x0), some (mi x1)] [] g = wB (fun x1 : (Int32) => mEv X (mCall mD X (d + 0)) 1 t_X5_firstIn (mDrop t_X5_firstIn 2) [some (mi x0), some (mi x1)] [] g) (wN g) (B_X5_firstIn_2 x0 x1)
  refine Eq.trans (e_X5_firstIn_2) ?_
  refine mw_ite (fun h2 => ?_) (fun h2 => ?_)
  · refine mw_inr ?_
    refine Eq.trans (e_X5_firstIn_24) ?_
    all_goals rfl
  · refine Eq.trans (e_X5_firstIn_8) ?_
    refine mw_ite (fun h1 => ?_) (fun h1 => ?_)
    · refine Eq.trans (e_X5_firstIn_18) ?_
      exact mw_inl rfl
    · refine mw_inr ?_
      refine Eq.trans (e_X5_firstIn_16) ?_
      all_goals rfl
noncomputable def P_X5_firstIn (x0 : Int32) : (Int32) := (mWh 0 (B_X5_firstIn_2 x0) 0)
theorem rr_X5_firstIn (d : Nat) {X : mX} {g : mG} {x0 : Int32} : mCall mD X (d + 1) 150 [mi x0] g = (wN g) (P_X5_firstIn x0) := by
  refine Eq.trans (mCall_eq (d := d + 0) rfl) ?_
  show mEv X (mCall mD X (d + 0)) 1 t_X5_firstIn (mDrop t_X5_firstIn 0) [some (mi x0), none] [] g = _
  refine Eq.trans (e_X5_firstIn_0) ?_
  exact rl_X5_firstIn_2 d
theorem e_X4_waitFor_0 {X : mX} {call : Nat → List mV → mG → mR} {g : mG} {x1 : Int32} {i r : Nat} (h_r : r = 8 ∨ r = 9) : mEv X call 0 t_X4_waitFor (mDrop t_X4_waitFor 0) [some (mr i r), some (mi x1)] [] g = mEv X call 0 t_X4_waitFor (mDrop t_X4_waitFor 5) [some (mr i r), some (mi x1)] [] (mU g i (mP (g i) r 1 (-1))) := by
  rcases h_r with rfl | rfl <;> exact (mEv_3 _ _ _ _).trans rfl
theorem e_X4_waitFor_5 {X : mX} {call : Nat → List mV → mG → mR} {g : mG} {x1 : Int32} {i r : Nat} (h_r : r = 8 ∨ r = 9) : mEv X call 0 t_X4_waitFor (mDrop t_X4_waitFor 5) [some (mr i r), some (mi x1)] [] g = mEv X call 0 t_X4_waitFor (mDrop t_X4_waitFor 10) [some (mr i r), some (mi x1)] [] (mU g i (mP (g i) r 2 3)) := by
  rcases h_r with rfl | rfl <;> exact (mEv_3 _ _ _ _).trans rfl
theorem e_X4_waitFor_10 {X : mX} {call : Nat → List mV → mG → mR} {g : mG} {x1 : Int32} {i r : Nat} (h_r : r = 8 ∨ r = 9) : mEv X call 0 t_X4_waitFor (mDrop t_X4_waitFor 10) [some (mr i r), some (mi x1)] [] g = mEv X call 0 t_X4_waitFor (mDrop t_X4_waitFor 15) [some (mr i r), some (mi x1)] [] (mU g i (mP (g i) r 3 0)) := by
  rcases h_r with rfl | rfl <;> exact (mEv_3 _ _ _ _).trans rfl
theorem e_X4_waitFor_15 {X : mX} {call : Nat → List mV → mG → mR} {g : mG} {x1 : Int32} {i r : Nat} (h_r : r = 8 ∨ r = 9) : mEv X call 0 t_X4_waitFor (mDrop t_X4_waitFor 15) [some (mr i r), some (mi x1)] [] g = mEv X call 0 t_X4_waitFor (mDrop t_X4_waitFor 20) [some (mr i r), some (mi x1)] [] (mU g i (mP (g i) r 4 x1)) := by
  rcases h_r with rfl | rfl <;> exact (mEv_3 _ _ _ _).trans rfl
theorem e_X4_waitFor_20 {X : mX} {call : Nat → List mV → mG → mR} {g : mG} {x1 : Int32} {i r : Nat} (h_r : r = 8 ∨ r = 9) : mEv X call 0 t_X4_waitFor (mDrop t_X4_waitFor 20) [some (mr i r), some (mi x1)] [] g = some (none, g) := by
  rcases h_r with rfl | rfl <;> exact (mEv_1 _ _ _ _).trans rfl
noncomputable def P_X4_waitFor (r : Nat) (c : mC) (x1 : Int32) : (mC) := (mP (mP (mP (mP c r 1 (-1)) r 2 3) r 3 0) r 4 x1)
theorem rr_X4_waitFor (d : Nat) {X : mX} {g : mG} {i r : Nat} (h_r : r = 8 ∨ r = 9) {x1 : Int32} {c : mC} : mCall mD X (d + 1) 92 [mr i r, mi x1] (mU g i c) = (wV g i) (P_X4_waitFor r c x1) := by
  refine Eq.trans (mCall_eq (d := d + 0) rfl) ?_
  show mEv X (mCall mD X (d + 0)) 0 t_X4_waitFor (mDrop t_X4_waitFor 0) [some (mr i r), some (mi x1)] [] (mU g i c) = _
  refine Eq.trans (e_X4_waitFor_0 h_r) ?_
  try simp only [mU_same, mU_mU]
  refine Eq.trans (e_X4_waitFor_5 h_r) ?_
  try simp only [mU_same, mU_mU]
  refine Eq.trans (e_X4_waitFor_10 h_r) ?_
  try simp only [mU_same, mU_mU]
  refine Eq.trans (e_X4_waitFor_15 h_r) ?_
  try simp only [mU_same, mU_mU]
  refine Eq.trans (e_X4_waitFor_20 h_r) ?_
  try simp only [mU_same, mU_mU]
  all_goals rfl
theorem rr_X4_waitFor_at (d : Nat) {X : mX} {g : mG} {i r : Nat} (h_r : r = 8 ∨ r = 9) {x1 : Int32} : mCall mD X (d + 1) 92 [mr i r, mi x1] g = some (none, mU g i (P_X4_waitFor r (g i) x1)) := by
  have h := rr_X4_waitFor (X := X) d (g := g) (c := g i) h_r (x1 := x1) (i := i)
  rw [mU_self] at h
  exact h
theorem e_X4_isGreen_0 {X : mX} {call : Nat → List mV → mG → mR} {g : mG} {i r : Nat} (h_r : r = 8 ∨ r = 9) : mEv X call 2 t_X4_isGreen (mDrop t_X4_isGreen 0) [some (mr i r)] [] g = if (g i r 1) = (-1) then mEv X call 2 t_X4_isGreen (mDrop t_X4_isGreen 19) [some (mr i r)] [] g else mEv X call 2 t_X4_isGreen (mDrop t_X4_isGreen 8) [some (mr i r)] [] g := by
  rcases h_r with rfl | rfl <;> exact (mEv_4 _ _ _ _).trans rfl
theorem e_X4_isGreen_19 {X : mX} {call : Nat → List mV → mG → mR} {g : mG} {i r : Nat} (h_r : r = 8 ∨ r = 9) : mEv X call 2 t_X4_isGreen (mDrop t_X4_isGreen 19) [some (mr i r)] [] g = mEv X call 2 t_X4_isGreen (mDrop t_X4_isGreen 20) [some (mr i r)] [mi 0] g := by
  rcases h_r with rfl | rfl <;> exact (mEv_1 _ _ _ _).trans rfl
theorem e_X4_isGreen_20 {X : mX} {call : Nat → List mV → mG → mR} {g : mG} {s0 : Int32} {i r : Nat} (h_r : r = 8 ∨ r = 9) : mEv X call 2 t_X4_isGreen (mDrop t_X4_isGreen 20) [some (mr i r)] [mi s0] g = if (s0 : Int32) &&& 1 = s0 then some (some (mi s0), g) else none := by
  rcases h_r with rfl | rfl <;> exact (mEv_1 _ _ _ _).trans rfl
noncomputable def J_X4_isGreen_19 (r : Nat) (c : mC) : (Int32) := 0
theorem rj_X4_isGreen_19 (d : Nat) {X : mX} {g : mG} {i r : Nat} (h_r : r = 8 ∨ r = 9) {c : mC} : mEv X (mCall mD X (d + 0)) 2 t_X4_isGreen (mDrop t_X4_isGreen 19) [some (mr i r)] [] (mU g i c) = (wI g i c) (J_X4_isGreen_19 r c) := by
  refine Eq.trans (e_X4_isGreen_19 h_r) ?_
  try simp only [mU_same, mU_mU]
  refine Eq.trans (e_X4_isGreen_20 h_r) ?_
  try simp only [mU_same, mU_mU]
  exact if_pos (by decide)
theorem e_X4_isGreen_8 {X : mX} {call : Nat → List mV → mG → mR} {g : mG} {i r : Nat} (h_r : r = 8 ∨ r = 9) : mEv X call 2 t_X4_isGreen (mDrop t_X4_isGreen 8) [some (mr i r)] [] g = if (g i r 2) = 0 then mEv X call 2 t_X4_isGreen (mDrop t_X4_isGreen 15) [some (mr i r)] [] g else mEv X call 2 t_X4_isGreen (mDrop t_X4_isGreen 19) [some (mr i r)] [] g := by
  rcases h_r with rfl | rfl <;> exact (mEv_3 _ _ _ _).trans rfl
theorem e_X4_isGreen_15 {X : mX} {call : Nat → List mV → mG → mR} {g : mG} {i r : Nat} (h_r : r = 8 ∨ r = 9) : mEv X call 2 t_X4_isGreen (mDrop t_X4_isGreen 15) [some (mr i r)] [] g = mEv X call 2 t_X4_isGreen (mDrop t_X4_isGreen 20) [some (mr i r)] [mi 1] g := by
  rcases h_r with rfl | rfl <;> exact (mEv_2 _ _ _ _).trans rfl
noncomputable def P_X4_isGreen (r : Nat) (c : mC) : (Int32) := (if (c r 1) = (-1) then (J_X4_isGreen_19 r c) else (if (c r 2) = 0 then 1 else (J_X4_isGreen_19 r c)))
theorem rr_X4_isGreen (d : Nat) {X : mX} {g : mG} {i r : Nat} (h_r : r = 8 ∨ r = 9) {c : mC} : mCall mD X (d + 1) 91 [mr i r] (mU g i c) = (wI g i c) (P_X4_isGreen r c) := by
  refine Eq.trans (mCall_eq (d := d + 0) rfl) ?_
  show mEv X (mCall mD X (d + 0)) 2 t_X4_isGreen (mDrop t_X4_isGreen 0) [some (mr i r)] [] (mU g i c) = _
  refine Eq.trans (e_X4_isGreen_0 h_r) ?_
  try simp only [mU_same, mU_mU]
  refine mw_ite (fun h2 => ?_) (fun h2 => ?_)
  · exact rj_X4_isGreen_19 d h_r
  · refine Eq.trans (e_X4_isGreen_8 h_r) ?_
    try simp only [mU_same, mU_mU]
    refine mw_ite (fun h1 => ?_) (fun h1 => ?_)
    · refine Eq.trans (e_X4_isGreen_15 h_r) ?_
      try simp only [mU_same, mU_mU]
      refine Eq.trans (e_X4_isGreen_20 h_r) ?_
      try simp only [mU_same, mU_mU]
      exact if_pos (by decide)
    · exact rj_X4_isGreen_19 d h_r
theorem rr_X4_isGreen_at (d : Nat) {X : mX} {g : mG} {i r : Nat} (h_r : r = 8 ∨ r = 9) : mCall mD X (d + 1) 91 [mr i r] g = wN g (P_X4_isGreen r (g i)) := by
  have h := rr_X4_isGreen (X := X) d (g := g) (c := g i) h_r (i := i)
  rw [mU_self] at h
  exact h.trans (wI_self _ _ _)
theorem e_X5_bit_0 {X : mX} {call : Nat → List mV → mG → mR} {g : mG} {x0 : Int32} : mEv X call 1 t_X5_bit (mDrop t_X5_bit 0) [some (mi x0)] [] g = if x0 < 0 then mEv X call 1 t_X5_bit (mDrop t_X5_bit 10) [some (mi x0)] [] g else mEv X call 1 t_X5_bit (mDrop t_X5_bit 4) [some (mi x0)] [] g := (mEv_2 _ _ _ _).trans rfl
theorem e_X5_bit_10 {X : mX} {call : Nat → List mV → mG → mR} {g : mG} {x0 : Int32} : mEv X call 1 t_X5_bit (mDrop t_X5_bit 10) [some (mi x0)] [] g = mEv X call 1 t_X5_bit (mDrop t_X5_bit 17) [some (mi x0)] [mi 0] g := (mEv_2 _ _ _ _).trans rfl
theorem e_X5_bit_17 {X : mX} {call : Nat → List mV → mG → mR} {g : mG} {x0 s0 : Int32} : mEv X call 1 t_X5_bit (mDrop t_X5_bit 17) [some (mi x0)] [mi s0] g = some (some (mi s0), g) := (mEv_1 _ _ _ _).trans rfl
noncomputable def J_X5_bit_10  : (Int32) := 0
theorem rj_X5_bit_10 (d : Nat) {X : mX} {g : mG} {x0 : Int32} : mEv X (mCall mD X (d + 0)) 1 t_X5_bit (mDrop t_X5_bit 10) [some (mi x0)] [] g = (wN g) (J_X5_bit_10 ) := by
  refine Eq.trans (e_X5_bit_10) ?_
  refine Eq.trans (e_X5_bit_17) ?_
  all_goals rfl
theorem e_X5_bit_4 {X : mX} {call : Nat → List mV → mG → mR} {g : mG} {x0 : Int32} : mEv X call 1 t_X5_bit (mDrop t_X5_bit 4) [some (mi x0)] [] g = if x0 < 8 then mEv X call 1 t_X5_bit (mDrop t_X5_bit 14) [some (mi x0)] [] g else mEv X call 1 t_X5_bit (mDrop t_X5_bit 10) [some (mi x0)] [] g := (mEv_3 _ _ _ _).trans rfl
theorem e_X5_bit_14 {X : mX} {call : Nat → List mV → mG → mR} {g : mG} {x0 : Int32} : mEv X call 1 t_X5_bit (mDrop t_X5_bit 14) [some (mi x0)] [] g = mEv X call 1 t_X5_bit (mDrop t_X5_bit 17) [some (mi x0)] [mi (1 <<< (x0 &&& 31))] g := (mEv_3 _ _ _ _).trans rfl
noncomputable def P_X5_bit (x0 : Int32) : (Int32) := (if x0 < 0 then (J_X5_bit_10 ) else (if x0 < 8 then (1 <<< (x0 &&& 31)) else (J_X5_bit_10 )))
theorem rr_X5_bit (d : Nat) {X : mX} {g : mG} {x0 : Int32} : mCall mD X (d + 1) 147 [mi x0] g = (wN g) (P_X5_bit x0) := by
  refine Eq.trans (mCall_eq (d := d + 0) rfl) ?_
  show mEv X (mCall mD X (d + 0)) 1 t_X5_bit (mDrop t_X5_bit 0) [some (mi x0)] [] g = _
  refine Eq.trans (e_X5_bit_0) ?_
  refine mw_ite (fun h2 => ?_) (fun h2 => ?_)
  · exact rj_X5_bit_10 d
  · refine Eq.trans (e_X5_bit_4) ?_
    refine mw_ite (fun h1 => ?_) (fun h1 => ?_)
    · refine Eq.trans (e_X5_bit_14) ?_
      refine Eq.trans (e_X5_bit_17) ?_
      all_goals rfl
    · exact rj_X5_bit_10 d
theorem e_X5_inSet_0 {X : mX} {call : Nat → List mV → mG → mR} {g : mG} {x0 x1 : Int32} : mEv X call 2 t_X5_inSet (mDrop t_X5_inSet 0) [some (mi x0), some (mi x1)] [] g = if x1 < 0 then mEv X call 2 t_X5_inSet (mDrop t_X5_inSet 22) [some (mi x0), some (mi x1)] [] g else mEv X call 2 t_X5_inSet (mDrop t_X5_inSet 4) [some (mi x0), some (mi x1)] [] g := (mEv_2 _ _ _ _).trans rfl
theorem e_X5_inSet_22 {X : mX} {call : Nat → List mV → mG → mR} {g : mG} {x0 x1 : Int32} : mEv X call 2 t_X5_inSet (mDrop t_X5_inSet 22) [some (mi x0), some (mi x1)] [] g = mEv X call 2 t_X5_inSet (mDrop t_X5_inSet 23) [some (mi x0), some (mi x1)] [mi 0] g := (mEv_1 _ _ _ _).trans rfl
theorem e_X5_inSet_23 {X : mX} {call : Nat → List mV → mG → mR} {g : mG} {x0 x1 s0 : Int32} : mEv X call 2 t_X5_inSet (mDrop t_X5_inSet 23) [some (mi x0), some (mi x1)] [mi s0] g = if (s0 : Int32) &&& 1 = s0 then some (some (mi s0), g) else none := (mEv_1 _ _ _ _).trans rfl
noncomputable def J_X5_inSet_22  : (Int32) := 0
theorem rj_X5_inSet_22 (d : Nat) {X : mX} {g : mG} {x0 x1 : Int32} : mEv X (mCall mD X (d + 0)) 2 t_X5_inSet (mDrop t_X5_inSet 22) [some (mi x0), some (mi x1)] [] g = (wN g) (J_X5_inSet_22 ) := by
  refine Eq.trans (e_X5_inSet_22) ?_
  refine Eq.trans (e_X5_inSet_23) ?_
  exact if_pos (by decide)
theorem e_X5_inSet_4 {X : mX} {call : Nat → List mV → mG → mR} {g : mG} {x0 x1 : Int32} : mEv X call 2 t_X5_inSet (mDrop t_X5_inSet 4) [some (mi x0), some (mi x1)] [] g = if 8 ≤ x1 then mEv X call 2 t_X5_inSet (mDrop t_X5_inSet 22) [some (mi x0), some (mi x1)] [] g else mEv X call 2 t_X5_inSet (mDrop t_X5_inSet 10) [some (mi x0), some (mi x1)] [] g := (mEv_3 _ _ _ _).trans rfl
theorem e_X5_inSet_10 {X : mX} {call : Nat → List mV → mG → mR} {g : mG} {x0 x1 : Int32} : mEv X call 2 t_X5_inSet (mDrop t_X5_inSet 10) [some (mi x0), some (mi x1)] [] g = if ((x0 >>> (x1 &&& 31)) &&& 1) = 0 then mEv X call 2 t_X5_inSet (mDrop t_X5_inSet 22) [some (mi x0), some (mi x1)] [] g else mEv X call 2 t_X5_inSet (mDrop t_X5_inSet 18) [some (mi x0), some (mi x1)] [] g := (mEv_6 _ _ _ _).trans rfl
theorem e_X5_inSet_18 {X : mX} {call : Nat → List mV → mG → mR} {g : mG} {x0 x1 : Int32} : mEv X call 2 t_X5_inSet (mDrop t_X5_inSet 18) [some (mi x0), some (mi x1)] [] g = mEv X call 2 t_X5_inSet (mDrop t_X5_inSet 23) [some (mi x0), some (mi x1)] [mi 1] g := (mEv_2 _ _ _ _).trans rfl
noncomputable def P_X5_inSet (x0 : Int32) (x1 : Int32) : (Int32) := (if x1 < 0 then (J_X5_inSet_22 ) else (if 8 ≤ x1 then (J_X5_inSet_22 ) else (if ((x0 >>> (x1 &&& 31)) &&& 1) = 0 then (J_X5_inSet_22 ) else 1)))
theorem rr_X5_inSet (d : Nat) {X : mX} {g : mG} {x0 x1 : Int32} : mCall mD X (d + 1) 149 [mi x0, mi x1] g = (wN g) (P_X5_inSet x0 x1) := by
  refine Eq.trans (mCall_eq (d := d + 0) rfl) ?_
  show mEv X (mCall mD X (d + 0)) 2 t_X5_inSet (mDrop t_X5_inSet 0) [some (mi x0), some (mi x1)] [] g = _
  refine Eq.trans (e_X5_inSet_0) ?_
  refine mw_ite (fun h3 => ?_) (fun h3 => ?_)
  · exact rj_X5_inSet_22 d
  · refine Eq.trans (e_X5_inSet_4) ?_
    refine mw_ite (fun h2 => ?_) (fun h2 => ?_)
    · exact rj_X5_inSet_22 d
    · refine Eq.trans (e_X5_inSet_10) ?_
      refine mw_ite (fun h1 => ?_) (fun h1 => ?_)
      · exact rj_X5_inSet_22 d
      · refine Eq.trans (e_X5_inSet_18) ?_
        refine Eq.trans (e_X5_inSet_23) ?_
        exact if_pos (by decide)
theorem e_X5_withBit_0 {X : mX} {call : Nat → List mV → mG → mR} {g : mG} {x0 x1 x2 : Int32} : mEv X call 1 t_X5_withBit (mDrop t_X5_withBit 0) [some (mi x0), some (mi x1), some (mi x2)] [] g = if x2 = 0 then mEv X call 1 t_X5_withBit (mDrop t_X5_withBit 13) [some (mi x0), some (mi x1), some (mi x2)] [] g else mEv X call 1 t_X5_withBit (mDrop t_X5_withBit 4) [some (mi x0), some (mi x1), some (mi x2)] [] g := (mEv_2 _ _ _ _).trans rfl
theorem e_X5_withBit_13 {X : mX} {call : Nat → List mV → mG → mR} {g : mG} {x0 x1 x2 : Int32} : mEv X call 1 t_X5_withBit (mDrop t_X5_withBit 13) [some (mi x0), some (mi x1), some (mi x2)] [] g = mAns (mEv X call 1 t_X5_withBit) (mDrop t_X5_withBit 18) [some (mi x0), some (mi x1), some (mi x2)] [mi x0] (call 147 [mi x1] g) := (mEv_3 _ _ _ _).trans rfl
theorem e_X5_withBit_18 {X : mX} {call : Nat → List mV → mG → mR} {g : mG} {x0 x1 x2 s0 s1 : Int32} : mEv X call 1 t_X5_withBit (mDrop t_X5_withBit 18) [some (mi x0), some (mi x1), some (mi x2)] [mi s1, mi s0] g = mEv X call 1 t_X5_withBit (mDrop t_X5_withBit 21) [some (mi x0), some (mi x1), some (mi x2)] [mi (s0 &&& (s1 ^^^ (-1)))] g := (mEv_3 _ _ _ _).trans rfl
theorem e_X5_withBit_21 {X : mX} {call : Nat → List mV → mG → mR} {g : mG} {x0 x1 x2 s0 : Int32} : mEv X call 1 t_X5_withBit (mDrop t_X5_withBit 21) [some (mi x0), some (mi x1), some (mi x2)] [mi s0] g = some (some (mi s0), g) := (mEv_1 _ _ _ _).trans rfl
theorem e_X5_withBit_4 {X : mX} {call : Nat → List mV → mG → mR} {g : mG} {x0 x1 x2 : Int32} : mEv X call 1 t_X5_withBit (mDrop t_X5_withBit 4) [some (mi x0), some (mi x1), some (mi x2)] [] g = mAns (mEv X call 1 t_X5_withBit) (mDrop t_X5_withBit 9) [some (mi x0), some (mi x1), some (mi x2)] [mi x0] (call 147 [mi x1] g) := (mEv_3 _ _ _ _).trans rfl
theorem e_X5_withBit_9 {X : mX} {call : Nat → List mV → mG → mR} {g : mG} {x0 x1 x2 s0 s1 : Int32} : mEv X call 1 t_X5_withBit (mDrop t_X5_withBit 9) [some (mi x0), some (mi x1), some (mi x2)] [mi s1, mi s0] g = mEv X call 1 t_X5_withBit (mDrop t_X5_withBit 21) [some (mi x0), some (mi x1), some (mi x2)] [mi (s0 ||| s1)] g := (mEv_2 _ _ _ _).trans rfl
noncomputable def P_X5_withBit (x0 : Int32) (x1 : Int32) (x2 : Int32) : (Int32) := (if x2 = 0 then (mBd (α := Int32) (P_X5_bit x1) (fun v1 => (x0 &&& (v1 ^^^ (-1))))) else (mBd (α := Int32) (P_X5_bit x1) (fun v2 => (x0 ||| v2))))
theorem rr_X5_withBit (d : Nat) {X : mX} {g : mG} {x0 x1 x2 : Int32} : mCall mD X (d + 2) 148 [mi x0, mi x1, mi x2] g = (wN g) (P_X5_withBit x0 x1 x2) := by
  refine Eq.trans (mCall_eq (d := d + 1) rfl) ?_
  show mEv X (mCall mD X (d + 1)) 1 t_X5_withBit (mDrop t_X5_withBit 0) [some (mi x0), some (mi x1), some (mi x2)] [] g = _
  refine Eq.trans (e_X5_withBit_0) ?_
  refine mw_ite (fun h3 => ?_) (fun h3 => ?_)
  · refine Eq.trans (e_X5_withBit_13) ?_
    refine mw_cI (rr_X5_bit d) (fun v1 => ?_)
    refine Eq.trans (e_X5_withBit_18) ?_
    refine Eq.trans (e_X5_withBit_21) ?_
    all_goals rfl
  · refine Eq.trans (e_X5_withBit_4) ?_
    refine mw_cI (rr_X5_bit d) (fun v2 => ?_)
    refine Eq.trans (e_X5_withBit_9) ?_
    refine Eq.trans (e_X5_withBit_21) ?_
    all_goals rfl
theorem e_X4_holds_0 {X : mX} {call : Nat → List mV → mG → mR} {g : mG} {i r : Nat} (h_r : r = 8 ∨ r = 9) : mEv X call 2 t_X4_holds (mDrop t_X4_holds 0) [some (mr i r)] [] g = if (g i r 1) = (-1) then mEv X call 2 t_X4_holds (mDrop t_X4_holds 12) [some (mr i r)] [] g else mEv X call 2 t_X4_holds (mDrop t_X4_holds 8) [some (mr i r)] [] g := by
  rcases h_r with rfl | rfl <;> exact (mEv_4 _ _ _ _).trans rfl
theorem e_X4_holds_12 {X : mX} {call : Nat → List mV → mG → mR} {g : mG} {i r : Nat} (h_r : r = 8 ∨ r = 9) : mEv X call 2 t_X4_holds (mDrop t_X4_holds 12) [some (mr i r)] [] g = mEv X call 2 t_X4_holds (mDrop t_X4_holds 13) [some (mr i r)] [mi 0] g := by
  rcases h_r with rfl | rfl <;> exact (mEv_1 _ _ _ _).trans rfl
theorem e_X4_holds_13 {X : mX} {call : Nat → List mV → mG → mR} {g : mG} {s0 : Int32} {i r : Nat} (h_r : r = 8 ∨ r = 9) : mEv X call 2 t_X4_holds (mDrop t_X4_holds 13) [some (mr i r)] [mi s0] g = if (s0 : Int32) &&& 1 = s0 then some (some (mi s0), g) else none := by
  rcases h_r with rfl | rfl <;> exact (mEv_1 _ _ _ _).trans rfl
theorem e_X4_holds_8 {X : mX} {call : Nat → List mV → mG → mR} {g : mG} {i r : Nat} (h_r : r = 8 ∨ r = 9) : mEv X call 2 t_X4_holds (mDrop t_X4_holds 8) [some (mr i r)] [] g = mEv X call 2 t_X4_holds (mDrop t_X4_holds 13) [some (mr i r)] [mi 1] g := by
  rcases h_r with rfl | rfl <;> exact (mEv_2 _ _ _ _).trans rfl
noncomputable def P_X4_holds (r : Nat) (c : mC) : (Int32) := (if (c r 1) = (-1) then 0 else 1)
theorem rr_X4_holds (d : Nat) {X : mX} {g : mG} {i r : Nat} (h_r : r = 8 ∨ r = 9) {c : mC} : mCall mD X (d + 1) 90 [mr i r] (mU g i c) = (wI g i c) (P_X4_holds r c) := by
  refine Eq.trans (mCall_eq (d := d + 0) rfl) ?_
  show mEv X (mCall mD X (d + 0)) 2 t_X4_holds (mDrop t_X4_holds 0) [some (mr i r)] [] (mU g i c) = _
  refine Eq.trans (e_X4_holds_0 h_r) ?_
  try simp only [mU_same, mU_mU]
  refine mw_ite (fun h1 => ?_) (fun h1 => ?_)
  · refine Eq.trans (e_X4_holds_12 h_r) ?_
    try simp only [mU_same, mU_mU]
    refine Eq.trans (e_X4_holds_13 h_r) ?_
    try simp only [mU_same, mU_mU]
    exact if_pos (by decide)
  · refine Eq.trans (e_X4_holds_8 h_r) ?_
    try simp only [mU_same, mU_mU]
    refine Eq.trans (e_X4_holds_13 h_r) ?_
    try simp only [mU_same, mU_mU]
    exact if_pos (by decide)
theorem rr_X4_holds_at (d : Nat) {X : mX} {g : mG} {i r : Nat} (h_r : r = 8 ∨ r = 9) : mCall mD X (d + 1) 90 [mr i r] g = wN g (P_X4_holds r (g i)) := by
  have h := rr_X4_holds (X := X) d (g := g) (c := g i) h_r (i := i)
  rw [mU_self] at h
  exact h.trans (wI_self _ _ _)
theorem e_X4_walkOn_0 {X : mX} {call : Nat → List mV → mG → mR} {g : mG} {x1 x2 : Int32} {i r : Nat} (h_r : r = 8 ∨ r = 9) : mEv X call 0 t_X4_walkOn (mDrop t_X4_walkOn 0) [some (mr i r), some (mi x1), some (mi x2)] [] g = if (g i r 7) = 2 then mEv X call 0 t_X4_walkOn (mDrop t_X4_walkOn 8) [some (mr i r), some (mi x1), some (mi x2)] [] g else mEv X call 0 t_X4_walkOn (mDrop t_X4_walkOn 18) [some (mr i r), some (mi x1), some (mi x2)] [] g := by
  rcases h_r with rfl | rfl <;> exact (mEv_4 _ _ _ _).trans rfl
theorem e_X4_walkOn_8 {X : mX} {call : Nat → List mV → mG → mR} {g : mG} {x1 x2 : Int32} {i r : Nat} (h_r : r = 8 ∨ r = 9) : mEv X call 0 t_X4_walkOn (mDrop t_X4_walkOn 8) [some (mr i r), some (mi x1), some (mi x2)] [] g = mEv X call 0 t_X4_walkOn (mDrop t_X4_walkOn 18) [some (mr i r), some (mi x1), some (mi x2)] [] (mU g i (mP (g i) r 8 ((g i r 8) + 1))) := by
  rcases h_r with rfl | rfl <;> exact (mEv_6 _ _ _ _).trans rfl
theorem e_X4_walkOn_18 {X : mX} {call : Nat → List mV → mG → mR} {g : mG} {x1 x2 : Int32} {i r : Nat} (h_r : r = 8 ∨ r = 9) : mEv X call 0 t_X4_walkOn (mDrop t_X4_walkOn 18) [some (mr i r), some (mi x1), some (mi x2)] [] g = if (g i r 7) = 1 then mEv X call 0 t_X4_walkOn (mDrop t_X4_walkOn 26) [some (mr i r), some (mi x1), some (mi x2)] [] g else mEv X call 0 t_X4_walkOn (mDrop t_X4_walkOn 39) [some (mr i r), some (mi x1), some (mi x2)] [] g := by
  rcases h_r with rfl | rfl <;> exact (mEv_4 _ _ _ _).trans rfl
theorem e_X4_walkOn_26 {X : mX} {call : Nat → List mV → mG → mR} {g : mG} {x1 x2 : Int32} {i r : Nat} (h_r : r = 8 ∨ r = 9) : mEv X call 0 t_X4_walkOn (mDrop t_X4_walkOn 26) [some (mr i r), some (mi x1), some (mi x2)] [] g = if (g i r 3) < x1 then mEv X call 0 t_X4_walkOn (mDrop t_X4_walkOn 39) [some (mr i r), some (mi x1), some (mi x2)] [] g else mEv X call 0 t_X4_walkOn (mDrop t_X4_walkOn 34) [some (mr i r), some (mi x1), some (mi x2)] [] g := by
  rcases h_r with rfl | rfl <;> exact (mEv_4 _ _ _ _).trans rfl
theorem e_X4_walkOn_39 {X : mX} {call : Nat → List mV → mG → mR} {g : mG} {x1 x2 : Int32} {i r : Nat} (h_r : r = 8 ∨ r = 9) : mEv X call 0 t_X4_walkOn (mDrop t_X4_walkOn 39) [some (mr i r), some (mi x1), some (mi x2)] [] g = if (g i r 7) = 2 then mEv X call 0 t_X4_walkOn (mDrop t_X4_walkOn 47) [some (mr i r), some (mi x1), some (mi x2)] [] g else mEv X call 0 t_X4_walkOn (mDrop t_X4_walkOn 60) [some (mr i r), some (mi x1), some (mi x2)] [] g := by
  rcases h_r with rfl | rfl <;> exact (mEv_4 _ _ _ _).trans rfl
theorem e_X4_walkOn_47 {X : mX} {call : Nat → List mV → mG → mR} {g : mG} {x1 x2 : Int32} {i r : Nat} (h_r : r = 8 ∨ r = 9) : mEv X call 0 t_X4_walkOn (mDrop t_X4_walkOn 47) [some (mr i r), some (mi x1), some (mi x2)] [] g = if (g i r 8) < x2 then mEv X call 0 t_X4_walkOn (mDrop t_X4_walkOn 60) [some (mr i r), some (mi x1), some (mi x2)] [] g else mEv X call 0 t_X4_walkOn (mDrop t_X4_walkOn 55) [some (mr i r), some (mi x1), some (mi x2)] [] g := by
  rcases h_r with rfl | rfl <;> exact (mEv_4 _ _ _ _).trans rfl
theorem e_X4_walkOn_60 {X : mX} {call : Nat → List mV → mG → mR} {g : mG} {x1 x2 : Int32} {i r : Nat} (h_r : r = 8 ∨ r = 9) : mEv X call 0 t_X4_walkOn (mDrop t_X4_walkOn 60) [some (mr i r), some (mi x1), some (mi x2)] [] g = some (none, g) := by
  rcases h_r with rfl | rfl <;> exact (mEv_1 _ _ _ _).trans rfl
theorem e_X4_walkOn_55 {X : mX} {call : Nat → List mV → mG → mR} {g : mG} {x1 x2 : Int32} {i r : Nat} (h_r : r = 8 ∨ r = 9) : mEv X call 0 t_X4_walkOn (mDrop t_X4_walkOn 55) [some (mr i r), some (mi x1), some (mi x2)] [] g = mEv X call 0 t_X4_walkOn (mDrop t_X4_walkOn 60) [some (mr i r), some (mi x1), some (mi x2)] [] (mU g i (mP (g i) r 7 0)) := by
  rcases h_r with rfl | rfl <;> exact (mEv_3 _ _ _ _).trans rfl
noncomputable def J_X4_walkOn_39 (r : Nat) (c : mC) (x2 : Int32) : (mC) := (if (c r 7) = 2 then (if (c r 8) < x2 then c else (mP c r 7 0)) else c)
theorem rj_X4_walkOn_39 (d : Nat) {X : mX} {g : mG} {i r : Nat} (h_r : r = 8 ∨ r = 9) {x1 x2 : Int32} {c : mC} : mEv X (mCall mD X (d + 0)) 0 t_X4_walkOn (mDrop t_X4_walkOn 39) [some (mr i r), some (mi x1), some (mi x2)] [] (mU g i c) = (wV g i) (J_X4_walkOn_39 r c x2) := by
  refine Eq.trans (e_X4_walkOn_39 h_r) ?_
  try simp only [mU_same, mU_mU]
  refine mw_ite (fun h2 => ?_) (fun h2 => ?_)
  · refine Eq.trans (e_X4_walkOn_47 h_r) ?_
    try simp only [mU_same, mU_mU]
    refine mw_ite (fun h1 => ?_) (fun h1 => ?_)
    · refine Eq.trans (e_X4_walkOn_60 h_r) ?_
      try simp only [mU_same, mU_mU]
      all_goals rfl
    · refine Eq.trans (e_X4_walkOn_55 h_r) ?_
      try simp only [mU_same, mU_mU]
      refine Eq.trans (e_X4_walkOn_60 h_r) ?_
      try simp only [mU_same, mU_mU]
      all_goals rfl
  · refine Eq.trans (e_X4_walkOn_60 h_r) ?_
    try simp only [mU_same, mU_mU]
    all_goals rfl
theorem e_X4_walkOn_34 {X : mX} {call : Nat → List mV → mG → mR} {g : mG} {x1 x2 : Int32} {i r : Nat} (h_r : r = 8 ∨ r = 9) : mEv X call 0 t_X4_walkOn (mDrop t_X4_walkOn 34) [some (mr i r), some (mi x1), some (mi x2)] [] g = mEv X call 0 t_X4_walkOn (mDrop t_X4_walkOn 39) [some (mr i r), some (mi x1), some (mi x2)] [] (mU g i (mP (g i) r 7 2)) := by
  rcases h_r with rfl | rfl <;> exact (mEv_3 _ _ _ _).trans rfl
noncomputable def J_X4_walkOn_18 (r : Nat) (c : mC) (x1 : Int32) (x2 : Int32) : (mC) := (if (c r 7) = 1 then (if (c r 3) < x1 then (J_X4_walkOn_39 r c x2) else (J_X4_walkOn_39 r (mP c r 7 2) x2)) else (J_X4_walkOn_39 r c x2))
theorem rj_X4_walkOn_18 (d : Nat) {X : mX} {g : mG} {i r : Nat} (h_r : r = 8 ∨ r = 9) {x1 x2 : Int32} {c : mC} : mEv X (mCall mD X (d + 0)) 0 t_X4_walkOn (mDrop t_X4_walkOn 18) [some (mr i r), some (mi x1), some (mi x2)] [] (mU g i c) = (wV g i) (J_X4_walkOn_18 r c x1 x2) := by
  refine Eq.trans (e_X4_walkOn_18 h_r) ?_
  try simp only [mU_same, mU_mU]
  refine mw_ite (fun h2 => ?_) (fun h2 => ?_)
  · refine Eq.trans (e_X4_walkOn_26 h_r) ?_
    try simp only [mU_same, mU_mU]
    refine mw_ite (fun h1 => ?_) (fun h1 => ?_)
    · exact rj_X4_walkOn_39 d h_r
    · refine Eq.trans (e_X4_walkOn_34 h_r) ?_
      try simp only [mU_same, mU_mU]
      exact rj_X4_walkOn_39 d h_r
  · exact rj_X4_walkOn_39 d h_r
noncomputable def P_X4_walkOn (r : Nat) (c : mC) (x1 : Int32) (x2 : Int32) : (mC) := (if (c r 7) = 2 then (J_X4_walkOn_18 r (mP c r 8 ((c r 8) + 1)) x1 x2) else (J_X4_walkOn_18 r c x1 x2))
theorem rr_X4_walkOn (d : Nat) {X : mX} {g : mG} {i r : Nat} (h_r : r = 8 ∨ r = 9) {x1 x2 : Int32} {c : mC} : mCall mD X (d + 1) 96 [mr i r, mi x1, mi x2] (mU g i c) = (wV g i) (P_X4_walkOn r c x1 x2) := by
  refine Eq.trans (mCall_eq (d := d + 0) rfl) ?_
  show mEv X (mCall mD X (d + 0)) 0 t_X4_walkOn (mDrop t_X4_walkOn 0) [some (mr i r), some (mi x1), some (mi x2)] [] (mU g i c) = _
  refine Eq.trans (e_X4_walkOn_0 h_r) ?_
  try simp only [mU_same, mU_mU]
  refine mw_ite (fun h1 => ?_) (fun h1 => ?_)
  · refine Eq.trans (e_X4_walkOn_8 h_r) ?_
    try simp only [mU_same, mU_mU]
    exact rj_X4_walkOn_18 d h_r
  · exact rj_X4_walkOn_18 d h_r
theorem rr_X4_walkOn_at (d : Nat) {X : mX} {g : mG} {i r : Nat} (h_r : r = 8 ∨ r = 9) {x1 x2 : Int32} : mCall mD X (d + 1) 96 [mr i r, mi x1, mi x2] g = some (none, mU g i (P_X4_walkOn r (g i) x1 x2)) := by
  have h := rr_X4_walkOn (X := X) d (g := g) (c := g i) h_r (x1 := x1) (x2 := x2) (i := i)
  rw [mU_self] at h
  exact h
theorem e_X4_growDark_0 {X : mX} {call : Nat → List mV → mG → mR} {g : mG} {x1 x2 : Int32} {i r : Nat} (h_r : r = 8 ∨ r = 9) : mEv X call 0 t_X4_growDark (mDrop t_X4_growDark 0) [some (mr i r), some (mi x1), some (mi x2)] [] g = if (g i r 2) = 1 then mEv X call 0 t_X4_growDark (mDrop t_X4_growDark 8) [some (mr i r), some (mi x1), some (mi x2)] [] g else mEv X call 0 t_X4_growDark (mDrop t_X4_growDark 26) [some (mr i r), some (mi x1), some (mi x2)] [] g := by
  rcases h_r with rfl | rfl <;> exact (mEv_4 _ _ _ _).trans rfl
theorem e_X4_growDark_8 {X : mX} {call : Nat → List mV → mG → mR} {g : mG} {x1 x2 : Int32} {i r : Nat} (h_r : r = 8 ∨ r = 9) : mEv X call 0 t_X4_growDark (mDrop t_X4_growDark 8) [some (mr i r), some (mi x1), some (mi x2)] [] g = if (g i r 3) < x1 then mEv X call 0 t_X4_growDark (mDrop t_X4_growDark 26) [some (mr i r), some (mi x1), some (mi x2)] [] g else mEv X call 0 t_X4_growDark (mDrop t_X4_growDark 16) [some (mr i r), some (mi x1), some (mi x2)] [] g := by
  rcases h_r with rfl | rfl <;> exact (mEv_4 _ _ _ _).trans rfl
theorem e_X4_growDark_26 {X : mX} {call : Nat → List mV → mG → mR} {g : mG} {x1 x2 : Int32} {i r : Nat} (h_r : r = 8 ∨ r = 9) : mEv X call 0 t_X4_growDark (mDrop t_X4_growDark 26) [some (mr i r), some (mi x1), some (mi x2)] [] g = if (g i r 2) = 2 then mEv X call 0 t_X4_growDark (mDrop t_X4_growDark 34) [some (mr i r), some (mi x1), some (mi x2)] [] g else mEv X call 0 t_X4_growDark (mDrop t_X4_growDark 50) [some (mr i r), some (mi x1), some (mi x2)] [] g := by
  rcases h_r with rfl | rfl <;> exact (mEv_4 _ _ _ _).trans rfl
theorem e_X4_growDark_34 {X : mX} {call : Nat → List mV → mG → mR} {g : mG} {x1 x2 : Int32} {i r : Nat} (h_r : r = 8 ∨ r = 9) : mEv X call 0 t_X4_growDark (mDrop t_X4_growDark 34) [some (mr i r), some (mi x1), some (mi x2)] [] g = if (g i r 3) < x2 then mEv X call 0 t_X4_growDark (mDrop t_X4_growDark 50) [some (mr i r), some (mi x1), some (mi x2)] [] g else mEv X call 0 t_X4_growDark (mDrop t_X4_growDark 42) [some (mr i r), some (mi x1), some (mi x2)] [] g := by
  rcases h_r with rfl | rfl <;> exact (mEv_4 _ _ _ _).trans rfl
theorem e_X4_growDark_50 {X : mX} {call : Nat → List mV → mG → mR} {g : mG} {x1 x2 : Int32} {i r : Nat} (h_r : r = 8 ∨ r = 9) : mEv X call 0 t_X4_growDark (mDrop t_X4_growDark 50) [some (mr i r), some (mi x1), some (mi x2)] [] g = some (none, g) := by
  rcases h_r with rfl | rfl <;> exact (mEv_1 _ _ _ _).trans rfl
theorem e_X4_growDark_42 {X : mX} {call : Nat → List mV → mG → mR} {g : mG} {x1 x2 : Int32} {i r : Nat} (h_r : r = 8 ∨ r = 9) : mEv X call 0 t_X4_growDark (mDrop t_X4_growDark 42) [some (mr i r), some (mi x1), some (mi x2)] [] g = mAns (mEv X call 0 t_X4_growDark) (mDrop t_X4_growDark 50) [some (mr i r), some (mi x1), some (mi x2)] [] (call 92 [mr i r, mi (g i r 4)] g) := by
  rcases h_r with rfl | rfl <;> exact (mEv_4 _ _ _ _).trans rfl
noncomputable def J_X4_growDark_26 (r : Nat) (c : mC) (x2 : Int32) : (mC) := (if (c r 2) = 2 then (if (c r 3) < x2 then c else (mBd (α := mC) (P_X4_waitFor r c (c r 4)) (fun c1 => c1))) else c)
theorem rj_X4_growDark_26 (d : Nat) {X : mX} {g : mG} {i r : Nat} (h_r : r = 8 ∨ r = 9) {x1 x2 : Int32} {c : mC} : mEv X (mCall mD X (d + 1)) 0 t_X4_growDark (mDrop t_X4_growDark 26) [some (mr i r), some (mi x1), some (mi x2)] [] (mU g i c) = (wV g i) (J_X4_growDark_26 r c x2) := by
  refine Eq.trans (e_X4_growDark_26 h_r) ?_
  try simp only [mU_same, mU_mU]
  refine mw_ite (fun h3 => ?_) (fun h3 => ?_)
  · refine Eq.trans (e_X4_growDark_34 h_r) ?_
    try simp only [mU_same, mU_mU]
    refine mw_ite (fun h2 => ?_) (fun h2 => ?_)
    · refine Eq.trans (e_X4_growDark_50 h_r) ?_
      try simp only [mU_same, mU_mU]
      all_goals rfl
    · refine Eq.trans (e_X4_growDark_42 h_r) ?_
      try simp only [mU_same, mU_mU]
      refine mw_cV (rr_X4_waitFor d h_r) (fun c1 => ?_)
      refine Eq.trans (e_X4_growDark_50 h_r) ?_
      try simp only [mU_same, mU_mU]
      all_goals rfl
  · refine Eq.trans (e_X4_growDark_50 h_r) ?_
    try simp only [mU_same, mU_mU]
    all_goals rfl
theorem e_X4_growDark_16 {X : mX} {call : Nat → List mV → mG → mR} {g : mG} {x1 x2 : Int32} {i r : Nat} (h_r : r = 8 ∨ r = 9) : mEv X call 0 t_X4_growDark (mDrop t_X4_growDark 16) [some (mr i r), some (mi x1), some (mi x2)] [] g = mEv X call 0 t_X4_growDark (mDrop t_X4_growDark 21) [some (mr i r), some (mi x1), some (mi x2)] [] (mU g i (mP (g i) r 2 2)) := by
  rcases h_r with rfl | rfl <;> exact (mEv_3 _ _ _ _).trans rfl
theorem e_X4_growDark_21 {X : mX} {call : Nat → List mV → mG → mR} {g : mG} {x1 x2 : Int32} {i r : Nat} (h_r : r = 8 ∨ r = 9) : mEv X call 0 t_X4_growDark (mDrop t_X4_growDark 21) [some (mr i r), some (mi x1), some (mi x2)] [] g = mEv X call 0 t_X4_growDark (mDrop t_X4_growDark 26) [some (mr i r), some (mi x1), some (mi x2)] [] (mU g i (mP (g i) r 3 0)) := by
  rcases h_r with rfl | rfl <;> exact (mEv_3 _ _ _ _).trans rfl
noncomputable def P_X4_growDark (r : Nat) (c : mC) (x1 : Int32) (x2 : Int32) : (mC) := (if (c r 2) = 1 then (if (c r 3) < x1 then (J_X4_growDark_26 r c x2) else (J_X4_growDark_26 r (mP (mP c r 2 2) r 3 0) x2)) else (J_X4_growDark_26 r c x2))
theorem rr_X4_growDark (d : Nat) {X : mX} {g : mG} {i r : Nat} (h_r : r = 8 ∨ r = 9) {x1 x2 : Int32} {c : mC} : mCall mD X (d + 2) 95 [mr i r, mi x1, mi x2] (mU g i c) = (wV g i) (P_X4_growDark r c x1 x2) := by
  refine Eq.trans (mCall_eq (d := d + 1) rfl) ?_
  show mEv X (mCall mD X (d + 1)) 0 t_X4_growDark (mDrop t_X4_growDark 0) [some (mr i r), some (mi x1), some (mi x2)] [] (mU g i c) = _
  refine Eq.trans (e_X4_growDark_0 h_r) ?_
  try simp only [mU_same, mU_mU]
  refine mw_ite (fun h2 => ?_) (fun h2 => ?_)
  · refine Eq.trans (e_X4_growDark_8 h_r) ?_
    try simp only [mU_same, mU_mU]
    refine mw_ite (fun h1 => ?_) (fun h1 => ?_)
    · exact rj_X4_growDark_26 d h_r
    · refine Eq.trans (e_X4_growDark_16 h_r) ?_
      try simp only [mU_same, mU_mU]
      refine Eq.trans (e_X4_growDark_21 h_r) ?_
      try simp only [mU_same, mU_mU]
      exact rj_X4_growDark_26 d h_r
  · exact rj_X4_growDark_26 d h_r
theorem rr_X4_growDark_at (d : Nat) {X : mX} {g : mG} {i r : Nat} (h_r : r = 8 ∨ r = 9) {x1 x2 : Int32} : mCall mD X (d + 2) 95 [mr i r, mi x1, mi x2] g = some (none, mU g i (P_X4_growDark r (g i) x1 x2)) := by
  have h := rr_X4_growDark (X := X) d (g := g) (c := g i) h_r (x1 := x1) (x2 := x2) (i := i)
  rw [mU_self] at h
  exact h
theorem e_X1_note_0 {X : mX} {call : Nat → List mV → mG → mR} {g : mG} {x1 x2 x3 : Int32} {i : Nat} : mEv X call 0 t_X1_note (mDrop t_X1_note 0) [some (mr i 10), some (mi x1), some (mi x2), some (mi x3)] [] g = if (g i 10 4) < 0 then mEv X call 0 t_X1_note (mDrop t_X1_note 46) [some (mr i 10), some (mi x1), some (mi x2), some (mi x3)] [] g else mEv X call 0 t_X1_note (mDrop t_X1_note 7) [some (mr i 10), some (mi x1), some (mi x2), some (mi x3)] [] g := (mEv_3 _ _ _ _).trans rfl
theorem e_X1_note_46 {X : mX} {call : Nat → List mV → mG → mR} {g : mG} {x1 x2 x3 : Int32} {i : Nat} : mEv X call 0 t_X1_note (mDrop t_X1_note 46) [some (mr i 10), some (mi x1), some (mi x2), some (mi x3)] [] g = if (32 : Int32) = 0 then none else mEv X call 0 t_X1_note (mDrop t_X1_note 56) [some (mr i 10), some (mi x1), some (mi x2), some (mi x3)] [mi (((g i 10 4) + 1) - ((g i 10 4) + 1) / 32 * 32), mr i 10] g := (mEv_7 _ _ _ _).trans rfl
theorem e_X1_note_56 {X : mX} {call : Nat → List mV → mG → mR} {g : mG} {x1 x2 x3 s1 : Int32} {i : Nat} : mEv X call 0 t_X1_note (mDrop t_X1_note 56) [some (mr i 10), some (mi x1), some (mi x2), some (mi x3)] [mi s1, mr i 10] g = mEv X call 0 t_X1_note (mDrop t_X1_note 59) [some (mr i 10), some (mi x1), some (mi x2), some (mi x3)] [] (mU g i (mP (g i) 10 4 s1)) := (mEv_1 _ _ _ _).trans rfl
theorem e_X1_note_59 {X : mX} {call : Nat → List mV → mG → mR} {g : mG} {x1 x2 x3 : Int32} {i : Nat} : mEv X call 0 t_X1_note (mDrop t_X1_note 59) [some (mr i 10), some (mi x1), some (mi x2), some (mi x3)] [] g = mAns (mEv X call 0 t_X1_note) (mDrop t_X1_note 71) [some (mr i 10), some (mi x1), some (mi x2), some (mi x3)] [mr i 10] (call 278 [mi ((g i 10 3) + 1), mi 32] g) := (mEv_7 _ _ _ _).trans rfl
theorem e_X1_note_71 {X : mX} {call : Nat → List mV → mG → mR} {g : mG} {x1 x2 x3 s1 : Int32} {i : Nat} : mEv X call 0 t_X1_note (mDrop t_X1_note 71) [some (mr i 10), some (mi x1), some (mi x2), some (mi x3)] [mi s1, mr i 10] g = mEv X call 0 t_X1_note (mDrop t_X1_note 74) [some (mr i 10), some (mi x1), some (mi x2), some (mi x3)] [] (mU g i (mP (g i) 10 3 s1)) := (mEv_1 _ _ _ _).trans rfl
theorem e_X1_note_74 {X : mX} {call : Nat → List mV → mG → mR} {g : mG} {x1 x2 x3 : Int32} {i : Nat} : mEv X call 0 t_X1_note (mDrop t_X1_note 74) [some (mr i 10), some (mi x1), some (mi x2), some (mi x3)] [] g = some (none, g) := (mEv_1 _ _ _ _).trans rfl
noncomputable def J_X1_note_46 (c : mC) : (mC) := (mBd (α := Int32) (P_J9_min_7cf53 (((mP c 10 4 (((c 10 4) + 1) - ((c 10 4) + 1) / 32 * 32)) 10 3) + 1) 32) (fun v1 => (mP (mP c 10 4 (((c 10 4) + 1) - ((c 10 4) + 1) / 32 * 32)) 10 3 v1)))
theorem rj_X1_note_46 (d : Nat) {X : mX} {g : mG} {i : Nat} {x1 x2 x3 : Int32} {c : mC} : mEv X (mCall mD X (d + 1)) 0 t_X1_note (mDrop t_X1_note 46) [some (mr i 10), some (mi x1), some (mi x2), some (mi x3)] [] (mU g i c) = (wV g i) (J_X1_note_46 c) := by
  refine Eq.trans (e_X1_note_46) ?_
  try simp only [mU_same, mU_mU]
  refine Eq.trans (if_neg (by decide)) ?_
  refine Eq.trans (e_X1_note_56) ?_
  try simp only [mU_same, mU_mU]
  refine Eq.trans (e_X1_note_59) ?_
  try simp only [mU_same, mU_mU]
  refine mw_cI (rr_J9_min_7cf53 d) (fun v1 => ?_)
  refine Eq.trans (e_X1_note_71) ?_
  try simp only [mU_same, mU_mU]
  refine Eq.trans (e_X1_note_74) ?_
  try simp only [mU_same, mU_mU]
  all_goals rfl
theorem e_X1_note_7 {X : mX} {call : Nat → List mV → mG → mR} {g : mG} {x1 x2 x3 : Int32} {i : Nat} : mEv X call 0 t_X1_note (mDrop t_X1_note 7) [some (mr i 10), some (mi x1), some (mi x2), some (mi x3)] [] g = if 32 ≤ (g i 10 4) then mEv X call 0 t_X1_note (mDrop t_X1_note 46) [some (mr i 10), some (mi x1), some (mi x2), some (mi x3)] [] g else mEv X call 0 t_X1_note (mDrop t_X1_note 16) [some (mr i 10), some (mi x1), some (mi x2), some (mi x3)] [] g := (mEv_4 _ _ _ _).trans rfl
theorem e_X1_note_16 {X : mX} {call : Nat → List mV → mG → mR} {g : mG} {x1 x2 x3 : Int32} {i : Nat} : mEv X call 0 t_X1_note (mDrop t_X1_note 16) [some (mr i 10), some (mi x1), some (mi x2), some (mi x3)] [] g = if ((g i 10 4) : Int32) < 0 ∨ 32 ≤ ((g i 10 4) : Int32).toNatClampNeg then none else mEv X call 0 t_X1_note (mDrop t_X1_note 26) [some (mr i 10), some (mi x1), some (mi x2), some (mi x3)] [] (mU g i (mP (g i) 11 ((g i 10 4)).toNatClampNeg x1)) := (mEv_6 _ _ _ _).trans rfl
theorem e_X1_note_26 {X : mX} {call : Nat → List mV → mG → mR} {g : mG} {x1 x2 x3 : Int32} {i : Nat} : mEv X call 0 t_X1_note (mDrop t_X1_note 26) [some (mr i 10), some (mi x1), some (mi x2), some (mi x3)] [] g = if ((g i 10 4) : Int32) < 0 ∨ 32 ≤ ((g i 10 4) : Int32).toNatClampNeg then none else mEv X call 0 t_X1_note (mDrop t_X1_note 36) [some (mr i 10), some (mi x1), some (mi x2), some (mi x3)] [] (mU g i (mP (g i) 12 ((g i 10 4)).toNatClampNeg x2)) := (mEv_6 _ _ _ _).trans rfl
theorem e_X1_note_36 {X : mX} {call : Nat → List mV → mG → mR} {g : mG} {x1 x2 x3 : Int32} {i : Nat} : mEv X call 0 t_X1_note (mDrop t_X1_note 36) [some (mr i 10), some (mi x1), some (mi x2), some (mi x3)] [] g = if ((g i 10 4) : Int32) < 0 ∨ 32 ≤ ((g i 10 4) : Int32).toNatClampNeg then none else mEv X call 0 t_X1_note (mDrop t_X1_note 46) [some (mr i 10), some (mi x1), some (mi x2), some (mi x3)] [] (mU g i (mP (g i) 13 ((g i 10 4)).toNatClampNeg x3)) := (mEv_6 _ _ _ _).trans rfl
noncomputable def P_X1_note (c : mC) (x1 : Int32) (x2 : Int32) (x3 : Int32) : (mC) := (if (c 10 4) < 0 then (J_X1_note_46 c) else (if 32 ≤ (c 10 4) then (J_X1_note_46 c) else (J_X1_note_46 (mP (mP (mP c 11 ((c 10 4)).toNatClampNeg x1) 12 (((mP c 11 ((c 10 4)).toNatClampNeg x1) 10 4)).toNatClampNeg x2) 13 (((mP (mP c 11 ((c 10 4)).toNatClampNeg x1) 12 (((mP c 11 ((c 10 4)).toNatClampNeg x1) 10 4)).toNatClampNeg x2) 10 4)).toNatClampNeg x3))))
theorem rr_X1_note (d : Nat) {X : mX} {g : mG} {i : Nat} {x1 x2 x3 : Int32} {c : mC} : mCall mD X (d + 2) 49 [mr i 10, mi x1, mi x2, mi x3] (mU g i c) = (wV g i) (P_X1_note c x1 x2 x3) := by
  refine Eq.trans (mCall_eq (d := d + 1) rfl) ?_
  show mEv X (mCall mD X (d + 1)) 0 t_X1_note (mDrop t_X1_note 0) [some (mr i 10), some (mi x1), some (mi x2), some (mi x3)] [] (mU g i c) = _
  refine Eq.trans (e_X1_note_0) ?_
  try simp only [mU_same, mU_mU]
  refine mw_ite (fun h2 => ?_) (fun h2 => ?_)
  · exact rj_X1_note_46 d
  · refine Eq.trans (e_X1_note_7) ?_
    try simp only [mU_same, mU_mU]
    refine mw_ite (fun h1 => ?_) (fun h1 => ?_)
    · exact rj_X1_note_46 d
    · refine Eq.trans (e_X1_note_16) ?_
      try simp only [mU_same, mU_mU]
      refine Eq.trans (if_neg (mrng (by decide) (by first | assumption | exact Int32.not_lt.mpr (by assumption)) (by first | assumption | exact Int32.not_le.mpr (by assumption)))) ?_
      refine Eq.trans (e_X1_note_26) ?_
      try simp only [mU_same, mU_mU]
      refine Eq.trans (if_neg (mrng (by decide) (by first | assumption | exact Int32.not_lt.mpr (by assumption)) (by first | assumption | exact Int32.not_le.mpr (by assumption)))) ?_
      refine Eq.trans (e_X1_note_36) ?_
      try simp only [mU_same, mU_mU]
      refine Eq.trans (if_neg (mrng (by decide) (by first | assumption | exact Int32.not_lt.mpr (by assumption)) (by first | assumption | exact Int32.not_le.mpr (by assumption)))) ?_
      exact rj_X1_note_46 d
theorem rr_X1_note_at (d : Nat) {X : mX} {g : mG} {i : Nat} {x1 x2 x3 : Int32} : mCall mD X (d + 2) 49 [mr i 10, mi x1, mi x2, mi x3] g = some (none, mU g i (P_X1_note (g i) x1 x2 x3)) := by
  have h := rr_X1_note (X := X) d (g := g) (c := g i) (x1 := x1) (x2 := x2) (x3 := x3) (i := i)
  rw [mU_self] at h
  exact h
theorem e_X4_turnYellow_0 {X : mX} {call : Nat → List mV → mG → mR} {g : mG} {x1 : Int32} {i r : Nat} (h_r : r = 8 ∨ r = 9) : mEv X call 0 t_X4_turnYellow (mDrop t_X4_turnYellow 0) [some (mr i r), some (mi x1)] [] g = mEv X call 0 t_X4_turnYellow (mDrop t_X4_turnYellow 5) [some (mr i r), some (mi x1)] [] (mU g i (mP (g i) r 2 1)) := by
  rcases h_r with rfl | rfl <;> exact (mEv_3 _ _ _ _).trans rfl
theorem e_X4_turnYellow_5 {X : mX} {call : Nat → List mV → mG → mR} {g : mG} {x1 : Int32} {i r : Nat} (h_r : r = 8 ∨ r = 9) : mEv X call 0 t_X4_turnYellow (mDrop t_X4_turnYellow 5) [some (mr i r), some (mi x1)] [] g = mEv X call 0 t_X4_turnYellow (mDrop t_X4_turnYellow 10) [some (mr i r), some (mi x1)] [] (mU g i (mP (g i) r 3 0)) := by
  rcases h_r with rfl | rfl <;> exact (mEv_3 _ _ _ _).trans rfl
theorem e_X4_turnYellow_10 {X : mX} {call : Nat → List mV → mG → mR} {g : mG} {x1 : Int32} {i r : Nat} (h_r : r = 8 ∨ r = 9) : mEv X call 0 t_X4_turnYellow (mDrop t_X4_turnYellow 10) [some (mr i r), some (mi x1)] [] g = mEv X call 0 t_X4_turnYellow (mDrop t_X4_turnYellow 15) [some (mr i r), some (mi x1)] [] (mU g i (mP (g i) r 4 x1)) := by
  rcases h_r with rfl | rfl <;> exact (mEv_3 _ _ _ _).trans rfl
theorem e_X4_turnYellow_15 {X : mX} {call : Nat → List mV → mG → mR} {g : mG} {x1 : Int32} {i r : Nat} (h_r : r = 8 ∨ r = 9) : mEv X call 0 t_X4_turnYellow (mDrop t_X4_turnYellow 15) [some (mr i r), some (mi x1)] [] g = mEv X call 0 t_X4_turnYellow (mDrop t_X4_turnYellow 20) [some (mr i r), some (mi x1)] [] (mU g i (mP (g i) r 7 0)) := by
  rcases h_r with rfl | rfl <;> exact (mEv_3 _ _ _ _).trans rfl
theorem e_X4_turnYellow_20 {X : mX} {call : Nat → List mV → mG → mR} {g : mG} {x1 : Int32} {i r : Nat} (h_r : r = 8 ∨ r = 9) : mEv X call 0 t_X4_turnYellow (mDrop t_X4_turnYellow 20) [some (mr i r), some (mi x1)] [] g = some (none, g) := by
  rcases h_r with rfl | rfl <;> exact (mEv_1 _ _ _ _).trans rfl
noncomputable def P_X4_turnYellow (r : Nat) (c : mC) (x1 : Int32) : (mC) := (mP (mP (mP (mP c r 2 1) r 3 0) r 4 x1) r 7 0)
theorem rr_X4_turnYellow (d : Nat) {X : mX} {g : mG} {i r : Nat} (h_r : r = 8 ∨ r = 9) {x1 : Int32} {c : mC} : mCall mD X (d + 1) 94 [mr i r, mi x1] (mU g i c) = (wV g i) (P_X4_turnYellow r c x1) := by
  refine Eq.trans (mCall_eq (d := d + 0) rfl) ?_
  show mEv X (mCall mD X (d + 0)) 0 t_X4_turnYellow (mDrop t_X4_turnYellow 0) [some (mr i r), some (mi x1)] [] (mU g i c) = _
  refine Eq.trans (e_X4_turnYellow_0 h_r) ?_
  try simp only [mU_same, mU_mU]
  refine Eq.trans (e_X4_turnYellow_5 h_r) ?_
  try simp only [mU_same, mU_mU]
  refine Eq.trans (e_X4_turnYellow_10 h_r) ?_
  try simp only [mU_same, mU_mU]
  refine Eq.trans (e_X4_turnYellow_15 h_r) ?_
  try simp only [mU_same, mU_mU]
  refine Eq.trans (e_X4_turnYellow_20 h_r) ?_
  try simp only [mU_same, mU_mU]
  all_goals rfl
theorem rr_X4_turnYellow_at (d : Nat) {X : mX} {g : mG} {i r : Nat} (h_r : r = 8 ∨ r = 9) {x1 : Int32} : mCall mD X (d + 1) 94 [mr i r, mi x1] g = some (none, mU g i (P_X4_turnYellow r (g i) x1)) := by
  have h := rr_X4_turnYellow (X := X) d (g := g) (c := g i) h_r (x1 := x1) (i := i)
  rw [mU_self] at h
  exact h
theorem e_X4_turnGreen_0 {X : mX} {call : Nat → List mV → mG → mR} {g : mG} {x1 x2 : Int32} {i r : Nat} (h_r : r = 8 ∨ r = 9) : mEv X call 0 t_X4_turnGreen (mDrop t_X4_turnGreen 0) [some (mr i r), some (mi x1), some (mi x2)] [] g = mEv X call 0 t_X4_turnGreen (mDrop t_X4_turnGreen 5) [some (mr i r), some (mi x1), some (mi x2)] [] (mU g i (mP (g i) r 1 x1)) := by
  rcases h_r with rfl | rfl <;> exact (mEv_3 _ _ _ _).trans rfl
theorem e_X4_turnGreen_5 {X : mX} {call : Nat → List mV → mG → mR} {g : mG} {x1 x2 : Int32} {i r : Nat} (h_r : r = 8 ∨ r = 9) : mEv X call 0 t_X4_turnGreen (mDrop t_X4_turnGreen 5) [some (mr i r), some (mi x1), some (mi x2)] [] g = mEv X call 0 t_X4_turnGreen (mDrop t_X4_turnGreen 10) [some (mr i r), some (mi x1), some (mi x2)] [] (mU g i (mP (g i) r 2 0)) := by
  rcases h_r with rfl | rfl <;> exact (mEv_3 _ _ _ _).trans rfl
theorem e_X4_turnGreen_10 {X : mX} {call : Nat → List mV → mG → mR} {g : mG} {x1 x2 : Int32} {i r : Nat} (h_r : r = 8 ∨ r = 9) : mEv X call 0 t_X4_turnGreen (mDrop t_X4_turnGreen 10) [some (mr i r), some (mi x1), some (mi x2)] [] g = mEv X call 0 t_X4_turnGreen (mDrop t_X4_turnGreen 15) [some (mr i r), some (mi x1), some (mi x2)] [] (mU g i (mP (g i) r 3 0)) := by
  rcases h_r with rfl | rfl <;> exact (mEv_3 _ _ _ _).trans rfl
theorem e_X4_turnGreen_15 {X : mX} {call : Nat → List mV → mG → mR} {g : mG} {x1 x2 : Int32} {i r : Nat} (h_r : r = 8 ∨ r = 9) : mEv X call 0 t_X4_turnGreen (mDrop t_X4_turnGreen 15) [some (mr i r), some (mi x1), some (mi x2)] [] g = mEv X call 0 t_X4_turnGreen (mDrop t_X4_turnGreen 20) [some (mr i r), some (mi x1), some (mi x2)] [] (mU g i (mP (g i) r 4 (-1))) := by
  rcases h_r with rfl | rfl <;> exact (mEv_3 _ _ _ _).trans rfl
theorem e_X4_turnGreen_20 {X : mX} {call : Nat → List mV → mG → mR} {g : mG} {x1 x2 : Int32} {i r : Nat} (h_r : r = 8 ∨ r = 9) : mEv X call 0 t_X4_turnGreen (mDrop t_X4_turnGreen 20) [some (mr i r), some (mi x1), some (mi x2)] [] g = mEv X call 0 t_X4_turnGreen (mDrop t_X4_turnGreen 25) [some (mr i r), some (mi x1), some (mi x2)] [] (mU g i (mP (g i) r 5 0)) := by
  rcases h_r with rfl | rfl <;> exact (mEv_3 _ _ _ _).trans rfl
theorem e_X4_turnGreen_25 {X : mX} {call : Nat → List mV → mG → mR} {g : mG} {x1 x2 : Int32} {i r : Nat} (h_r : r = 8 ∨ r = 9) : mEv X call 0 t_X4_turnGreen (mDrop t_X4_turnGreen 25) [some (mr i r), some (mi x1), some (mi x2)] [] g = mEv X call 0 t_X4_turnGreen (mDrop t_X4_turnGreen 30) [some (mr i r), some (mi x1), some (mi x2)] [] (mU g i (mP (g i) r 6 0)) := by
  rcases h_r with rfl | rfl <;> exact (mEv_3 _ _ _ _).trans rfl
theorem e_X4_turnGreen_30 {X : mX} {call : Nat → List mV → mG → mR} {g : mG} {x1 x2 : Int32} {i r : Nat} (h_r : r = 8 ∨ r = 9) : mEv X call 0 t_X4_turnGreen (mDrop t_X4_turnGreen 30) [some (mr i r), some (mi x1), some (mi x2)] [] g = mEv X call 0 t_X4_turnGreen (mDrop t_X4_turnGreen 35) [some (mr i r), some (mi x1), some (mi x2)] [] (mU g i (mP (g i) r 8 0)) := by
  rcases h_r with rfl | rfl <;> exact (mEv_3 _ _ _ _).trans rfl
theorem e_X4_turnGreen_35 {X : mX} {call : Nat → List mV → mG → mR} {g : mG} {x1 x2 : Int32} {i r : Nat} (h_r : r = 8 ∨ r = 9) : mEv X call 0 t_X4_turnGreen (mDrop t_X4_turnGreen 35) [some (mr i r), some (mi x1), some (mi x2)] [] g = if x2 = 0 then mEv X call 0 t_X4_turnGreen (mDrop t_X4_turnGreen 44) [some (mr i r), some (mi x1), some (mi x2)] [mr i r] g else mEv X call 0 t_X4_turnGreen (mDrop t_X4_turnGreen 40) [some (mr i r), some (mi x1), some (mi x2)] [mr i r] g := by
  rcases h_r with rfl | rfl <;> exact (mEv_3 _ _ _ _).trans rfl
theorem e_X4_turnGreen_44 {X : mX} {call : Nat → List mV → mG → mR} {g : mG} {x1 x2 : Int32} {i r : Nat} (h_r : r = 8 ∨ r = 9) : mEv X call 0 t_X4_turnGreen (mDrop t_X4_turnGreen 44) [some (mr i r), some (mi x1), some (mi x2)] [mr i r] g = mEv X call 0 t_X4_turnGreen (mDrop t_X4_turnGreen 45) [some (mr i r), some (mi x1), some (mi x2)] [mi 0, mr i r] g := by
  rcases h_r with rfl | rfl <;> exact (mEv_1 _ _ _ _).trans rfl
theorem e_X4_turnGreen_45 {X : mX} {call : Nat → List mV → mG → mR} {g : mG} {x1 x2 s1 : Int32} {i r : Nat} (h_r : r = 8 ∨ r = 9) : mEv X call 0 t_X4_turnGreen (mDrop t_X4_turnGreen 45) [some (mr i r), some (mi x1), some (mi x2)] [mi s1, mr i r] g = mEv X call 0 t_X4_turnGreen (mDrop t_X4_turnGreen 48) [some (mr i r), some (mi x1), some (mi x2)] [] (mU g i (mP (g i) r 7 s1)) := by
  rcases h_r with rfl | rfl <;> exact (mEv_1 _ _ _ _).trans rfl
theorem e_X4_turnGreen_48 {X : mX} {call : Nat → List mV → mG → mR} {g : mG} {x1 x2 : Int32} {i r : Nat} (h_r : r = 8 ∨ r = 9) : mEv X call 0 t_X4_turnGreen (mDrop t_X4_turnGreen 48) [some (mr i r), some (mi x1), some (mi x2)] [] g = some (none, g) := by
  rcases h_r with rfl | rfl <;> exact (mEv_1 _ _ _ _).trans rfl
noncomputable def J_X4_turnGreen_45 (r : Nat) (c : mC) (s1 : Int32) : (mC) := (mP c r 7 s1)
theorem rj_X4_turnGreen_45 (d : Nat) {X : mX} {g : mG} {i r : Nat} (h_r : r = 8 ∨ r = 9) {x1 x2 s1 : Int32} {c : mC} : mEv X (mCall mD X (d + 0)) 0 t_X4_turnGreen (mDrop t_X4_turnGreen 45) [some (mr i r), some (mi x1), some (mi x2)] [mi s1, mr i r] (mU g i c) = (wV g i) (J_X4_turnGreen_45 r c s1) := by
  refine Eq.trans (e_X4_turnGreen_45 h_r) ?_
  try simp only [mU_same, mU_mU]
  refine Eq.trans (e_X4_turnGreen_48 h_r) ?_
  try simp only [mU_same, mU_mU]
  all_goals rfl
theorem e_X4_turnGreen_40 {X : mX} {call : Nat → List mV → mG → mR} {g : mG} {x1 x2 : Int32} {i r : Nat} (h_r : r = 8 ∨ r = 9) : mEv X call 0 t_X4_turnGreen (mDrop t_X4_turnGreen 40) [some (mr i r), some (mi x1), some (mi x2)] [mr i r] g = mEv X call 0 t_X4_turnGreen (mDrop t_X4_turnGreen 45) [some (mr i r), some (mi x1), some (mi x2)] [mi 1, mr i r] g := by
  rcases h_r with rfl | rfl <;> exact (mEv_2 _ _ _ _).trans rfl
noncomputable def P_X4_turnGreen (r : Nat) (c : mC) (x1 : Int32) (x2 : Int32) : (mC) := (if x2 = 0 then (J_X4_turnGreen_45 r (mP (mP (mP (mP (mP (mP (mP c r 1 x1) r 2 0) r 3 0) r 4 (-1)) r 5 0) r 6 0) r 8 0) 0) else (J_X4_turnGreen_45 r (mP (mP (mP (mP (mP (mP (mP c r 1 x1) r 2 0) r 3 0) r 4 (-1)) r 5 0) r 6 0) r 8 0) 1))
theorem rr_X4_turnGreen (d : Nat) {X : mX} {g : mG} {i r : Nat} (h_r : r = 8 ∨ r = 9) {x1 x2 : Int32} {c : mC} : mCall mD X (d + 1) 93 [mr i r, mi x1, mi x2] (mU g i c) = (wV g i) (P_X4_turnGreen r c x1 x2) := by
  refine Eq.trans (mCall_eq (d := d + 0) rfl) ?_
  show mEv X (mCall mD X (d + 0)) 0 t_X4_turnGreen (mDrop t_X4_turnGreen 0) [some (mr i r), some (mi x1), some (mi x2)] [] (mU g i c) = _
  refine Eq.trans (e_X4_turnGreen_0 h_r) ?_
  try simp only [mU_same, mU_mU]
  refine Eq.trans (e_X4_turnGreen_5 h_r) ?_
  try simp only [mU_same, mU_mU]
  refine Eq.trans (e_X4_turnGreen_10 h_r) ?_
  try simp only [mU_same, mU_mU]
  refine Eq.trans (e_X4_turnGreen_15 h_r) ?_
  try simp only [mU_same, mU_mU]
  refine Eq.trans (e_X4_turnGreen_20 h_r) ?_
  try simp only [mU_same, mU_mU]
  refine Eq.trans (e_X4_turnGreen_25 h_r) ?_
  try simp only [mU_same, mU_mU]
  refine Eq.trans (e_X4_turnGreen_30 h_r) ?_
  try simp only [mU_same, mU_mU]
  refine Eq.trans (e_X4_turnGreen_35 h_r) ?_
  try simp only [mU_same, mU_mU]
  refine mw_ite (fun h1 => ?_) (fun h1 => ?_)
  · refine Eq.trans (e_X4_turnGreen_44 h_r) ?_
    try simp only [mU_same, mU_mU]
    exact rj_X4_turnGreen_45 d h_r
  · refine Eq.trans (e_X4_turnGreen_40 h_r) ?_
    try simp only [mU_same, mU_mU]
    exact rj_X4_turnGreen_45 d h_r
theorem rr_X4_turnGreen_at (d : Nat) {X : mX} {g : mG} {i r : Nat} (h_r : r = 8 ∨ r = 9) {x1 x2 : Int32} : mCall mD X (d + 1) 93 [mr i r, mi x1, mi x2] g = some (none, mU g i (P_X4_turnGreen r (g i) x1 x2)) := by
  have h := rr_X4_turnGreen (X := X) d (g := g) (c := g i) h_r (x1 := x1) (x2 := x2) (i := i)
  rw [mU_self] at h
  exact h
theorem e_X1_tell_0 {X : mX} {call : Nat → List mV → mG → mR} {g : mG} {x1 x2 : Int32} {i : Nat} : mEv X call 1 t_X1_tell (mDrop t_X1_tell 0) [some (mr i 10), some (mi x1), some (mi x2), none] [] g = mAns (mEv X call 1 t_X1_tell) (mDrop t_X1_tell 13) [some (mr i 10), some (mi x1), some (mi x2), none] [] (call 276 [mi (((g i 10 4) - 1) - x1), mi 32] g) := (mEv_8 _ _ _ _).trans rfl
theorem e_X1_tell_13 {X : mX} {call : Nat → List mV → mG → mR} {g : mG} {x1 x2 s0 : Int32} {i : Nat} : mEv X call 1 t_X1_tell (mDrop t_X1_tell 13) [some (mr i 10), some (mi x1), some (mi x2), none] [mi s0] g = if x2 = 0 then mEv X call 1 t_X1_tell (mDrop t_X1_tell 40) [some (mr i 10), some (mi x1), some (mi x2), some (mi s0)] [] g else (if x2 = 1 then mEv X call 1 t_X1_tell (mDrop t_X1_tell 49) [some (mr i 10), some (mi x1), some (mi x2), some (mi s0)] [] g else (mEv X call 1 t_X1_tell (mDrop t_X1_tell 58) [some (mr i 10), some (mi x1), some (mi x2), some (mi s0)] [] g)) := (mEv_3 _ _ _ _).trans rfl
theorem e_X1_tell_58 {X : mX} {call : Nat → List mV → mG → mR} {g : mG} {x1 x2 x3 : Int32} {i : Nat} : mEv X call 1 t_X1_tell (mDrop t_X1_tell 58) [some (mr i 10), some (mi x1), some (mi x2), some (mi x3)] [] g = mAns (mEv X call 1 t_X1_tell) (mDrop t_X1_tell 66) [some (mr i 10), some (mi x1), some (mi x2), some (mi x3)] [] (call 142 [mr i 13, mi x3] g) := (mEv_4 _ _ _ _).trans rfl
theorem e_X1_tell_66 {X : mX} {call : Nat → List mV → mG → mR} {g : mG} {x1 x2 x3 s0 : Int32} {i : Nat} : mEv X call 1 t_X1_tell (mDrop t_X1_tell 66) [some (mr i 10), some (mi x1), some (mi x2), some (mi x3)] [mi s0] g = some (some (mi s0), g) := (mEv_1 _ _ _ _).trans rfl
theorem e_X1_tell_40 {X : mX} {call : Nat → List mV → mG → mR} {g : mG} {x1 x2 x3 : Int32} {i : Nat} : mEv X call 1 t_X1_tell (mDrop t_X1_tell 40) [some (mr i 10), some (mi x1), some (mi x2), some (mi x3)] [] g = mAns (mEv X call 1 t_X1_tell) (mDrop t_X1_tell 48) [some (mr i 10), some (mi x1), some (mi x2), some (mi x3)] [] (call 142 [mr i 11, mi x3] g) := (mEv_4 _ _ _ _).trans rfl
theorem e_X1_tell_48 {X : mX} {call : Nat → List mV → mG → mR} {g : mG} {x1 x2 x3 s0 : Int32} {i : Nat} : mEv X call 1 t_X1_tell (mDrop t_X1_tell 48) [some (mr i 10), some (mi x1), some (mi x2), some (mi x3)] [mi s0] g = some (some (mi s0), g) := (mEv_1 _ _ _ _).trans rfl
theorem e_X1_tell_49 {X : mX} {call : Nat → List mV → mG → mR} {g : mG} {x1 x2 x3 : Int32} {i : Nat} : mEv X call 1 t_X1_tell (mDrop t_X1_tell 49) [some (mr i 10), some (mi x1), some (mi x2), some (mi x3)] [] g = mAns (mEv X call 1 t_X1_tell) (mDrop t_X1_tell 57) [some (mr i 10), some (mi x1), some (mi x2), some (mi x3)] [] (call 142 [mr i 12, mi x3] g) := (mEv_4 _ _ _ _).trans rfl
theorem e_X1_tell_57 {X : mX} {call : Nat → List mV → mG → mR} {g : mG} {x1 x2 x3 s0 : Int32} {i : Nat} : mEv X call 1 t_X1_tell (mDrop t_X1_tell 57) [some (mr i 10), some (mi x1), some (mi x2), some (mi x3)] [mi s0] g = some (some (mi s0), g) := (mEv_1 _ _ _ _).trans rfl
noncomputable def P_X1_tell (c : mC) (x1 : Int32) (x2 : Int32) : (Int32) := (mBd (α := Int32) (mFm (((c 10 4) - 1) - x1) 32) (fun v1 => (if x2 = 0 then (mBd (α := Int32) (cl 32 (c 11) v1) (fun v3 => v3)) else (if x2 = 1 then (mBd (α := Int32) (cl 32 (c 12) v1) (fun v4 => v4)) else (mBd (α := Int32) (cl 32 (c 13) v1) (fun v2 => v2))))))
theorem rr_X1_tell (d : Nat) {X : mX} {g : mG} {i : Nat} {x1 x2 : Int32} {c : mC} : mCall mD X (d + 2) 50 [mr i 10, mi x1, mi x2] (mU g i c) = (wI g i c) (P_X1_tell c x1 x2) := by
  refine Eq.trans (mCall_eq (d := d + 1) rfl) ?_
  show mEv X (mCall mD X (d + 1)) 1 t_X1_tell (mDrop t_X1_tell 0) [some (mr i 10), some (mi x1), some (mi x2), none] [] (mU g i c) = _
  refine Eq.trans (e_X1_tell_0) ?_
  try simp only [mU_same, mU_mU]
  refine mw_cI (rr_J9_floorMod_7cf53 d (by first | decide | exact mne_pos (by assumption) | exact mne_pos2 (by assumption))) (fun v1 => ?_)
  refine Eq.trans (e_X1_tell_13) ?_
  try simp only [mU_same, mU_mU]
  refine mw_ite (fun _ => ?_) (fun _ => ?_)
  · refine Eq.trans (e_X1_tell_40) ?_
    try simp only [mU_same, mU_mU]
    refine mw_cI (rr_X5_cell_11 d) (fun v3 => ?_)
    refine Eq.trans (e_X1_tell_48) ?_
    try simp only [mU_same, mU_mU]
    all_goals rfl
  · refine mw_ite (fun _ => ?_) (fun _ => ?_)
    · refine Eq.trans (e_X1_tell_49) ?_
      try simp only [mU_same, mU_mU]
      refine mw_cI (rr_X5_cell_12 d) (fun v4 => ?_)
      refine Eq.trans (e_X1_tell_57) ?_
      try simp only [mU_same, mU_mU]
      all_goals rfl
    · refine Eq.trans (e_X1_tell_58) ?_
      try simp only [mU_same, mU_mU]
      refine mw_cI (rr_X5_cell_13 d) (fun v2 => ?_)
      refine Eq.trans (e_X1_tell_66) ?_
      try simp only [mU_same, mU_mU]
      all_goals rfl
theorem rr_X1_tell_at (d : Nat) {X : mX} {g : mG} {i : Nat} {x1 x2 : Int32} : mCall mD X (d + 2) 50 [mr i 10, mi x1, mi x2] g = wN g (P_X1_tell (g i) x1 x2) := by
  have h := rr_X1_tell (X := X) d (g := g) (c := g i) (x1 := x1) (x2 := x2) (i := i)
  rw [mU_self] at h
  exact h.trans (wI_self _ _ _)
theorem e_X5_isCycle_0 {X : mX} {call : Nat → List mV → mG → mR} {g : mG} {x0 : Int32} : mEv X call 2 t_X5_isCycle (mDrop t_X5_isCycle 0) [some (mi x0)] [] g = if x0 = 0 then mEv X call 2 t_X5_isCycle (mDrop t_X5_isCycle 17) [some (mi x0)] [] g else mEv X call 2 t_X5_isCycle (mDrop t_X5_isCycle 4) [some (mi x0)] [] g := (mEv_2 _ _ _ _).trans rfl
theorem e_X5_isCycle_17 {X : mX} {call : Nat → List mV → mG → mR} {g : mG} {x0 : Int32} : mEv X call 2 t_X5_isCycle (mDrop t_X5_isCycle 17) [some (mi x0)] [] g = mEv X call 2 t_X5_isCycle (mDrop t_X5_isCycle 22) [some (mi x0)] [mi 1] g := (mEv_2 _ _ _ _).trans rfl
theorem e_X5_isCycle_22 {X : mX} {call : Nat → List mV → mG → mR} {g : mG} {x0 s0 : Int32} : mEv X call 2 t_X5_isCycle (mDrop t_X5_isCycle 22) [some (mi x0)] [mi s0] g = if (s0 : Int32) &&& 1 = s0 then some (some (mi s0), g) else none := (mEv_1 _ _ _ _).trans rfl
noncomputable def J_X5_isCycle_17  : (Int32) := 1
theorem rj_X5_isCycle_17 (d : Nat) {X : mX} {g : mG} {x0 : Int32} : mEv X (mCall mD X (d + 0)) 2 t_X5_isCycle (mDrop t_X5_isCycle 17) [some (mi x0)] [] g = (wN g) (J_X5_isCycle_17 ) := by
  refine Eq.trans (e_X5_isCycle_17) ?_
  refine Eq.trans (e_X5_isCycle_22) ?_
  exact if_pos (by decide)
theorem e_X5_isCycle_4 {X : mX} {call : Nat → List mV → mG → mR} {g : mG} {x0 : Int32} : mEv X call 2 t_X5_isCycle (mDrop t_X5_isCycle 4) [some (mi x0)] [] g = if x0 < 20 then mEv X call 2 t_X5_isCycle (mDrop t_X5_isCycle 21) [some (mi x0)] [] g else mEv X call 2 t_X5_isCycle (mDrop t_X5_isCycle 10) [some (mi x0)] [] g := (mEv_3 _ _ _ _).trans rfl
theorem e_X5_isCycle_21 {X : mX} {call : Nat → List mV → mG → mR} {g : mG} {x0 : Int32} : mEv X call 2 t_X5_isCycle (mDrop t_X5_isCycle 21) [some (mi x0)] [] g = mEv X call 2 t_X5_isCycle (mDrop t_X5_isCycle 22) [some (mi x0)] [mi 0] g := (mEv_1 _ _ _ _).trans rfl
noncomputable def J_X5_isCycle_21  : (Int32) := 0
theorem rj_X5_isCycle_21 (d : Nat) {X : mX} {g : mG} {x0 : Int32} : mEv X (mCall mD X (d + 0)) 2 t_X5_isCycle (mDrop t_X5_isCycle 21) [some (mi x0)] [] g = (wN g) (J_X5_isCycle_21 ) := by
  refine Eq.trans (e_X5_isCycle_21) ?_
  refine Eq.trans (e_X5_isCycle_22) ?_
  exact if_pos (by decide)
theorem e_X5_isCycle_10 {X : mX} {call : Nat → List mV → mG → mR} {g : mG} {x0 : Int32} : mEv X call 2 t_X5_isCycle (mDrop t_X5_isCycle 10) [some (mi x0)] [] g = if 240 < x0 then mEv X call 2 t_X5_isCycle (mDrop t_X5_isCycle 21) [some (mi x0)] [] g else mEv X call 2 t_X5_isCycle (mDrop t_X5_isCycle 17) [some (mi x0)] [] g := (mEv_3 _ _ _ _).trans rfl
noncomputable def P_X5_isCycle (x0 : Int32) : (Int32) := (if x0 = 0 then (J_X5_isCycle_17 ) else (if x0 < 20 then (J_X5_isCycle_21 ) else (if 240 < x0 then (J_X5_isCycle_21 ) else (J_X5_isCycle_17 ))))
theorem rr_X5_isCycle (d : Nat) {X : mX} {g : mG} {x0 : Int32} : mCall mD X (d + 1) 139 [mi x0] g = (wN g) (P_X5_isCycle x0) := by
  refine Eq.trans (mCall_eq (d := d + 0) rfl) ?_
  show mEv X (mCall mD X (d + 0)) 2 t_X5_isCycle (mDrop t_X5_isCycle 0) [some (mi x0)] [] g = _
  refine Eq.trans (e_X5_isCycle_0) ?_
  refine mw_ite (fun h3 => ?_) (fun h3 => ?_)
  · exact rj_X5_isCycle_17 d
  · refine Eq.trans (e_X5_isCycle_4) ?_
    refine mw_ite (fun h2 => ?_) (fun h2 => ?_)
    · exact rj_X5_isCycle_21 d
    · refine Eq.trans (e_X5_isCycle_10) ?_
      refine mw_ite (fun h1 => ?_) (fun h1 => ?_)
      · exact rj_X5_isCycle_21 d
      · exact rj_X5_isCycle_17 d
theorem e_X5_isBreak_0 {X : mX} {call : Nat → List mV → mG → mR} {g : mG} {x0 : Int32} : mEv X call 2 t_X5_isBreak (mDrop t_X5_isBreak 0) [some (mi x0)] [] g = if x0 = 0 then mEv X call 2 t_X5_isBreak (mDrop t_X5_isBreak 9) [some (mi x0)] [] g else mEv X call 2 t_X5_isBreak (mDrop t_X5_isBreak 4) [some (mi x0)] [] g := (mEv_2 _ _ _ _).trans rfl
theorem e_X5_isBreak_9 {X : mX} {call : Nat → List mV → mG → mR} {g : mG} {x0 : Int32} : mEv X call 2 t_X5_isBreak (mDrop t_X5_isBreak 9) [some (mi x0)] [] g = mEv X call 2 t_X5_isBreak (mDrop t_X5_isBreak 14) [some (mi x0)] [mi 1] g := (mEv_2 _ _ _ _).trans rfl
theorem e_X5_isBreak_14 {X : mX} {call : Nat → List mV → mG → mR} {g : mG} {x0 s0 : Int32} : mEv X call 2 t_X5_isBreak (mDrop t_X5_isBreak 14) [some (mi x0)] [mi s0] g = if (s0 : Int32) &&& 1 = s0 then some (some (mi s0), g) else none := (mEv_1 _ _ _ _).trans rfl
noncomputable def J_X5_isBreak_9  : (Int32) := 1
theorem rj_X5_isBreak_9 (d : Nat) {X : mX} {g : mG} {x0 : Int32} : mEv X (mCall mD X (d + 0)) 2 t_X5_isBreak (mDrop t_X5_isBreak 9) [some (mi x0)] [] g = (wN g) (J_X5_isBreak_9 ) := by
  refine Eq.trans (e_X5_isBreak_9) ?_
  refine Eq.trans (e_X5_isBreak_14) ?_
  exact if_pos (by decide)
theorem e_X5_isBreak_4 {X : mX} {call : Nat → List mV → mG → mR} {g : mG} {x0 : Int32} : mEv X call 2 t_X5_isBreak (mDrop t_X5_isBreak 4) [some (mi x0)] [] g = if x0 = 1 then mEv X call 2 t_X5_isBreak (mDrop t_X5_isBreak 9) [some (mi x0)] [] g else mEv X call 2 t_X5_isBreak (mDrop t_X5_isBreak 13) [some (mi x0)] [] g := (mEv_3 _ _ _ _).trans rfl
theorem e_X5_isBreak_13 {X : mX} {call : Nat → List mV → mG → mR} {g : mG} {x0 : Int32} : mEv X call 2 t_X5_isBreak (mDrop t_X5_isBreak 13) [some (mi x0)] [] g = mEv X call 2 t_X5_isBreak (mDrop t_X5_isBreak 14) [some (mi x0)] [mi 0] g := (mEv_1 _ _ _ _).trans rfl
noncomputable def P_X5_isBreak (x0 : Int32) : (Int32) := (if x0 = 0 then (J_X5_isBreak_9 ) else (if x0 = 1 then (J_X5_isBreak_9 ) else 0))
theorem rr_X5_isBreak (d : Nat) {X : mX} {g : mG} {x0 : Int32} : mCall mD X (d + 1) 138 [mi x0] g = (wN g) (P_X5_isBreak x0) := by
  refine Eq.trans (mCall_eq (d := d + 0) rfl) ?_
  show mEv X (mCall mD X (d + 0)) 2 t_X5_isBreak (mDrop t_X5_isBreak 0) [some (mi x0)] [] g = _
  refine Eq.trans (e_X5_isBreak_0) ?_
  refine mw_ite (fun h2 => ?_) (fun h2 => ?_)
  · exact rj_X5_isBreak_9 d
  · refine Eq.trans (e_X5_isBreak_4) ?_
    refine mw_ite (fun h1 => ?_) (fun h1 => ?_)
    · exact rj_X5_isBreak_9 d
    · refine Eq.trans (e_X5_isBreak_13) ?_
      refine Eq.trans (e_X5_isBreak_14) ?_
      exact if_pos (by decide)
theorem e_X5_isOffset_0 {X : mX} {call : Nat → List mV → mG → mR} {g : mG} {x0 : Int32} : mEv X call 2 t_X5_isOffset (mDrop t_X5_isOffset 0) [some (mi x0)] [] g = if x0 < 0 then mEv X call 2 t_X5_isOffset (mDrop t_X5_isOffset 15) [some (mi x0)] [] g else mEv X call 2 t_X5_isOffset (mDrop t_X5_isOffset 4) [some (mi x0)] [] g := (mEv_2 _ _ _ _).trans rfl
theorem e_X5_isOffset_15 {X : mX} {call : Nat → List mV → mG → mR} {g : mG} {x0 : Int32} : mEv X call 2 t_X5_isOffset (mDrop t_X5_isOffset 15) [some (mi x0)] [] g = mEv X call 2 t_X5_isOffset (mDrop t_X5_isOffset 16) [some (mi x0)] [mi 0] g := (mEv_1 _ _ _ _).trans rfl
theorem e_X5_isOffset_16 {X : mX} {call : Nat → List mV → mG → mR} {g : mG} {x0 s0 : Int32} : mEv X call 2 t_X5_isOffset (mDrop t_X5_isOffset 16) [some (mi x0)] [mi s0] g = if (s0 : Int32) &&& 1 = s0 then some (some (mi s0), g) else none := (mEv_1 _ _ _ _).trans rfl
noncomputable def J_X5_isOffset_15  : (Int32) := 0
theorem rj_X5_isOffset_15 (d : Nat) {X : mX} {g : mG} {x0 : Int32} : mEv X (mCall mD X (d + 0)) 2 t_X5_isOffset (mDrop t_X5_isOffset 15) [some (mi x0)] [] g = (wN g) (J_X5_isOffset_15 ) := by
  refine Eq.trans (e_X5_isOffset_15) ?_
  refine Eq.trans (e_X5_isOffset_16) ?_
  exact if_pos (by decide)
theorem e_X5_isOffset_4 {X : mX} {call : Nat → List mV → mG → mR} {g : mG} {x0 : Int32} : mEv X call 2 t_X5_isOffset (mDrop t_X5_isOffset 4) [some (mi x0)] [] g = if 239 < x0 then mEv X call 2 t_X5_isOffset (mDrop t_X5_isOffset 15) [some (mi x0)] [] g else mEv X call 2 t_X5_isOffset (mDrop t_X5_isOffset 11) [some (mi x0)] [] g := (mEv_3 _ _ _ _).trans rfl
theorem e_X5_isOffset_11 {X : mX} {call : Nat → List mV → mG → mR} {g : mG} {x0 : Int32} : mEv X call 2 t_X5_isOffset (mDrop t_X5_isOffset 11) [some (mi x0)] [] g = mEv X call 2 t_X5_isOffset (mDrop t_X5_isOffset 16) [some (mi x0)] [mi 1] g := (mEv_2 _ _ _ _).trans rfl
noncomputable def P_X5_isOffset (x0 : Int32) : (Int32) := (if x0 < 0 then (J_X5_isOffset_15 ) else (if 239 < x0 then (J_X5_isOffset_15 ) else 1))
theorem rr_X5_isOffset (d : Nat) {X : mX} {g : mG} {x0 : Int32} : mCall mD X (d + 1) 140 [mi x0] g = (wN g) (P_X5_isOffset x0) := by
  refine Eq.trans (mCall_eq (d := d + 0) rfl) ?_
  show mEv X (mCall mD X (d + 0)) 2 t_X5_isOffset (mDrop t_X5_isOffset 0) [some (mi x0)] [] g = _
  refine Eq.trans (e_X5_isOffset_0) ?_
  refine mw_ite (fun h2 => ?_) (fun h2 => ?_)
  · exact rj_X5_isOffset_15 d
  · refine Eq.trans (e_X5_isOffset_4) ?_
    refine mw_ite (fun h1 => ?_) (fun h1 => ?_)
    · exact rj_X5_isOffset_15 d
    · refine Eq.trans (e_X5_isOffset_11) ?_
      refine Eq.trans (e_X5_isOffset_16) ?_
      exact if_pos (by decide)
theorem e_X5_isDwell_0 {X : mX} {call : Nat → List mV → mG → mR} {g : mG} {x0 : Int32} : mEv X call 2 t_X5_isDwell (mDrop t_X5_isDwell 0) [some (mi x0)] [] g = if x0 < 0 then mEv X call 2 t_X5_isDwell (mDrop t_X5_isDwell 14) [some (mi x0)] [] g else mEv X call 2 t_X5_isDwell (mDrop t_X5_isDwell 4) [some (mi x0)] [] g := (mEv_2 _ _ _ _).trans rfl
theorem e_X5_isDwell_14 {X : mX} {call : Nat → List mV → mG → mR} {g : mG} {x0 : Int32} : mEv X call 2 t_X5_isDwell (mDrop t_X5_isDwell 14) [some (mi x0)] [] g = mEv X call 2 t_X5_isDwell (mDrop t_X5_isDwell 15) [some (mi x0)] [mi 0] g := (mEv_1 _ _ _ _).trans rfl
theorem e_X5_isDwell_15 {X : mX} {call : Nat → List mV → mG → mR} {g : mG} {x0 s0 : Int32} : mEv X call 2 t_X5_isDwell (mDrop t_X5_isDwell 15) [some (mi x0)] [mi s0] g = if (s0 : Int32) &&& 1 = s0 then some (some (mi s0), g) else none := (mEv_1 _ _ _ _).trans rfl
noncomputable def J_X5_isDwell_14  : (Int32) := 0
theorem rj_X5_isDwell_14 (d : Nat) {X : mX} {g : mG} {x0 : Int32} : mEv X (mCall mD X (d + 0)) 2 t_X5_isDwell (mDrop t_X5_isDwell 14) [some (mi x0)] [] g = (wN g) (J_X5_isDwell_14 ) := by
  refine Eq.trans (e_X5_isDwell_14) ?_
  refine Eq.trans (e_X5_isDwell_15) ?_
  exact if_pos (by decide)
theorem e_X5_isDwell_4 {X : mX} {call : Nat → List mV → mG → mR} {g : mG} {x0 : Int32} : mEv X call 2 t_X5_isDwell (mDrop t_X5_isDwell 4) [some (mi x0)] [] g = if 30 < x0 then mEv X call 2 t_X5_isDwell (mDrop t_X5_isDwell 14) [some (mi x0)] [] g else mEv X call 2 t_X5_isDwell (mDrop t_X5_isDwell 10) [some (mi x0)] [] g := (mEv_3 _ _ _ _).trans rfl
theorem e_X5_isDwell_10 {X : mX} {call : Nat → List mV → mG → mR} {g : mG} {x0 : Int32} : mEv X call 2 t_X5_isDwell (mDrop t_X5_isDwell 10) [some (mi x0)] [] g = mEv X call 2 t_X5_isDwell (mDrop t_X5_isDwell 15) [some (mi x0)] [mi 1] g := (mEv_2 _ _ _ _).trans rfl
noncomputable def P_X5_isDwell (x0 : Int32) : (Int32) := (if x0 < 0 then (J_X5_isDwell_14 ) else (if 30 < x0 then (J_X5_isDwell_14 ) else 1))
theorem rr_X5_isDwell (d : Nat) {X : mX} {g : mG} {x0 : Int32} : mCall mD X (d + 1) 141 [mi x0] g = (wN g) (P_X5_isDwell x0) := by
  refine Eq.trans (mCall_eq (d := d + 0) rfl) ?_
  show mEv X (mCall mD X (d + 0)) 2 t_X5_isDwell (mDrop t_X5_isDwell 0) [some (mi x0)] [] g = _
  refine Eq.trans (e_X5_isDwell_0) ?_
  refine mw_ite (fun h2 => ?_) (fun h2 => ?_)
  · exact rj_X5_isDwell_14 d
  · refine Eq.trans (e_X5_isDwell_4) ?_
    refine mw_ite (fun h1 => ?_) (fun h1 => ?_)
    · exact rj_X5_isDwell_14 d
    · refine Eq.trans (e_X5_isDwell_10) ?_
      refine Eq.trans (e_X5_isDwell_15) ?_
      exact if_pos (by decide)
