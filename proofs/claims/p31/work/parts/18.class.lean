theorem e_X2_takeFrom_0 {X : mX} {call : Nat → List mV → mG → mR} {g : mG} {i o : Nat} : mEv X call 0 t_X2_takeFrom (mDrop t_X2_takeFrom 0) [some (mr i 1), some (mr o 1)] [] g = mEv X call 0 t_X2_takeFrom (mDrop t_X2_takeFrom 8) [some (mr i 1), some (mr o 1)] [] (mU g i (mP (g i) 1 0 (g o 1 0))) := (mEv_4 _ _ _ _).trans rfl
theorem e_X2_takeFrom_8 {X : mX} {call : Nat → List mV → mG → mR} {g : mG} {i o : Nat} : mEv X call 0 t_X2_takeFrom (mDrop t_X2_takeFrom 8) [some (mr i 1), some (mr o 1)] [] g = mEv X call 0 t_X2_takeFrom (mDrop t_X2_takeFrom 16) [some (mr i 1), some (mr o 1)] [] (mU g i (mP (g i) 1 1 (g o 1 1))) := (mEv_4 _ _ _ _).trans rfl
theorem e_X2_takeFrom_16 {X : mX} {call : Nat → List mV → mG → mR} {g : mG} {i o : Nat} : mEv X call 0 t_X2_takeFrom (mDrop t_X2_takeFrom 16) [some (mr i 1), some (mr o 1)] [] g = mEv X call 0 t_X2_takeFrom (mDrop t_X2_takeFrom 24) [some (mr i 1), some (mr o 1)] [] (mU g i (mP (g i) 1 2 (g o 1 2))) := (mEv_4 _ _ _ _).trans rfl
theorem e_X2_takeFrom_24 {X : mX} {call : Nat → List mV → mG → mR} {g : mG} {i o : Nat} : mEv X call 0 t_X2_takeFrom (mDrop t_X2_takeFrom 24) [some (mr i 1), some (mr o 1)] [] g = mEv X call 0 t_X2_takeFrom (mDrop t_X2_takeFrom 32) [some (mr i 1), some (mr o 1)] [] (mU g i (mP (g i) 1 9 (g o 1 9))) := (mEv_4 _ _ _ _).trans rfl
theorem e_X2_takeFrom_32 {X : mX} {call : Nat → List mV → mG → mR} {g : mG} {i o : Nat} : mEv X call 0 t_X2_takeFrom (mDrop t_X2_takeFrom 32) [some (mr i 1), some (mr o 1)] [] g = mEv X call 0 t_X2_takeFrom (mDrop t_X2_takeFrom 40) [some (mr i 1), some (mr o 1)] [] (mU g i (mP (g i) 1 10 (g o 1 10))) := (mEv_4 _ _ _ _).trans rfl
theorem e_X2_takeFrom_40 {X : mX} {call : Nat → List mV → mG → mR} {g : mG} {i o : Nat} : mEv X call 0 t_X2_takeFrom (mDrop t_X2_takeFrom 40) [some (mr i 1), some (mr o 1)] [] g = mEv X call 0 t_X2_takeFrom (mDrop t_X2_takeFrom 48) [some (mr i 1), some (mr o 1)] [] (mU g i (mP (g i) 1 11 (g o 1 11))) := (mEv_4 _ _ _ _).trans rfl
theorem e_X2_takeFrom_48 {X : mX} {call : Nat → List mV → mG → mR} {g : mG} {i o : Nat} : mEv X call 0 t_X2_takeFrom (mDrop t_X2_takeFrom 48) [some (mr i 1), some (mr o 1)] [] g = mAns (mEv X call 0 t_X2_takeFrom) (mDrop t_X2_takeFrom 59) [some (mr i 1), some (mr o 1)] [] (call 144 [mr o 2, mr i 2] g) := (mEv_5 _ _ _ _).trans rfl
theorem e_X2_takeFrom_59 {X : mX} {call : Nat → List mV → mG → mR} {g : mG} {i o : Nat} : mEv X call 0 t_X2_takeFrom (mDrop t_X2_takeFrom 59) [some (mr i 1), some (mr o 1)] [] g = mAns (mEv X call 0 t_X2_takeFrom) (mDrop t_X2_takeFrom 70) [some (mr i 1), some (mr o 1)] [] (call 144 [mr o 3, mr i 3] g) := (mEv_5 _ _ _ _).trans rfl
theorem e_X2_takeFrom_70 {X : mX} {call : Nat → List mV → mG → mR} {g : mG} {i o : Nat} : mEv X call 0 t_X2_takeFrom (mDrop t_X2_takeFrom 70) [some (mr i 1), some (mr o 1)] [] g = mAns (mEv X call 0 t_X2_takeFrom) (mDrop t_X2_takeFrom 81) [some (mr i 1), some (mr o 1)] [] (call 144 [mr o 4, mr i 4] g) := (mEv_5 _ _ _ _).trans rfl
theorem e_X2_takeFrom_81 {X : mX} {call : Nat → List mV → mG → mR} {g : mG} {i o : Nat} : mEv X call 0 t_X2_takeFrom (mDrop t_X2_takeFrom 81) [some (mr i 1), some (mr o 1)] [] g = mAns (mEv X call 0 t_X2_takeFrom) (mDrop t_X2_takeFrom 92) [some (mr i 1), some (mr o 1)] [] (call 144 [mr o 5, mr i 5] g) := (mEv_5 _ _ _ _).trans rfl
theorem e_X2_takeFrom_92 {X : mX} {call : Nat → List mV → mG → mR} {g : mG} {i o : Nat} : mEv X call 0 t_X2_takeFrom (mDrop t_X2_takeFrom 92) [some (mr i 1), some (mr o 1)] [] g = mAns (mEv X call 0 t_X2_takeFrom) (mDrop t_X2_takeFrom 103) [some (mr i 1), some (mr o 1)] [] (call 144 [mr o 6, mr i 6] g) := (mEv_5 _ _ _ _).trans rfl
theorem e_X2_takeFrom_103 {X : mX} {call : Nat → List mV → mG → mR} {g : mG} {i o : Nat} : mEv X call 0 t_X2_takeFrom (mDrop t_X2_takeFrom 103) [some (mr i 1), some (mr o 1)] [] g = mAns (mEv X call 0 t_X2_takeFrom) (mDrop t_X2_takeFrom 114) [some (mr i 1), some (mr o 1)] [] (call 144 [mr o 7, mr i 7] g) := (mEv_5 _ _ _ _).trans rfl
theorem e_X2_takeFrom_114 {X : mX} {call : Nat → List mV → mG → mR} {g : mG} {i o : Nat} : mEv X call 0 t_X2_takeFrom (mDrop t_X2_takeFrom 114) [some (mr i 1), some (mr o 1)] [] g = some (none, g) := (mEv_1 _ _ _ _).trans rfl
noncomputable def P_X2_takeFrom (c : mC) (co : mC) : (mC) := (mBd (α := mC) (mCp 8 (mP (mP (mP (mP (mP (mP c 1 0 (co 1 0)) 1 1 (co 1 1)) 1 2 (co 1 2)) 1 9 (co 1 9)) 1 10 (co 1 10)) 1 11 (co 1 11)) 2 (co 2)) (fun c1 => (mBd (α := mC) (mCp 8 c1 3 (co 3)) (fun c2 => (mBd (α := mC) (mCp 8 c2 4 (co 4)) (fun c3 => (mBd (α := mC) (mCp 80 c3 5 (co 5)) (fun c4 => (mBd (α := mC) (mCp 10 c4 6 (co 6)) (fun c5 => (mBd (α := mC) (mCp 4 c5 7 (co 7)) (fun c6 => c6))))))))))))
theorem rr_X2_takeFrom (d : Nat) {X : mX} {g : mG} {i o : Nat} (h_o : o ≠ i) {c : mC} : mCall mD X (d + 3) 52 [mr i 1, mr o 1] (mU g i c) = (wV g i) (P_X2_takeFrom c (g o)) := by
  refine Eq.trans (mCall_eq (d := d + 2) rfl) ?_
  show mEv X (mCall mD X (d + 2)) 0 t_X2_takeFrom (mDrop t_X2_takeFrom 0) [some (mr i 1), some (mr o 1)] [] (mU g i c) = _
  refine Eq.trans (e_X2_takeFrom_0) ?_
  try simp only [mU_same, mU_mU, mU_ne _ _ h_o]
  refine Eq.trans (e_X2_takeFrom_8) ?_
  try simp only [mU_same, mU_mU, mU_ne _ _ h_o]
  refine Eq.trans (e_X2_takeFrom_16) ?_
  try simp only [mU_same, mU_mU, mU_ne _ _ h_o]
  refine Eq.trans (e_X2_takeFrom_24) ?_
  try simp only [mU_same, mU_mU, mU_ne _ _ h_o]
  refine Eq.trans (e_X2_takeFrom_32) ?_
  try simp only [mU_same, mU_mU, mU_ne _ _ h_o]
  refine Eq.trans (e_X2_takeFrom_40) ?_
  try simp only [mU_same, mU_mU, mU_ne _ _ h_o]
  refine Eq.trans (e_X2_takeFrom_48) ?_
  try simp only [mU_same, mU_mU, mU_ne _ _ h_o]
  refine mw_cV (rr_X5_copyRow_2 d h_o) (fun c1 => ?_)
  refine Eq.trans (e_X2_takeFrom_59) ?_
  try simp only [mU_same, mU_mU, mU_ne _ _ h_o]
  refine mw_cV (rr_X5_copyRow_3 d h_o) (fun c2 => ?_)
  refine Eq.trans (e_X2_takeFrom_70) ?_
  try simp only [mU_same, mU_mU, mU_ne _ _ h_o]
  refine mw_cV (rr_X5_copyRow_4 d h_o) (fun c3 => ?_)
  refine Eq.trans (e_X2_takeFrom_81) ?_
  try simp only [mU_same, mU_mU, mU_ne _ _ h_o]
  refine mw_cV (rr_X5_copyRow_5 d h_o) (fun c4 => ?_)
  refine Eq.trans (e_X2_takeFrom_92) ?_
  try simp only [mU_same, mU_mU, mU_ne _ _ h_o]
  refine mw_cV (rr_X5_copyRow_6 d h_o) (fun c5 => ?_)
  refine Eq.trans (e_X2_takeFrom_103) ?_
  try simp only [mU_same, mU_mU, mU_ne _ _ h_o]
  refine mw_cV (rr_X5_copyRow_7 d h_o) (fun c6 => ?_)
  refine Eq.trans (e_X2_takeFrom_114) ?_
  try simp only [mU_same, mU_mU, mU_ne _ _ h_o]
  all_goals rfl
theorem rr_X2_takeFrom_at (d : Nat) {X : mX} {g : mG} {i o : Nat} (h_o : o ≠ i) : mCall mD X (d + 3) 52 [mr i 1, mr o 1] g = some (none, mU g i (P_X2_takeFrom (g i) (g o))) := by
  have h := rr_X2_takeFrom (X := X) d (g := g) (c := g i) h_o (i := i) (o := o)
  rw [mU_self] at h
  exact h
theorem e_X0_takeFrom_0 {X : mX} {call : Nat → List mV → mG → mR} {g : mG} {i o : Nat} : mEv X call 0 t_X0_takeFrom (mDrop t_X0_takeFrom 0) [some (mr i 0), some (mr o 0)] [] g = mAns (mEv X call 0 t_X0_takeFrom) (mDrop t_X0_takeFrom 11) [some (mr i 0), some (mr o 0)] [] (call 52 [mr i 1, mr o 1] g) := (mEv_5 _ _ _ _).trans rfl
theorem e_X0_takeFrom_11 {X : mX} {call : Nat → List mV → mG → mR} {g : mG} {i o : Nat} : mEv X call 0 t_X0_takeFrom (mDrop t_X0_takeFrom 11) [some (mr i 0), some (mr o 0)] [] g = mAns (mEv X call 0 t_X0_takeFrom) (mDrop t_X0_takeFrom 22) [some (mr i 0), some (mr o 0)] [] (call 89 [mr i 8, mr o 8] g) := (mEv_5 _ _ _ _).trans rfl
theorem e_X0_takeFrom_22 {X : mX} {call : Nat → List mV → mG → mR} {g : mG} {i o : Nat} : mEv X call 0 t_X0_takeFrom (mDrop t_X0_takeFrom 22) [some (mr i 0), some (mr o 0)] [] g = mAns (mEv X call 0 t_X0_takeFrom) (mDrop t_X0_takeFrom 33) [some (mr i 0), some (mr o 0)] [] (call 89 [mr i 9, mr o 9] g) := (mEv_5 _ _ _ _).trans rfl
theorem e_X0_takeFrom_33 {X : mX} {call : Nat → List mV → mG → mR} {g : mG} {i o : Nat} : mEv X call 0 t_X0_takeFrom (mDrop t_X0_takeFrom 33) [some (mr i 0), some (mr o 0)] [] g = mAns (mEv X call 0 t_X0_takeFrom) (mDrop t_X0_takeFrom 44) [some (mr i 0), some (mr o 0)] [] (call 48 [mr i 10, mr o 10] g) := (mEv_5 _ _ _ _).trans rfl
theorem e_X0_takeFrom_44 {X : mX} {call : Nat → List mV → mG → mR} {g : mG} {i o : Nat} : mEv X call 0 t_X0_takeFrom (mDrop t_X0_takeFrom 44) [some (mr i 0), some (mr o 0)] [] g = mAns (mEv X call 0 t_X0_takeFrom) (mDrop t_X0_takeFrom 55) [some (mr i 0), some (mr o 0)] [] (call 144 [mr o 14, mr i 14] g) := (mEv_5 _ _ _ _).trans rfl
theorem e_X0_takeFrom_55 {X : mX} {call : Nat → List mV → mG → mR} {g : mG} {i o : Nat} : mEv X call 0 t_X0_takeFrom (mDrop t_X0_takeFrom 55) [some (mr i 0), some (mr o 0)] [] g = mAns (mEv X call 0 t_X0_takeFrom) (mDrop t_X0_takeFrom 66) [some (mr i 0), some (mr o 0)] [] (call 144 [mr o 15, mr i 15] g) := (mEv_5 _ _ _ _).trans rfl
theorem e_X0_takeFrom_66 {X : mX} {call : Nat → List mV → mG → mR} {g : mG} {i o : Nat} : mEv X call 0 t_X0_takeFrom (mDrop t_X0_takeFrom 66) [some (mr i 0), some (mr o 0)] [] g = mEv X call 0 t_X0_takeFrom (mDrop t_X0_takeFrom 74) [some (mr i 0), some (mr o 0)] [] (mU g i (mP (g i) 0 6 (g o 0 6))) := (mEv_4 _ _ _ _).trans rfl
theorem e_X0_takeFrom_74 {X : mX} {call : Nat → List mV → mG → mR} {g : mG} {i o : Nat} : mEv X call 0 t_X0_takeFrom (mDrop t_X0_takeFrom 74) [some (mr i 0), some (mr o 0)] [] g = mEv X call 0 t_X0_takeFrom (mDrop t_X0_takeFrom 82) [some (mr i 0), some (mr o 0)] [] (mU g i (mP (g i) 0 7 (g o 0 7))) := (mEv_4 _ _ _ _).trans rfl
theorem e_X0_takeFrom_82 {X : mX} {call : Nat → List mV → mG → mR} {g : mG} {i o : Nat} : mEv X call 0 t_X0_takeFrom (mDrop t_X0_takeFrom 82) [some (mr i 0), some (mr o 0)] [] g = mEv X call 0 t_X0_takeFrom (mDrop t_X0_takeFrom 90) [some (mr i 0), some (mr o 0)] [] (mU g i (mP (g i) 0 8 (g o 0 8))) := (mEv_4 _ _ _ _).trans rfl
theorem e_X0_takeFrom_90 {X : mX} {call : Nat → List mV → mG → mR} {g : mG} {i o : Nat} : mEv X call 0 t_X0_takeFrom (mDrop t_X0_takeFrom 90) [some (mr i 0), some (mr o 0)] [] g = mEv X call 0 t_X0_takeFrom (mDrop t_X0_takeFrom 98) [some (mr i 0), some (mr o 0)] [] (mU g i (mP (g i) 0 9 (g o 0 9))) := (mEv_4 _ _ _ _).trans rfl
theorem e_X0_takeFrom_98 {X : mX} {call : Nat → List mV → mG → mR} {g : mG} {i o : Nat} : mEv X call 0 t_X0_takeFrom (mDrop t_X0_takeFrom 98) [some (mr i 0), some (mr o 0)] [] g = mEv X call 0 t_X0_takeFrom (mDrop t_X0_takeFrom 106) [some (mr i 0), some (mr o 0)] [] (mU g i (mP (g i) 0 10 (g o 0 10))) := (mEv_4 _ _ _ _).trans rfl
theorem e_X0_takeFrom_106 {X : mX} {call : Nat → List mV → mG → mR} {g : mG} {i o : Nat} : mEv X call 0 t_X0_takeFrom (mDrop t_X0_takeFrom 106) [some (mr i 0), some (mr o 0)] [] g = mEv X call 0 t_X0_takeFrom (mDrop t_X0_takeFrom 114) [some (mr i 0), some (mr o 0)] [] (mU g i (mP (g i) 0 11 (g o 0 11))) := (mEv_4 _ _ _ _).trans rfl
theorem e_X0_takeFrom_114 {X : mX} {call : Nat → List mV → mG → mR} {g : mG} {i o : Nat} : mEv X call 0 t_X0_takeFrom (mDrop t_X0_takeFrom 114) [some (mr i 0), some (mr o 0)] [] g = mEv X call 0 t_X0_takeFrom (mDrop t_X0_takeFrom 122) [some (mr i 0), some (mr o 0)] [] (mU g i (mP (g i) 0 12 (g o 0 12))) := (mEv_4 _ _ _ _).trans rfl
theorem e_X0_takeFrom_122 {X : mX} {call : Nat → List mV → mG → mR} {g : mG} {i o : Nat} : mEv X call 0 t_X0_takeFrom (mDrop t_X0_takeFrom 122) [some (mr i 0), some (mr o 0)] [] g = mEv X call 0 t_X0_takeFrom (mDrop t_X0_takeFrom 130) [some (mr i 0), some (mr o 0)] [] (mU g i (mP (g i) 0 13 (g o 0 13))) := (mEv_4 _ _ _ _).trans rfl
theorem e_X0_takeFrom_130 {X : mX} {call : Nat → List mV → mG → mR} {g : mG} {i o : Nat} : mEv X call 0 t_X0_takeFrom (mDrop t_X0_takeFrom 130) [some (mr i 0), some (mr o 0)] [] g = mEv X call 0 t_X0_takeFrom (mDrop t_X0_takeFrom 138) [some (mr i 0), some (mr o 0)] [] (mU g i (mP (g i) 0 14 (g o 0 14))) := (mEv_4 _ _ _ _).trans rfl
theorem e_X0_takeFrom_138 {X : mX} {call : Nat → List mV → mG → mR} {g : mG} {i o : Nat} : mEv X call 0 t_X0_takeFrom (mDrop t_X0_takeFrom 138) [some (mr i 0), some (mr o 0)] [] g = if (((g o 0 15) &&& 1) : Int32) &&& 1 = ((g o 0 15) &&& 1) then mEv X call 0 t_X0_takeFrom (mDrop t_X0_takeFrom 146) [some (mr i 0), some (mr o 0)] [] (mU g i (mP (g i) 0 15 ((g o 0 15) &&& 1))) else none := (mEv_4 _ _ _ _).trans rfl
theorem e_X0_takeFrom_146 {X : mX} {call : Nat → List mV → mG → mR} {g : mG} {i o : Nat} : mEv X call 0 t_X0_takeFrom (mDrop t_X0_takeFrom 146) [some (mr i 0), some (mr o 0)] [] g = mEv X call 0 t_X0_takeFrom (mDrop t_X0_takeFrom 154) [some (mr i 0), some (mr o 0)] [] (mU g i (mP (g i) 0 16 (g o 0 16))) := (mEv_4 _ _ _ _).trans rfl
theorem e_X0_takeFrom_154 {X : mX} {call : Nat → List mV → mG → mR} {g : mG} {i o : Nat} : mEv X call 0 t_X0_takeFrom (mDrop t_X0_takeFrom 154) [some (mr i 0), some (mr o 0)] [] g = mEv X call 0 t_X0_takeFrom (mDrop t_X0_takeFrom 162) [some (mr i 0), some (mr o 0)] [] (mU g i (mP (g i) 0 17 (g o 0 17))) := (mEv_4 _ _ _ _).trans rfl
theorem e_X0_takeFrom_162 {X : mX} {call : Nat → List mV → mG → mR} {g : mG} {i o : Nat} : mEv X call 0 t_X0_takeFrom (mDrop t_X0_takeFrom 162) [some (mr i 0), some (mr o 0)] [] g = mEv X call 0 t_X0_takeFrom (mDrop t_X0_takeFrom 170) [some (mr i 0), some (mr o 0)] [] (mU g i (mP (g i) 0 18 (g o 0 18))) := (mEv_4 _ _ _ _).trans rfl
theorem e_X0_takeFrom_170 {X : mX} {call : Nat → List mV → mG → mR} {g : mG} {i o : Nat} : mEv X call 0 t_X0_takeFrom (mDrop t_X0_takeFrom 170) [some (mr i 0), some (mr o 0)] [] g = some (none, g) := (mEv_1 _ _ _ _).trans rfl
noncomputable def P_X0_takeFrom (c : mC) (co : mC) : (mC) := (mBd (α := mC) (P_X2_takeFrom c co) (fun c1 => (mBd (α := mC) (P_X4_takeFrom 8 c1 co) (fun c2 => (mBd (α := mC) (P_X4_takeFrom 9 c2 co) (fun c3 => (mBd (α := mC) (P_X1_takeFrom c3 co) (fun c4 => (mBd (α := mC) (mCp 8 c4 14 (co 14)) (fun c5 => (mBd (α := mC) (mCp 8 c5 15 (co 15)) (fun c6 => (mP (mP (mP (mP (mP (mP (mP (mP (mP (mP (mP (mP (mP c6 0 6 (co 0 6)) 0 7 (co 0 7)) 0 8 (co 0 8)) 0 9 (co 0 9)) 0 10 (co 0 10)) 0 11 (co 0 11)) 0 12 (co 0 12)) 0 13 (co 0 13)) 0 14 (co 0 14)) 0 15 ((co 0 15) &&& 1)) 0 16 (co 0 16)) 0 17 (co 0 17)) 0 18 (co 0 18))))))))))))))
theorem rr_X0_takeFrom (d : Nat) {X : mX} {g : mG} {i o : Nat} (h_o : o ≠ i) {c : mC} : mCall mD X (d + 4) 0 [mr i 0, mr o 0] (mU g i c) = (wV g i) (P_X0_takeFrom c (g o)) := by
  refine Eq.trans (mCall_eq (d := d + 3) rfl) ?_
  show mEv X (mCall mD X (d + 3)) 0 t_X0_takeFrom (mDrop t_X0_takeFrom 0) [some (mr i 0), some (mr o 0)] [] (mU g i c) = _
  refine Eq.trans (e_X0_takeFrom_0) ?_
  try simp only [mU_same, mU_mU, mU_ne _ _ h_o]
  refine mw_cV (rr_X2_takeFrom d h_o) (fun c1 => ?_)
  refine Eq.trans (e_X0_takeFrom_11) ?_
  try simp only [mU_same, mU_mU, mU_ne _ _ h_o]
  refine mw_cV (rr_X4_takeFrom (d + 2) (Or.inl rfl) h_o) (fun c2 => ?_)
  refine Eq.trans (e_X0_takeFrom_22) ?_
  try simp only [mU_same, mU_mU, mU_ne _ _ h_o]
  refine mw_cV (rr_X4_takeFrom (d + 2) (Or.inr rfl) h_o) (fun c3 => ?_)
  refine Eq.trans (e_X0_takeFrom_33) ?_
  try simp only [mU_same, mU_mU, mU_ne _ _ h_o]
  refine mw_cV (rr_X1_takeFrom d h_o) (fun c4 => ?_)
  refine Eq.trans (e_X0_takeFrom_44) ?_
  try simp only [mU_same, mU_mU, mU_ne _ _ h_o]
  refine mw_cV (rr_X5_copyRow_14 (d + 1) h_o) (fun c5 => ?_)
  refine Eq.trans (e_X0_takeFrom_55) ?_
  try simp only [mU_same, mU_mU, mU_ne _ _ h_o]
  refine mw_cV (rr_X5_copyRow_15 (d + 1) h_o) (fun c6 => ?_)
  refine Eq.trans (e_X0_takeFrom_66) ?_
  try simp only [mU_same, mU_mU, mU_ne _ _ h_o]
  refine Eq.trans (e_X0_takeFrom_74) ?_
  try simp only [mU_same, mU_mU, mU_ne _ _ h_o]
  refine Eq.trans (e_X0_takeFrom_82) ?_
  try simp only [mU_same, mU_mU, mU_ne _ _ h_o]
  refine Eq.trans (e_X0_takeFrom_90) ?_
  try simp only [mU_same, mU_mU, mU_ne _ _ h_o]
  refine Eq.trans (e_X0_takeFrom_98) ?_
  try simp only [mU_same, mU_mU, mU_ne _ _ h_o]
  refine Eq.trans (e_X0_takeFrom_106) ?_
  try simp only [mU_same, mU_mU, mU_ne _ _ h_o]
  refine Eq.trans (e_X0_takeFrom_114) ?_
  try simp only [mU_same, mU_mU, mU_ne _ _ h_o]
  refine Eq.trans (e_X0_takeFrom_122) ?_
  try simp only [mU_same, mU_mU, mU_ne _ _ h_o]
  refine Eq.trans (e_X0_takeFrom_130) ?_
  try simp only [mU_same, mU_mU, mU_ne _ _ h_o]
  refine Eq.trans (e_X0_takeFrom_138) ?_
  try simp only [mU_same, mU_mU, mU_ne _ _ h_o]
  refine Eq.trans (if_pos (mand1 _)) ?_
  refine Eq.trans (e_X0_takeFrom_146) ?_
  try simp only [mU_same, mU_mU, mU_ne _ _ h_o]
  refine Eq.trans (e_X0_takeFrom_154) ?_
  try simp only [mU_same, mU_mU, mU_ne _ _ h_o]
  refine Eq.trans (e_X0_takeFrom_162) ?_
  try simp only [mU_same, mU_mU, mU_ne _ _ h_o]
  refine Eq.trans (e_X0_takeFrom_170) ?_
  try simp only [mU_same, mU_mU, mU_ne _ _ h_o]
  all_goals rfl
theorem rr_X0_takeFrom_at (d : Nat) {X : mX} {g : mG} {i o : Nat} (h_o : o ≠ i) : mCall mD X (d + 4) 0 [mr i 0, mr o 0] g = some (none, mU g i (P_X0_takeFrom (g i) (g o))) := by
  have h := rr_X0_takeFrom (X := X) d (g := g) (c := g i) h_o (i := i) (o := o)
  rw [mU_self] at h
  exact h
theorem e_X0_dropBreak_0 {X : mX} {call : Nat → List mV → mG → mR} {g : mG} {i : Nat} : mEv X call 0 t_X0_dropBreak (mDrop t_X0_dropBreak 0) [some (mr i 0)] [] g = mEv X call 0 t_X0_dropBreak (mDrop t_X0_dropBreak 5) [some (mr i 0)] [] (mU g i (mP (g i) 0 16 (-1))) := (mEv_3 _ _ _ _).trans rfl
theorem e_X0_dropBreak_5 {X : mX} {call : Nat → List mV → mG → mR} {g : mG} {i : Nat} : mEv X call 0 t_X0_dropBreak (mDrop t_X0_dropBreak 5) [some (mr i 0)] [] g = mEv X call 0 t_X0_dropBreak (mDrop t_X0_dropBreak 10) [some (mr i 0)] [] (mU g i (mP (g i) 0 17 0)) := (mEv_3 _ _ _ _).trans rfl
theorem e_X0_dropBreak_10 {X : mX} {call : Nat → List mV → mG → mR} {g : mG} {i : Nat} : mEv X call 0 t_X0_dropBreak (mDrop t_X0_dropBreak 10) [some (mr i 0)] [] g = mEv X call 0 t_X0_dropBreak (mDrop t_X0_dropBreak 15) [some (mr i 0)] [] (mU g i (mP (g i) 0 18 0)) := (mEv_3 _ _ _ _).trans rfl
theorem e_X0_dropBreak_15 {X : mX} {call : Nat → List mV → mG → mR} {g : mG} {i : Nat} : mEv X call 0 t_X0_dropBreak (mDrop t_X0_dropBreak 15) [some (mr i 0)] [] g = some (none, g) := (mEv_1 _ _ _ _).trans rfl
noncomputable def P_X0_dropBreak (c : mC) : (mC) := (mP (mP (mP c 0 16 (-1)) 0 17 0) 0 18 0)
theorem rr_X0_dropBreak (d : Nat) {X : mX} {g : mG} {i : Nat} {c : mC} : mCall mD X (d + 1) 40 [mr i 0] (mU g i c) = (wV g i) (P_X0_dropBreak c) := by
  refine Eq.trans (mCall_eq (d := d + 0) rfl) ?_
  show mEv X (mCall mD X (d + 0)) 0 t_X0_dropBreak (mDrop t_X0_dropBreak 0) [some (mr i 0)] [] (mU g i c) = _
  refine Eq.trans (e_X0_dropBreak_0) ?_
  try simp only [mU_same, mU_mU]
  refine Eq.trans (e_X0_dropBreak_5) ?_
  try simp only [mU_same, mU_mU]
  refine Eq.trans (e_X0_dropBreak_10) ?_
  try simp only [mU_same, mU_mU]
  refine Eq.trans (e_X0_dropBreak_15) ?_
  try simp only [mU_same, mU_mU]
  all_goals rfl
theorem rr_X0_dropBreak_at (d : Nat) {X : mX} {g : mG} {i : Nat} : mCall mD X (d + 1) 40 [mr i 0] g = some (none, mU g i (P_X0_dropBreak (g i))) := by
  have h := rr_X0_dropBreak (X := X) d (g := g) (c := g i) (i := i)
  rw [mU_self] at h
  exact h
theorem e_X0_startRings_0 {X : mX} {call : Nat → List mV → mG → mR} {g : mG} {i : Nat} : mEv X call 0 t_X0_startRings (mDrop t_X0_startRings 0) [some (mr i 0), none] [] g = mAns (mEv X call 0 t_X0_startRings) (mDrop t_X0_startRings 9) [some (mr i 0), none] [] (call 61 [mr i 1, mi 0, mi 0] g) := (mEv_5 _ _ _ _).trans rfl
theorem e_X0_startRings_9 {X : mX} {call : Nat → List mV → mG → mR} {g : mG} {s0 : Int32} {i : Nat} : mEv X call 0 t_X0_startRings (mDrop t_X0_startRings 9) [some (mr i 0), none] [mi s0] g = mAns (mEv X call 0 t_X0_startRings) (mDrop t_X0_startRings 18) [some (mr i 0), none] [mi s0] (call 61 [mr i 1, mi 1, mi 0] g) := (mEv_5 _ _ _ _).trans rfl
theorem e_X0_startRings_18 {X : mX} {call : Nat → List mV → mG → mR} {g : mG} {s0 s1 : Int32} {i : Nat} : mEv X call 0 t_X0_startRings (mDrop t_X0_startRings 18) [some (mr i 0), none] [mi s1, mi s0] g = if (s0 ||| s1) = 0 then mEv X call 0 t_X0_startRings (mDrop t_X0_startRings 26) [some (mr i 0), none] [] g else mEv X call 0 t_X0_startRings (mDrop t_X0_startRings 22) [some (mr i 0), none] [] g := (mEv_2 _ _ _ _).trans rfl
theorem e_X0_startRings_26 {X : mX} {call : Nat → List mV → mG → mR} {g : mG} {i : Nat} : mEv X call 0 t_X0_startRings (mDrop t_X0_startRings 26) [some (mr i 0), none] [] g = mEv X call 0 t_X0_startRings (mDrop t_X0_startRings 27) [some (mr i 0), none] [mi 1] g := (mEv_1 _ _ _ _).trans rfl
theorem e_X0_startRings_27 {X : mX} {call : Nat → List mV → mG → mR} {g : mG} {s0 : Int32} {i : Nat} : mEv X call 0 t_X0_startRings (mDrop t_X0_startRings 27) [some (mr i 0), none] [mi s0] g = mAns (mEv X call 0 t_X0_startRings) (mDrop t_X0_startRings 41) [some (mr i 0), some (mi s0)] [mr i 8] (call 61 [mr i 1, mi 0, mi s0] g) := (mEv_8 _ _ _ _).trans rfl
theorem e_X0_startRings_41 {X : mX} {call : Nat → List mV → mG → mR} {g : mG} {x1 s1 : Int32} {i : Nat} : mEv X call 0 t_X0_startRings (mDrop t_X0_startRings 41) [some (mr i 0), some (mi x1)] [mi s1, mr i 8] g = mAns (mEv X call 0 t_X0_startRings) (mDrop t_X0_startRings 44) [some (mr i 0), some (mi x1)] [mr i 8] (call 150 [mi s1] g) := (mEv_1 _ _ _ _).trans rfl
theorem e_X0_startRings_44 {X : mX} {call : Nat → List mV → mG → mR} {g : mG} {x1 s1 : Int32} {i : Nat} : mEv X call 0 t_X0_startRings (mDrop t_X0_startRings 44) [some (mr i 0), some (mi x1)] [mi s1, mr i 8] g = mAns (mEv X call 0 t_X0_startRings) (mDrop t_X0_startRings 47) [some (mr i 0), some (mi x1)] [] (call 92 [mr i 8, mi s1] g) := (mEv_1 _ _ _ _).trans rfl
theorem e_X0_startRings_47 {X : mX} {call : Nat → List mV → mG → mR} {g : mG} {x1 : Int32} {i : Nat} : mEv X call 0 t_X0_startRings (mDrop t_X0_startRings 47) [some (mr i 0), some (mi x1)] [] g = mAns (mEv X call 0 t_X0_startRings) (mDrop t_X0_startRings 60) [some (mr i 0), some (mi x1)] [mr i 9] (call 61 [mr i 1, mi 1, mi x1] g) := (mEv_7 _ _ _ _).trans rfl
theorem e_X0_startRings_60 {X : mX} {call : Nat → List mV → mG → mR} {g : mG} {x1 s1 : Int32} {i : Nat} : mEv X call 0 t_X0_startRings (mDrop t_X0_startRings 60) [some (mr i 0), some (mi x1)] [mi s1, mr i 9] g = mAns (mEv X call 0 t_X0_startRings) (mDrop t_X0_startRings 63) [some (mr i 0), some (mi x1)] [mr i 9] (call 150 [mi s1] g) := (mEv_1 _ _ _ _).trans rfl
theorem e_X0_startRings_63 {X : mX} {call : Nat → List mV → mG → mR} {g : mG} {x1 s1 : Int32} {i : Nat} : mEv X call 0 t_X0_startRings (mDrop t_X0_startRings 63) [some (mr i 0), some (mi x1)] [mi s1, mr i 9] g = mAns (mEv X call 0 t_X0_startRings) (mDrop t_X0_startRings 66) [some (mr i 0), some (mi x1)] [] (call 92 [mr i 9, mi s1] g) := (mEv_1 _ _ _ _).trans rfl
theorem e_X0_startRings_66 {X : mX} {call : Nat → List mV → mG → mR} {g : mG} {x1 : Int32} {i : Nat} : mEv X call 0 t_X0_startRings (mDrop t_X0_startRings 66) [some (mr i 0), some (mi x1)] [] g = some (none, g) := (mEv_1 _ _ _ _).trans rfl
noncomputable def J_X0_startRings_27 (c : mC) (s0 : Int32) : (mC) := (mBd (α := Int32) (P_X2_partOf c 0 s0) (fun v1 => (mBd (α := Int32) (P_X5_firstIn v1) (fun v2 => (mBd (α := mC) (P_X4_waitFor 8 c v2) (fun c3 => (mBd (α := Int32) (P_X2_partOf c3 1 s0) (fun v4 => (mBd (α := Int32) (P_X5_firstIn v4) (fun v5 => (mBd (α := mC) (P_X4_waitFor 9 c3 v5) (fun c6 => c6))))))))))))
theorem rj_X0_startRings_27 (d : Nat) {X : mX} {g : mG} {i : Nat} {s0 : Int32} {c : mC} : mEv X (mCall mD X (d + 1)) 0 t_X0_startRings (mDrop t_X0_startRings 27) [some (mr i 0), none] [mi s0] (mU g i c) = (wV g i) (J_X0_startRings_27 c s0) := by
  refine Eq.trans (e_X0_startRings_27) ?_
  try simp only [mU_same, mU_mU]
  refine mw_cI (rr_X2_partOf d) (fun v1 => ?_)
  refine Eq.trans (e_X0_startRings_41) ?_
  try simp only [mU_same, mU_mU]
  refine mw_cI (rr_X5_firstIn d) (fun v2 => ?_)
  refine Eq.trans (e_X0_startRings_44) ?_
  try simp only [mU_same, mU_mU]
  refine mw_cV (rr_X4_waitFor d (Or.inl rfl)) (fun c3 => ?_)
  refine Eq.trans (e_X0_startRings_47) ?_
  try simp only [mU_same, mU_mU]
  refine mw_cI (rr_X2_partOf d) (fun v4 => ?_)
  refine Eq.trans (e_X0_startRings_60) ?_
  try simp only [mU_same, mU_mU]
  refine mw_cI (rr_X5_firstIn d) (fun v5 => ?_)
  refine Eq.trans (e_X0_startRings_63) ?_
  try simp only [mU_same, mU_mU]
  refine mw_cV (rr_X4_waitFor d (Or.inr rfl)) (fun c6 => ?_)
  refine Eq.trans (e_X0_startRings_66) ?_
  try simp only [mU_same, mU_mU]
  all_goals rfl
theorem e_X0_startRings_22 {X : mX} {call : Nat → List mV → mG → mR} {g : mG} {i : Nat} : mEv X call 0 t_X0_startRings (mDrop t_X0_startRings 22) [some (mr i 0), none] [] g = mEv X call 0 t_X0_startRings (mDrop t_X0_startRings 27) [some (mr i 0), none] [mi 0] g := (mEv_2 _ _ _ _).trans rfl
noncomputable def P_X0_startRings (c : mC) : (mC) := (mBd (α := Int32) (P_X2_partOf c 0 0) (fun v1 => (mBd (α := Int32) (P_X2_partOf c 1 0) (fun v2 => (if (v1 ||| v2) = 0 then (J_X0_startRings_27 c 1) else (J_X0_startRings_27 c 0))))))
theorem rr_X0_startRings (d : Nat) {X : mX} {g : mG} {i : Nat} {c : mC} : mCall mD X (d + 2) 2 [mr i 0] (mU g i c) = (wV g i) (P_X0_startRings c) := by
  refine Eq.trans (mCall_eq (d := d + 1) rfl) ?_
  show mEv X (mCall mD X (d + 1)) 0 t_X0_startRings (mDrop t_X0_startRings 0) [some (mr i 0), none] [] (mU g i c) = _
  refine Eq.trans (e_X0_startRings_0) ?_
  try simp only [mU_same, mU_mU]
  refine mw_cI (rr_X2_partOf d) (fun v1 => ?_)
  refine Eq.trans (e_X0_startRings_9) ?_
  try simp only [mU_same, mU_mU]
  refine mw_cI (rr_X2_partOf d) (fun v2 => ?_)
  refine Eq.trans (e_X0_startRings_18) ?_
  try simp only [mU_same, mU_mU]
  refine mw_ite (fun h3 => ?_) (fun h3 => ?_)
  · refine Eq.trans (e_X0_startRings_26) ?_
    try simp only [mU_same, mU_mU]
    exact rj_X0_startRings_27 d
  · refine Eq.trans (e_X0_startRings_22) ?_
    try simp only [mU_same, mU_mU]
    exact rj_X0_startRings_27 d
theorem rr_X0_startRings_at (d : Nat) {X : mX} {g : mG} {i : Nat} : mCall mD X (d + 2) 2 [mr i 0] g = some (none, mU g i (P_X0_startRings (g i))) := by
  have h := rr_X0_startRings (X := X) d (g := g) (c := g i) (i := i)
  rw [mU_self] at h
  exact h
theorem e_X0_beginAnew_0 {X : mX} {call : Nat → List mV → mG → mR} {g : mG} {i : Nat} : mEv X call 0 t_X0_beginAnew (mDrop t_X0_beginAnew 0) [some (mr i 0)] [] g = mAns (mEv X call 0 t_X0_beginAnew) (mDrop t_X0_beginAnew 7) [some (mr i 0)] [] (call 47 [mr i 10] g) := (mEv_3 _ _ _ _).trans rfl
theorem e_X0_beginAnew_7 {X : mX} {call : Nat → List mV → mG → mR} {g : mG} {i : Nat} : mEv X call 0 t_X0_beginAnew (mDrop t_X0_beginAnew 7) [some (mr i 0)] [] g = mAns (mEv X call 0 t_X0_beginAnew) (mDrop t_X0_beginAnew 15) [some (mr i 0)] [] (call 145 [mr i 14, mi 0] g) := (mEv_4 _ _ _ _).trans rfl
theorem e_X0_beginAnew_15 {X : mX} {call : Nat → List mV → mG → mR} {g : mG} {i : Nat} : mEv X call 0 t_X0_beginAnew (mDrop t_X0_beginAnew 15) [some (mr i 0)] [] g = mAns (mEv X call 0 t_X0_beginAnew) (mDrop t_X0_beginAnew 23) [some (mr i 0)] [] (call 145 [mr i 15, mi 0] g) := (mEv_4 _ _ _ _).trans rfl
theorem e_X0_beginAnew_23 {X : mX} {call : Nat → List mV → mG → mR} {g : mG} {i : Nat} : mEv X call 0 t_X0_beginAnew (mDrop t_X0_beginAnew 23) [some (mr i 0)] [] g = mEv X call 0 t_X0_beginAnew (mDrop t_X0_beginAnew 28) [some (mr i 0)] [] (mU g i (mP (g i) 0 6 0)) := (mEv_3 _ _ _ _).trans rfl
theorem e_X0_beginAnew_28 {X : mX} {call : Nat → List mV → mG → mR} {g : mG} {i : Nat} : mEv X call 0 t_X0_beginAnew (mDrop t_X0_beginAnew 28) [some (mr i 0)] [] g = mEv X call 0 t_X0_beginAnew (mDrop t_X0_beginAnew 33) [some (mr i 0)] [] (mU g i (mP (g i) 0 7 0)) := (mEv_3 _ _ _ _).trans rfl
theorem e_X0_beginAnew_33 {X : mX} {call : Nat → List mV → mG → mR} {g : mG} {i : Nat} : mEv X call 0 t_X0_beginAnew (mDrop t_X0_beginAnew 33) [some (mr i 0)] [] g = mEv X call 0 t_X0_beginAnew (mDrop t_X0_beginAnew 38) [some (mr i 0)] [] (mU g i (mP (g i) 0 8 0)) := (mEv_3 _ _ _ _).trans rfl
theorem e_X0_beginAnew_38 {X : mX} {call : Nat → List mV → mG → mR} {g : mG} {i : Nat} : mEv X call 0 t_X0_beginAnew (mDrop t_X0_beginAnew 38) [some (mr i 0)] [] g = mEv X call 0 t_X0_beginAnew (mDrop t_X0_beginAnew 43) [some (mr i 0)] [] (mU g i (mP (g i) 0 9 0)) := (mEv_3 _ _ _ _).trans rfl
theorem e_X0_beginAnew_43 {X : mX} {call : Nat → List mV → mG → mR} {g : mG} {i : Nat} : mEv X call 0 t_X0_beginAnew (mDrop t_X0_beginAnew 43) [some (mr i 0)] [] g = mEv X call 0 t_X0_beginAnew (mDrop t_X0_beginAnew 48) [some (mr i 0)] [] (mU g i (mP (g i) 0 10 0)) := (mEv_3 _ _ _ _).trans rfl
theorem e_X0_beginAnew_48 {X : mX} {call : Nat → List mV → mG → mR} {g : mG} {i : Nat} : mEv X call 0 t_X0_beginAnew (mDrop t_X0_beginAnew 48) [some (mr i 0)] [] g = mEv X call 0 t_X0_beginAnew (mDrop t_X0_beginAnew 53) [some (mr i 0)] [] (mU g i (mP (g i) 0 11 0)) := (mEv_3 _ _ _ _).trans rfl
theorem e_X0_beginAnew_53 {X : mX} {call : Nat → List mV → mG → mR} {g : mG} {i : Nat} : mEv X call 0 t_X0_beginAnew (mDrop t_X0_beginAnew 53) [some (mr i 0)] [] g = mEv X call 0 t_X0_beginAnew (mDrop t_X0_beginAnew 58) [some (mr i 0)] [] (mU g i (mP (g i) 0 12 0)) := (mEv_3 _ _ _ _).trans rfl
theorem e_X0_beginAnew_58 {X : mX} {call : Nat → List mV → mG → mR} {g : mG} {i : Nat} : mEv X call 0 t_X0_beginAnew (mDrop t_X0_beginAnew 58) [some (mr i 0)] [] g = mEv X call 0 t_X0_beginAnew (mDrop t_X0_beginAnew 63) [some (mr i 0)] [] (mU g i (mP (g i) 0 13 0)) := (mEv_3 _ _ _ _).trans rfl
theorem e_X0_beginAnew_63 {X : mX} {call : Nat → List mV → mG → mR} {g : mG} {i : Nat} : mEv X call 0 t_X0_beginAnew (mDrop t_X0_beginAnew 63) [some (mr i 0)] [] g = mEv X call 0 t_X0_beginAnew (mDrop t_X0_beginAnew 68) [some (mr i 0)] [] (mU g i (mP (g i) 0 14 0)) := (mEv_3 _ _ _ _).trans rfl
theorem e_X0_beginAnew_68 {X : mX} {call : Nat → List mV → mG → mR} {g : mG} {i : Nat} : mEv X call 0 t_X0_beginAnew (mDrop t_X0_beginAnew 68) [some (mr i 0)] [] g = if (0 : Int32) &&& 1 = 0 then mEv X call 0 t_X0_beginAnew (mDrop t_X0_beginAnew 73) [some (mr i 0)] [] (mU g i (mP (g i) 0 15 0)) else none := (mEv_3 _ _ _ _).trans rfl
theorem e_X0_beginAnew_73 {X : mX} {call : Nat → List mV → mG → mR} {g : mG} {i : Nat} : mEv X call 0 t_X0_beginAnew (mDrop t_X0_beginAnew 73) [some (mr i 0)] [] g = mAns (mEv X call 0 t_X0_beginAnew) (mDrop t_X0_beginAnew 77) [some (mr i 0)] [] (call 40 [mr i 0] g) := (mEv_2 _ _ _ _).trans rfl
theorem e_X0_beginAnew_77 {X : mX} {call : Nat → List mV → mG → mR} {g : mG} {i : Nat} : mEv X call 0 t_X0_beginAnew (mDrop t_X0_beginAnew 77) [some (mr i 0)] [] g = mAns (mEv X call 0 t_X0_beginAnew) (mDrop t_X0_beginAnew 81) [some (mr i 0)] [] (call 2 [mr i 0] g) := (mEv_2 _ _ _ _).trans rfl
theorem e_X0_beginAnew_81 {X : mX} {call : Nat → List mV → mG → mR} {g : mG} {i : Nat} : mEv X call 0 t_X0_beginAnew (mDrop t_X0_beginAnew 81) [some (mr i 0)] [] g = some (none, g) := (mEv_1 _ _ _ _).trans rfl
noncomputable def P_X0_beginAnew (c : mC) : (mC) := (mBd (α := mC) (P_X1_wipe c) (fun c1 => (mBd (α := mC) (mFi 8 c1 14 0) (fun c2 => (mBd (α := mC) (mFi 8 c2 15 0) (fun c3 => (mBd (α := mC) (P_X0_dropBreak (mP (mP (mP (mP (mP (mP (mP (mP (mP (mP c3 0 6 0) 0 7 0) 0 8 0) 0 9 0) 0 10 0) 0 11 0) 0 12 0) 0 13 0) 0 14 0) 0 15 0)) (fun c4 => (mBd (α := mC) (P_X0_startRings c4) (fun c5 => c5))))))))))
theorem rr_X0_beginAnew (d : Nat) {X : mX} {g : mG} {i : Nat} {c : mC} : mCall mD X (d + 3) 1 [mr i 0] (mU g i c) = (wV g i) (P_X0_beginAnew c) := by
  refine Eq.trans (mCall_eq (d := d + 2) rfl) ?_
  show mEv X (mCall mD X (d + 2)) 0 t_X0_beginAnew (mDrop t_X0_beginAnew 0) [some (mr i 0)] [] (mU g i c) = _
  refine Eq.trans (e_X0_beginAnew_0) ?_
  try simp only [mU_same, mU_mU]
  refine mw_cV (rr_X1_wipe (d + 1)) (fun c1 => ?_)
  refine Eq.trans (e_X0_beginAnew_7) ?_
  try simp only [mU_same, mU_mU]
  refine mw_cV (rr_X5_fillRow_14 (d + 1)) (fun c2 => ?_)
  refine Eq.trans (e_X0_beginAnew_15) ?_
  try simp only [mU_same, mU_mU]
  refine mw_cV (rr_X5_fillRow_15 (d + 1)) (fun c3 => ?_)
  refine Eq.trans (e_X0_beginAnew_23) ?_
  try simp only [mU_same, mU_mU]
  refine Eq.trans (e_X0_beginAnew_28) ?_
  try simp only [mU_same, mU_mU]
  refine Eq.trans (e_X0_beginAnew_33) ?_
  try simp only [mU_same, mU_mU]
  refine Eq.trans (e_X0_beginAnew_38) ?_
  try simp only [mU_same, mU_mU]
  refine Eq.trans (e_X0_beginAnew_43) ?_
  try simp only [mU_same, mU_mU]
  refine Eq.trans (e_X0_beginAnew_48) ?_
  try simp only [mU_same, mU_mU]
  refine Eq.trans (e_X0_beginAnew_53) ?_
  try simp only [mU_same, mU_mU]
  refine Eq.trans (e_X0_beginAnew_58) ?_
  try simp only [mU_same, mU_mU]
  refine Eq.trans (e_X0_beginAnew_63) ?_
  try simp only [mU_same, mU_mU]
  refine Eq.trans (e_X0_beginAnew_68) ?_
  try simp only [mU_same, mU_mU]
  refine Eq.trans (if_pos (by decide)) ?_
  refine Eq.trans (e_X0_beginAnew_73) ?_
  try simp only [mU_same, mU_mU]
  refine mw_cV (rr_X0_dropBreak (d + 1)) (fun c4 => ?_)
  refine Eq.trans (e_X0_beginAnew_77) ?_
  try simp only [mU_same, mU_mU]
  refine mw_cV (rr_X0_startRings d) (fun c5 => ?_)
  refine Eq.trans (e_X0_beginAnew_81) ?_
  try simp only [mU_same, mU_mU]
  all_goals rfl
theorem rr_X0_beginAnew_at (d : Nat) {X : mX} {g : mG} {i : Nat} : mCall mD X (d + 3) 1 [mr i 0] g = some (none, mU g i (P_X0_beginAnew (g i))) := by
  have h := rr_X0_beginAnew (X := X) d (g := g) (c := g i) (i := i)
  rw [mU_self] at h
  exact h
theorem e_X2_endOf_0 {X : mX} {call : Nat → List mV → mG → mR} {g : mG} {x1 : Int32} {i : Nat} : mEv X call 1 t_X2_endOf (mDrop t_X2_endOf 0) [some (mr i 1), some (mi x1), none, none, none, none, none] [] g = mAns (mEv X call 1 t_X2_endOf) (mDrop t_X2_endOf 8) [some (mr i 1), some (mi x1), none, none, none, none, none] [] (call 142 [mr i 2, mi x1] g) := (mEv_4 _ _ _ _).trans rfl
theorem e_X2_endOf_8 {X : mX} {call : Nat → List mV → mG → mR} {g : mG} {x1 s0 : Int32} {i : Nat} : mEv X call 1 t_X2_endOf (mDrop t_X2_endOf 8) [some (mr i 1), some (mi x1), none, none, none, none, none] [mi s0] g = mAns (mEv X call 1 t_X2_endOf) (mDrop t_X2_endOf 17) [some (mr i 1), some (mi x1), some (mi s0), none, none, none, none] [] (call 142 [mr i 3, mi x1] g) := (mEv_5 _ _ _ _).trans rfl
theorem e_X2_endOf_17 {X : mX} {call : Nat → List mV → mG → mR} {g : mG} {x1 x2 s0 : Int32} {i : Nat} : mEv X call 1 t_X2_endOf (mDrop t_X2_endOf 17) [some (mr i 1), some (mi x1), some (mi x2), none, none, none, none] [mi s0] g = mAns (mEv X call 1 t_X2_endOf) (mDrop t_X2_endOf 24) [some (mr i 1), some (mi x1), some (mi x2), some (mi s0), none, none, none] [] (call 61 [mr i 1, mi x2, mi s0] g) := (mEv_5 _ _ _ _).trans rfl
theorem e_X2_endOf_24 {X : mX} {call : Nat → List mV → mG → mR} {g : mG} {x1 x2 x3 s0 : Int32} {i : Nat} : mEv X call 1 t_X2_endOf (mDrop t_X2_endOf 24) [some (mr i 1), some (mi x1), some (mi x2), some (mi x3), none, none, none] [mi s0] g = mAns (mEv X call 1 t_X2_endOf) (mDrop t_X2_endOf 28) [some (mr i 1), some (mi x1), some (mi x2), some (mi x3), none, none, none] [mi s0] (call 147 [mi x1] g) := (mEv_2 _ _ _ _).trans rfl
theorem e_X2_endOf_28 {X : mX} {call : Nat → List mV → mG → mR} {g : mG} {x1 x2 x3 s0 s1 : Int32} {i : Nat} : mEv X call 1 t_X2_endOf (mDrop t_X2_endOf 28) [some (mr i 1), some (mi x1), some (mi x2), some (mi x3), none, none, none] [mi s1, mi s0] g = if x3 = 1 then mEv X call 1 t_X2_endOf (mDrop t_X2_endOf 40) [some (mr i 1), some (mi x1), some (mi x2), some (mi x3), some (mi (s0 &&& ((s1 * 2) - 1))), none, none] [] g else mEv X call 1 t_X2_endOf (mDrop t_X2_endOf 51) [some (mr i 1), some (mi x1), some (mi x2), some (mi x3), some (mi (s0 &&& ((s1 * 2) - 1))), none, none] [] g := (mEv_9 _ _ _ _).trans rfl
theorem e_X2_endOf_40 {X : mX} {call : Nat → List mV → mG → mR} {g : mG} {x1 x2 x3 x4 : Int32} {i : Nat} : mEv X call 1 t_X2_endOf (mDrop t_X2_endOf 40) [some (mr i 1), some (mi x1), some (mi x2), some (mi x3), some (mi x4), none, none] [] g = mAns (mEv X call 1 t_X2_endOf) (mDrop t_X2_endOf 48) [some (mr i 1), some (mi x1), some (mi x2), some (mi x3), some (mi x4), none, none] [mi x4] (call 61 [mr i 1, mi x2, mi 0] g) := (mEv_5 _ _ _ _).trans rfl
theorem e_X2_endOf_48 {X : mX} {call : Nat → List mV → mG → mR} {g : mG} {x1 x2 x3 x4 s0 s1 : Int32} {i : Nat} : mEv X call 1 t_X2_endOf (mDrop t_X2_endOf 48) [some (mr i 1), some (mi x1), some (mi x2), some (mi x3), some (mi x4), none, none] [mi s1, mi s0] g = mEv X call 1 t_X2_endOf (mDrop t_X2_endOf 51) [some (mr i 1), some (mi x1), some (mi x2), some (mi x3), some (mi (s0 ||| s1)), none, none] [] g := (mEv_2 _ _ _ _).trans rfl
theorem e_X2_endOf_51 {X : mX} {call : Nat → List mV → mG → mR} {g : mG} {x1 x2 x3 x4 : Int32} {i : Nat} : mEv X call 1 t_X2_endOf (mDrop t_X2_endOf 51) [some (mr i 1), some (mi x1), some (mi x2), some (mi x3), some (mi x4), none, none] [] g = mEv X call 1 t_X2_endOf (mDrop t_X2_endOf 57) [some (mr i 1), some (mi x1), some (mi x2), some (mi x3), some (mi x4), some (mi 0), some (mi 0)] [] g := (mEv_4 _ _ _ _).trans rfl
theorem e_X2_endOf_57 {X : mX} {call : Nat → List mV → mG → mR} {g : mG} {x1 x2 x3 x4 x5 x6 : Int32} {i : Nat} : mEv X call 1 t_X2_endOf (mDrop t_X2_endOf 57) [some (mr i 1), some (mi x1), some (mi x2), some (mi x3), some (mi x4), some (mi x5), some (mi x6)] [] g = if (g i 1 0) ≤ x6 then mEv X call 1 t_X2_endOf (mDrop t_X2_endOf 95) [some (mr i 1), some (mi x1), some (mi x2), some (mi x3), some (mi x4), some (mi x5), some (mi x6)] [] g else mEv X call 1 t_X2_endOf (mDrop t_X2_endOf 66) [some (mr i 1), some (mi x1), some (mi x2), some (mi x3), some (mi x4), some (mi x5), some (mi x6)] [] g := (mEv_4 _ _ _ _).trans rfl
theorem e_X2_endOf_95 {X : mX} {call : Nat → List mV → mG → mR} {g : mG} {x1 x2 x3 x4 x5 x6 : Int32} {i : Nat} : mEv X call 1 t_X2_endOf (mDrop t_X2_endOf 95) [some (mr i 1), some (mi x1), some (mi x2), some (mi x3), some (mi x4), some (mi x5), some (mi x6)] [] g = some (some (mi x5), g) := (mEv_2 _ _ _ _).trans rfl
theorem e_X2_endOf_66 {X : mX} {call : Nat → List mV → mG → mR} {g : mG} {x1 x2 x3 x4 x5 x6 : Int32} {i : Nat} : mEv X call 1 t_X2_endOf (mDrop t_X2_endOf 66) [some (mr i 1), some (mi x1), some (mi x2), some (mi x3), some (mi x4), some (mi x5), some (mi x6)] [] g = mAns (mEv X call 1 t_X2_endOf) (mDrop t_X2_endOf 73) [some (mr i 1), some (mi x1), some (mi x2), some (mi x3), some (mi x4), some (mi x5), some (mi x6)] [] (call 149 [mi x4, mi x6] g) := (mEv_3 _ _ _ _).trans rfl
theorem e_X2_endOf_73 {X : mX} {call : Nat → List mV → mG → mR} {g : mG} {x1 x2 x3 x4 x5 x6 s0 : Int32} {i : Nat} : mEv X call 1 t_X2_endOf (mDrop t_X2_endOf 73) [some (mr i 1), some (mi x1), some (mi x2), some (mi x3), some (mi x4), some (mi x5), some (mi x6)] [mi s0] g = if s0 = 0 then mEv X call 1 t_X2_endOf (mDrop t_X2_endOf 89) [some (mr i 1), some (mi x1), some (mi x2), some (mi x3), some (mi x4), some (mi x5), some (mi x6)] [] g else mEv X call 1 t_X2_endOf (mDrop t_X2_endOf 76) [some (mr i 1), some (mi x1), some (mi x2), some (mi x3), some (mi x4), some (mi x5), some (mi x6)] [] g := (mEv_1 _ _ _ _).trans rfl
theorem e_X2_endOf_89 {X : mX} {call : Nat → List mV → mG → mR} {g : mG} {x1 x2 x3 x4 x5 x6 : Int32} {i : Nat} : mEv X call 1 t_X2_endOf (mDrop t_X2_endOf 89) [some (mr i 1), some (mi x1), some (mi x2), some (mi x3), some (mi x4), some (mi x5), some (mi x6)] [] g = mEv X call 1 t_X2_endOf (mDrop t_X2_endOf 57) [some (mr i 1), some (mi x1), some (mi x2), some (mi x3), some (mi x4), some (mi x5), some (mi (x6 + 1))] [] g := (mEv_2 _ _ _ _).trans rfl
noncomputable def J_X2_endOf_89 (c : mC) (x4 : Int32) (x5 : Int32) (x6 : Int32) : ((Int32 × Int32) ⊕ (Int32)) := (.inl (x5, (x6 + 1)))
theorem rj_X2_endOf_89 (d : Nat) {X : mX} {g : mG} {i : Nat} {x1 x2 x3 x4 x5 x6 : Int32} {c : mC} : mEv X (mCall mD X (d + 1)) 1 t_X2_endOf (mDrop t_X2_endOf 89) [some (mr i 1), some (mi x1), some (mi x2), some (mi x3), some (mi x4), some (mi x5), some (mi x6)] [] (mU g i c) = (wB (fun s : (Int32 × Int32) => match s with | (x5, x6) => mEv X (mCall mD X (d + 1)) 1 t_X2_endOf (mDrop t_X2_endOf 57) [some (mr i 1), some (mi x1), some (mi x2), some (mi x3), some (mi x4), some (mi x5), some (mi x6)] [] (mU g i c)) (wI g i c)) (J_X2_endOf_89 c x4 x5 x6) := by
  refine Eq.trans (e_X2_endOf_89) ?_
  try simp only [mU_same, mU_mU]
  exact mw_inl rfl
theorem e_X2_endOf_76 {X : mX} {call : Nat → List mV → mG → mR} {g : mG} {x1 x2 x3 x4 x5 x6 : Int32} {i : Nat} : mEv X call 1 t_X2_endOf (mDrop t_X2_endOf 76) [some (mr i 1), some (mi x1), some (mi x2), some (mi x3), some (mi x4), some (mi x5), some (mi x6)] [] g = mAns (mEv X call 1 t_X2_endOf) (mDrop t_X2_endOf 86) [some (mr i 1), some (mi x1), some (mi x2), some (mi x3), some (mi x4), some (mi x5), some (mi x6)] [mi x5] (call 57 [mr i 1, mi x6, mi 8] g) := (mEv_5 _ _ _ _).trans rfl
theorem e_X2_endOf_86 {X : mX} {call : Nat → List mV → mG → mR} {g : mG} {x1 x2 x3 x4 x5 x6 s0 s1 : Int32} {i : Nat} : mEv X call 1 t_X2_endOf (mDrop t_X2_endOf 86) [some (mr i 1), some (mi x1), some (mi x2), some (mi x3), some (mi x4), some (mi x5), some (mi x6)] [mi s1, mi s0] g = mEv X call 1 t_X2_endOf (mDrop t_X2_endOf 89) [some (mr i 1), some (mi x1), some (mi x2), some (mi x3), some (mi x4), some (mi (s0 + s1)), some (mi x6)] [] g := (mEv_2 _ _ _ _).trans rfl
noncomputable def B_X2_endOf_57 (c : mC) (x4 : Int32) : (Int32 × Int32) → (Int32 × Int32) ⊕ (Int32) := fun s => match s with | (x5, x6) => (if (c 1 0) ≤ x6 then (.inr x5) else (mBd (α := Int32) (P_X5_inSet x4 x6) (fun v1 => (if v1 = 0 then (J_X2_endOf_89 c x4 x5 x6) else (mBd (α := Int32) (P_X2_markOf c x6 8) (fun v2 => (J_X2_endOf_89 c x4 (x5 + v2) x6)))))))
set_option maxRecDepth 100000 in
theorem tm_X2_endOf_57 {c : mC} {x4 : Int32} : mTm (B_X2_endOf_57 c x4) := by
  refine ⟨fun s => match s with | (x5, x6) => (((c 1 0) : Int32).toInt - (x6 : Int32).toInt).toNat, fun s s2 h => ?_⟩
  obtain ⟨x5, x6⟩ := s
  simp only [B_X2_endOf_57, J_X2_endOf_89, mBd] at h
  (repeat' split at h) <;> first | (have h2 := Sum.inl.inj h; subst h2; dsimp only; exact mtm_up (by assumption)) | (cases h; done)
theorem rl_X2_endOf_57 (d : Nat) {X : mX} {g : mG} {i : Nat} {x1 x2 x3 x4 x5 x6 : Int32} {c : mC} : mEv X (mCall mD X (d + 1)) 1 t_X2_endOf (mDrop t_X2_endOf 57) [some (mr i 1), some (mi x1), some (mi x2), some (mi x3), some (mi x4), some (mi x5), some (mi x6)] [] (mU g i c) = (wI g i c) (mWh 0 (B_X2_endOf_57 c x4) (x5, x6)) := by
  refine mWh_ev (B := (B_X2_endOf_57 c x4)) (ev := fun s : (Int32 × Int32) => match s with | (x5, x6) => mEv X (mCall mD X (d + 1)) 1 t_X2_endOf (mDrop t_X2_endOf 57) [some (mr i 1), some (mi x1), some (mi x2), some (mi x3), some (mi x4), some (mi x5), some (mi x6)] [] (mU g i c)) (w := (wI g i c)) (tm_X2_endOf_57) ?_ (x5, x6)
  rintro ⟨x5, x6⟩
  show mEv X (mCall mD X (d + 1)) 1 t_X2_endOf (mDrop t_X2_endOf 57) [some (mr i 1), some (mi x1), some (mi x2), some (mi x3), some (mi x4), some (mi x5), some (mi x6)] [] (mU g i c) = wB (fun s : (Int32 × Int32) => match s with | (x5, x6) => mEv X (mCall mD X (d + 1)) 1 t_X2_endOf (mDrop t_X2_endOf 57) [some (mr i 1), some (mi x1), some (mi x2), some (mi x3), some (mi x4), some (mi x5), some (mi x6)] [] (mU g i c)) (wI g i c) (B_X2_endOf_57 c x4 (x5, x6))
  refine Eq.trans (e_X2_endOf_57) ?_
  try simp only [mU_same, mU_mU]
  refine mw_ite (fun h4 => ?_) (fun h4 => ?_)
  · refine mw_inr ?_
    refine Eq.trans (e_X2_endOf_95) ?_
    try simp only [mU_same, mU_mU]
    all_goals rfl
  · refine Eq.trans (e_X2_endOf_66) ?_
    try simp only [mU_same, mU_mU]
    refine mw_cZ (rr_X5_inSet d) rfl (fun v1 hv1 => ?_)
    refine Eq.trans (e_X2_endOf_73) ?_
    try simp only [mU_same, mU_mU]
    refine mw_ite (fun h3 => ?_) (fun h3 => ?_)
    · exact rj_X2_endOf_89 d
    · refine Eq.trans (e_X2_endOf_76) ?_
      try simp only [mU_same, mU_mU]
      refine mw_cI (rr_X2_markOf d) (fun v2 => ?_)
      refine Eq.trans (e_X2_endOf_86) ?_
      try simp only [mU_same, mU_mU]
      exact rj_X2_endOf_89 d
noncomputable def J_X2_endOf_51 (c : mC) (x4 : Int32) : (Int32) := (mWh 0 (B_X2_endOf_57 c x4) (0, 0))
theorem rj_X2_endOf_51 (d : Nat) {X : mX} {g : mG} {i : Nat} {x1 x2 x3 x4 : Int32} {c : mC} : mEv X (mCall mD X (d + 1)) 1 t_X2_endOf (mDrop t_X2_endOf 51) [some (mr i 1), some (mi x1), some (mi x2), some (mi x3), some (mi x4), none, none] [] (mU g i c) = (wI g i c) (J_X2_endOf_51 c x4) := by
  refine Eq.trans (e_X2_endOf_51) ?_
  try simp only [mU_same, mU_mU]
  exact rl_X2_endOf_57 d
noncomputable def P_X2_endOf (c : mC) (x1 : Int32) : (Int32) := (mBd (α := Int32) (cl 8 (c 2) x1) (fun v1 => (mBd (α := Int32) (cl 8 (c 3) x1) (fun v2 => (mBd (α := Int32) (P_X2_partOf c v1 v2) (fun v3 => (mBd (α := Int32) (P_X5_bit x1) (fun v4 => (if v2 = 1 then (mBd (α := Int32) (P_X2_partOf c v1 0) (fun v5 => (J_X2_endOf_51 c ((v3 &&& ((v4 * 2) - 1)) ||| v5)))) else (J_X2_endOf_51 c (v3 &&& ((v4 * 2) - 1))))))))))))
theorem rr_X2_endOf (d : Nat) {X : mX} {g : mG} {i : Nat} {x1 : Int32} {c : mC} : mCall mD X (d + 2) 68 [mr i 1, mi x1] (mU g i c) = (wI g i c) (P_X2_endOf c x1) := by
  refine Eq.trans (mCall_eq (d := d + 1) rfl) ?_
  show mEv X (mCall mD X (d + 1)) 1 t_X2_endOf (mDrop t_X2_endOf 0) [some (mr i 1), some (mi x1), none, none, none, none, none] [] (mU g i c) = _
  refine Eq.trans (e_X2_endOf_0) ?_
  try simp only [mU_same, mU_mU]
  refine mw_cI (rr_X5_cell_2 d) (fun v1 => ?_)
  refine Eq.trans (e_X2_endOf_8) ?_
  try simp only [mU_same, mU_mU]
  refine mw_cI (rr_X5_cell_3 d) (fun v2 => ?_)
  refine Eq.trans (e_X2_endOf_17) ?_
  try simp only [mU_same, mU_mU]
  refine mw_cI (rr_X2_partOf d) (fun v3 => ?_)
  refine Eq.trans (e_X2_endOf_24) ?_
  try simp only [mU_same, mU_mU]
  refine mw_cI (rr_X5_bit d) (fun v4 => ?_)
  refine Eq.trans (e_X2_endOf_28) ?_
  try simp only [mU_same, mU_mU]
  refine mw_ite (fun h6 => ?_) (fun h6 => ?_)
  · refine Eq.trans (e_X2_endOf_40) ?_
    try simp only [mU_same, mU_mU]
    refine mw_cI (rr_X2_partOf d) (fun v5 => ?_)
    refine Eq.trans (e_X2_endOf_48) ?_
    try simp only [mU_same, mU_mU]
    exact rj_X2_endOf_51 d
  · exact rj_X2_endOf_51 d
theorem rr_X2_endOf_at (d : Nat) {X : mX} {g : mG} {i : Nat} {x1 : Int32} : mCall mD X (d + 2) 68 [mr i 1, mi x1] g = wN g (P_X2_endOf (g i) x1) := by
  have h := rr_X2_endOf (X := X) d (g := g) (c := g i) (x1 := x1) (i := i)
  rw [mU_self] at h
  exact h.trans (wI_self _ _ _)
theorem e_X0_isForced_0 {X : mX} {call : Nat → List mV → mG → mR} {g : mG} {x1 : Int32} {i : Nat} : mEv X call 2 t_X0_isForced (mDrop t_X0_isForced 0) [some (mr i 0), some (mi x1), none] [] g = if (g i 1 1) ≤ 0 then mEv X call 2 t_X0_isForced (mDrop t_X0_isForced 39) [some (mr i 0), some (mi x1), some (mi (g i 1 1))] [] g else mEv X call 2 t_X0_isForced (mDrop t_X0_isForced 12) [some (mr i 0), some (mi x1), some (mi (g i 1 1))] [] g := (mEv_6 _ _ _ _).trans rfl
theorem e_X0_isForced_39 {X : mX} {call : Nat → List mV → mG → mR} {g : mG} {x1 x2 : Int32} {i : Nat} : mEv X call 2 t_X0_isForced (mDrop t_X0_isForced 39) [some (mr i 0), some (mi x1), some (mi x2)] [] g = mEv X call 2 t_X0_isForced (mDrop t_X0_isForced 40) [some (mr i 0), some (mi x1), some (mi x2)] [mi 0] g := (mEv_1 _ _ _ _).trans rfl
theorem e_X0_isForced_40 {X : mX} {call : Nat → List mV → mG → mR} {g : mG} {x1 x2 s0 : Int32} {i : Nat} : mEv X call 2 t_X0_isForced (mDrop t_X0_isForced 40) [some (mr i 0), some (mi x1), some (mi x2)] [mi s0] g = if (s0 : Int32) &&& 1 = s0 then some (some (mi s0), g) else none := (mEv_1 _ _ _ _).trans rfl
noncomputable def J_X0_isForced_39 (c : mC) : (Int32) := 0
theorem rj_X0_isForced_39 (d : Nat) {X : mX} {g : mG} {i : Nat} {x1 x2 : Int32} {c : mC} : mEv X (mCall mD X (d + 2)) 2 t_X0_isForced (mDrop t_X0_isForced 39) [some (mr i 0), some (mi x1), some (mi x2)] [] (mU g i c) = (wI g i c) (J_X0_isForced_39 c) := by
  refine Eq.trans (e_X0_isForced_39) ?_
  try simp only [mU_same, mU_mU]
  refine Eq.trans (e_X0_isForced_40) ?_
  try simp only [mU_same, mU_mU]
  exact if_pos (by decide)
theorem e_X0_isForced_12 {X : mX} {call : Nat → List mV → mG → mR} {g : mG} {x1 x2 : Int32} {i : Nat} : mEv X call 2 t_X0_isForced (mDrop t_X0_isForced 12) [some (mr i 0), some (mi x1), some (mi x2)] [] g = mAns (mEv X call 2 t_X0_isForced) (mDrop t_X0_isForced 24) [some (mr i 0), some (mi x1), some (mi x2)] [mi (g i 0 13)] (call 68 [mr i 1, mi x1] g) := (mEv_6 _ _ _ _).trans rfl
theorem e_X0_isForced_24 {X : mX} {call : Nat → List mV → mG → mR} {g : mG} {x1 x2 s0 s1 : Int32} {i : Nat} : mEv X call 2 t_X0_isForced (mDrop t_X0_isForced 24) [some (mr i 0), some (mi x1), some (mi x2)] [mi s1, mi s0] g = mAns (mEv X call 2 t_X0_isForced) (mDrop t_X0_isForced 29) [some (mr i 0), some (mi x1), some (mi x2)] [] (call 276 [mi (s0 - s1), mi x2] g) := (mEv_3 _ _ _ _).trans rfl
theorem e_X0_isForced_29 {X : mX} {call : Nat → List mV → mG → mR} {g : mG} {x1 x2 s0 : Int32} {i : Nat} : mEv X call 2 t_X0_isForced (mDrop t_X0_isForced 29) [some (mr i 0), some (mi x1), some (mi x2)] [mi s0] g = if (2 : Int32) = 0 then none else mEv X call 2 t_X0_isForced (mDrop t_X0_isForced 32) [some (mr i 0), some (mi x1), some (mi x2)] [mi (x2 / 2), mi s0] g := (mEv_3 _ _ _ _).trans rfl
theorem e_X0_isForced_32 {X : mX} {call : Nat → List mV → mG → mR} {g : mG} {x1 x2 s0 s1 : Int32} {i : Nat} : mEv X call 2 t_X0_isForced (mDrop t_X0_isForced 32) [some (mr i 0), some (mi x1), some (mi x2)] [mi s1, mi s0] g = if s1 ≤ s0 then mEv X call 2 t_X0_isForced (mDrop t_X0_isForced 39) [some (mr i 0), some (mi x1), some (mi x2)] [] g else mEv X call 2 t_X0_isForced (mDrop t_X0_isForced 35) [some (mr i 0), some (mi x1), some (mi x2)] [] g := (mEv_1 _ _ _ _).trans rfl
theorem e_X0_isForced_35 {X : mX} {call : Nat → List mV → mG → mR} {g : mG} {x1 x2 : Int32} {i : Nat} : mEv X call 2 t_X0_isForced (mDrop t_X0_isForced 35) [some (mr i 0), some (mi x1), some (mi x2)] [] g = mEv X call 2 t_X0_isForced (mDrop t_X0_isForced 40) [some (mr i 0), some (mi x1), some (mi x2)] [mi 1] g := (mEv_2 _ _ _ _).trans rfl
noncomputable def P_X0_isForced (c : mC) (x1 : Int32) : (Int32) := (if (c 1 1) ≤ 0 then (J_X0_isForced_39 c) else (mBd (α := Int32) (P_X2_endOf c x1) (fun v1 => (mBd (α := Int32) (mFm ((c 0 13) - v1) (c 1 1)) (fun v2 => (if ((c 1 1) / 2) ≤ v2 then (J_X0_isForced_39 c) else 1))))))
theorem rr_X0_isForced (d : Nat) {X : mX} {g : mG} {i : Nat} {x1 : Int32} {c : mC} : mCall mD X (d + 3) 25 [mr i 0, mi x1] (mU g i c) = (wI g i c) (P_X0_isForced c x1) := by
  refine Eq.trans (mCall_eq (d := d + 2) rfl) ?_
  show mEv X (mCall mD X (d + 2)) 2 t_X0_isForced (mDrop t_X0_isForced 0) [some (mr i 0), some (mi x1), none] [] (mU g i c) = _
  refine Eq.trans (e_X0_isForced_0) ?_
  try simp only [mU_same, mU_mU]
  refine mw_ite (fun h4 => ?_) (fun h4 => ?_)
  · exact rj_X0_isForced_39 d
  · refine Eq.trans (e_X0_isForced_12) ?_
    try simp only [mU_same, mU_mU]
    refine mw_cI (rr_X2_endOf d) (fun v1 => ?_)
    refine Eq.trans (e_X0_isForced_24) ?_
    try simp only [mU_same, mU_mU]
    refine mw_cI (rr_J9_floorMod_7cf53 (d + 1) (by first | decide | exact mne_pos (by assumption) | exact mne_pos2 (by assumption))) (fun v2 => ?_)
    refine Eq.trans (e_X0_isForced_29) ?_
    try simp only [mU_same, mU_mU]
    refine Eq.trans (if_neg (by decide)) ?_
    refine Eq.trans (e_X0_isForced_32) ?_
    try simp only [mU_same, mU_mU]
    refine mw_ite (fun h3 => ?_) (fun h3 => ?_)
    · exact rj_X0_isForced_39 d
    · refine Eq.trans (e_X0_isForced_35) ?_
      try simp only [mU_same, mU_mU]
      refine Eq.trans (e_X0_isForced_40) ?_
      try simp only [mU_same, mU_mU]
      exact if_pos (by decide)
theorem rr_X0_isForced_at (d : Nat) {X : mX} {g : mG} {i : Nat} {x1 : Int32} : mCall mD X (d + 3) 25 [mr i 0, mi x1] g = wN g (P_X0_isForced (g i) x1) := by
  have h := rr_X0_isForced (X := X) d (g := g) (c := g i) (x1 := x1) (i := i)
  rw [mU_self] at h
  exact h.trans (wI_self _ _ _)
theorem e_X2_firstOfRow_0 {X : mX} {call : Nat → List mV → mG → mR} {g : mG} {x1 : Int32} {i : Nat} : mEv X call 1 t_X2_firstOfRow (mDrop t_X2_firstOfRow 0) [some (mr i 1), some (mi x1), none] [] g = mAns (mEv X call 1 t_X2_firstOfRow) (mDrop t_X2_firstOfRow 6) [some (mr i 1), some (mi x1), none] [] (call 61 [mr i 1, mi x1, mi 0] g) := (mEv_4 _ _ _ _).trans rfl
theorem e_X2_firstOfRow_6 {X : mX} {call : Nat → List mV → mG → mR} {g : mG} {x1 s0 : Int32} {i : Nat} : mEv X call 1 t_X2_firstOfRow (mDrop t_X2_firstOfRow 6) [some (mr i 1), some (mi x1), none] [mi s0] g = if s0 = 0 then mEv X call 1 t_X2_firstOfRow (mDrop t_X2_firstOfRow 15) [some (mr i 1), some (mi x1), some (mi s0)] [] g else mEv X call 1 t_X2_firstOfRow (mDrop t_X2_firstOfRow 11) [some (mr i 1), some (mi x1), some (mi s0)] [] g := (mEv_3 _ _ _ _).trans rfl
theorem e_X2_firstOfRow_15 {X : mX} {call : Nat → List mV → mG → mR} {g : mG} {x1 x2 : Int32} {i : Nat} : mEv X call 1 t_X2_firstOfRow (mDrop t_X2_firstOfRow 15) [some (mr i 1), some (mi x1), some (mi x2)] [] g = mAns (mEv X call 1 t_X2_firstOfRow) (mDrop t_X2_firstOfRow 21) [some (mr i 1), some (mi x1), some (mi x2)] [] (call 61 [mr i 1, mi x1, mi 1] g) := (mEv_4 _ _ _ _).trans rfl
theorem e_X2_firstOfRow_21 {X : mX} {call : Nat → List mV → mG → mR} {g : mG} {x1 x2 s0 : Int32} {i : Nat} : mEv X call 1 t_X2_firstOfRow (mDrop t_X2_firstOfRow 21) [some (mr i 1), some (mi x1), some (mi x2)] [mi s0] g = mAns (mEv X call 1 t_X2_firstOfRow) (mDrop t_X2_firstOfRow 24) [some (mr i 1), some (mi x1), some (mi x2)] [] (call 150 [mi s0] g) := (mEv_1 _ _ _ _).trans rfl
theorem e_X2_firstOfRow_24 {X : mX} {call : Nat → List mV → mG → mR} {g : mG} {x1 x2 s0 : Int32} {i : Nat} : mEv X call 1 t_X2_firstOfRow (mDrop t_X2_firstOfRow 24) [some (mr i 1), some (mi x1), some (mi x2)] [mi s0] g = some (some (mi s0), g) := (mEv_1 _ _ _ _).trans rfl
noncomputable def J_X2_firstOfRow_21 (c : mC) (s0 : Int32) : (Int32) := (mBd (α := Int32) (P_X5_firstIn s0) (fun v1 => v1))
theorem rj_X2_firstOfRow_21 (d : Nat) {X : mX} {g : mG} {i : Nat} {x1 x2 s0 : Int32} {c : mC} : mEv X (mCall mD X (d + 1)) 1 t_X2_firstOfRow (mDrop t_X2_firstOfRow 21) [some (mr i 1), some (mi x1), some (mi x2)] [mi s0] (mU g i c) = (wI g i c) (J_X2_firstOfRow_21 c s0) := by
  refine Eq.trans (e_X2_firstOfRow_21) ?_
  try simp only [mU_same, mU_mU]
  refine mw_cI (rr_X5_firstIn d) (fun v1 => ?_)
  refine Eq.trans (e_X2_firstOfRow_24) ?_
  try simp only [mU_same, mU_mU]
  all_goals rfl
theorem e_X2_firstOfRow_11 {X : mX} {call : Nat → List mV → mG → mR} {g : mG} {x1 x2 : Int32} {i : Nat} : mEv X call 1 t_X2_firstOfRow (mDrop t_X2_firstOfRow 11) [some (mr i 1), some (mi x1), some (mi x2)] [] g = mEv X call 1 t_X2_firstOfRow (mDrop t_X2_firstOfRow 21) [some (mr i 1), some (mi x1), some (mi x2)] [mi x2] g := (mEv_2 _ _ _ _).trans rfl
noncomputable def P_X2_firstOfRow (c : mC) (x1 : Int32) : (Int32) := (mBd (α := Int32) (P_X2_partOf c x1 0) (fun v1 => (if v1 = 0 then (mBd (α := Int32) (P_X2_partOf c x1 1) (fun v2 => (J_X2_firstOfRow_21 c v2))) else (J_X2_firstOfRow_21 c v1))))
theorem rr_X2_firstOfRow (d : Nat) {X : mX} {g : mG} {i : Nat} {x1 : Int32} {c : mC} : mCall mD X (d + 2) 67 [mr i 1, mi x1] (mU g i c) = (wI g i c) (P_X2_firstOfRow c x1) := by
  refine Eq.trans (mCall_eq (d := d + 1) rfl) ?_
  show mEv X (mCall mD X (d + 1)) 1 t_X2_firstOfRow (mDrop t_X2_firstOfRow 0) [some (mr i 1), some (mi x1), none] [] (mU g i c) = _
  refine Eq.trans (e_X2_firstOfRow_0) ?_
  try simp only [mU_same, mU_mU]
  refine mw_cI (rr_X2_partOf d) (fun v1 => ?_)
  refine Eq.trans (e_X2_firstOfRow_6) ?_
  try simp only [mU_same, mU_mU]
  refine mw_ite (fun h3 => ?_) (fun h3 => ?_)
  · refine Eq.trans (e_X2_firstOfRow_15) ?_
    try simp only [mU_same, mU_mU]
    refine mw_cI (rr_X2_partOf d) (fun v2 => ?_)
    exact rj_X2_firstOfRow_21 d
  · refine Eq.trans (e_X2_firstOfRow_11) ?_
    try simp only [mU_same, mU_mU]
    exact rj_X2_firstOfRow_21 d
theorem rr_X2_firstOfRow_at (d : Nat) {X : mX} {g : mG} {i : Nat} {x1 : Int32} : mCall mD X (d + 2) 67 [mr i 1, mi x1] g = wN g (P_X2_firstOfRow (g i) x1) := by
  have h := rr_X2_firstOfRow (X := X) d (g := g) (c := g i) (x1 := x1) (i := i)
  rw [mU_self] at h
  exact h.trans (wI_self _ _ _)
theorem e_X0_isDone_0 {X : mX} {call : Nat → List mV → mG → mR} {g : mG} {i r : Nat} (h_r : r = 8 ∨ r = 9) : mEv X call 2 t_X0_isDone (mDrop t_X0_isDone 0) [some (mr i 0), some (mr i r), none] [] g = mAns (mEv X call 2 t_X0_isDone) (mDrop t_X0_isDone 4) [some (mr i 0), some (mr i r), none] [] (call 91 [mr i r] g) := by
  rcases h_r with rfl | rfl <;> exact (mEv_2 _ _ _ _).trans rfl
theorem e_X0_isDone_4 {X : mX} {call : Nat → List mV → mG → mR} {g : mG} {s0 : Int32} {i r : Nat} (h_r : r = 8 ∨ r = 9) : mEv X call 2 t_X0_isDone (mDrop t_X0_isDone 4) [some (mr i 0), some (mr i r), none] [mi s0] g = if s0 = 0 then mEv X call 2 t_X0_isDone (mDrop t_X0_isDone 33) [some (mr i 0), some (mr i r), none] [] g else mEv X call 2 t_X0_isDone (mDrop t_X0_isDone 7) [some (mr i 0), some (mr i r), none] [] g := by
  rcases h_r with rfl | rfl <;> exact (mEv_1 _ _ _ _).trans rfl
theorem e_X0_isDone_33 {X : mX} {call : Nat → List mV → mG → mR} {g : mG} {i r : Nat} (h_r : r = 8 ∨ r = 9) : mEv X call 2 t_X0_isDone (mDrop t_X0_isDone 33) [some (mr i 0), some (mr i r), none] [] g = if (0 : Int32) &&& 1 = 0 then some (some (mi 0), g) else none := by
  rcases h_r with rfl | rfl <;> exact (mEv_2 _ _ _ _).trans rfl
noncomputable def J_X0_isDone_33 (r : Nat) (c : mC) : (Int32) := 0
theorem rj_X0_isDone_33 (d : Nat) {X : mX} {g : mG} {i r : Nat} (h_r : r = 8 ∨ r = 9) {c : mC} : mEv X (mCall mD X (d + 3)) 2 t_X0_isDone (mDrop t_X0_isDone 33) [some (mr i 0), some (mr i r), none] [] (mU g i c) = (wI g i c) (J_X0_isDone_33 r c) := by
  refine Eq.trans (e_X0_isDone_33 h_r) ?_
  try simp only [mU_same, mU_mU]
  exact if_pos (by decide)
theorem e_X0_isDone_7 {X : mX} {call : Nat → List mV → mG → mR} {g : mG} {i r : Nat} (h_r : r = 8 ∨ r = 9) : mEv X call 2 t_X0_isDone (mDrop t_X0_isDone 7) [some (mr i 0), some (mr i r), none] [] g = mAns (mEv X call 2 t_X0_isDone) (mDrop t_X0_isDone 23) [some (mr i 0), some (mr i r), none] [mi (g i r 3)] (call 57 [mr i 1, mi (g i r 1), mi 0] g) := by
  rcases h_r with rfl | rfl <;> exact (mEv_8 _ _ _ _).trans rfl
theorem e_X0_isDone_23 {X : mX} {call : Nat → List mV → mG → mR} {g : mG} {s0 s1 : Int32} {i r : Nat} (h_r : r = 8 ∨ r = 9) : mEv X call 2 t_X0_isDone (mDrop t_X0_isDone 23) [some (mr i 0), some (mr i r), none] [mi s1, mi s0] g = if s0 < s1 then mEv X call 2 t_X0_isDone (mDrop t_X0_isDone 33) [some (mr i 0), some (mr i r), none] [] g else mEv X call 2 t_X0_isDone (mDrop t_X0_isDone 26) [some (mr i 0), some (mr i r), none] [] g := by
  rcases h_r with rfl | rfl <;> exact (mEv_1 _ _ _ _).trans rfl
theorem e_X0_isDone_26 {X : mX} {call : Nat → List mV → mG → mR} {g : mG} {i r : Nat} (h_r : r = 8 ∨ r = 9) : mEv X call 2 t_X0_isDone (mDrop t_X0_isDone 26) [some (mr i 0), some (mr i r), none] [] g = if (g i r 7) = 0 then mEv X call 2 t_X0_isDone (mDrop t_X0_isDone 35) [some (mr i 0), some (mr i r), none] [] g else mEv X call 2 t_X0_isDone (mDrop t_X0_isDone 33) [some (mr i 0), some (mr i r), none] [] g := by
  rcases h_r with rfl | rfl <;> exact (mEv_3 _ _ _ _).trans rfl
theorem e_X0_isDone_35 {X : mX} {call : Nat → List mV → mG → mR} {g : mG} {i r : Nat} (h_r : r = 8 ∨ r = 9) : mEv X call 2 t_X0_isDone (mDrop t_X0_isDone 35) [some (mr i 0), some (mr i r), none] [] g = mAns (mEv X call 2 t_X0_isDone) (mDrop t_X0_isDone 51) [some (mr i 0), some (mr i r), none] [mi (g i r 5)] (call 57 [mr i 1, mi (g i r 1), mi 1] g) := by
  rcases h_r with rfl | rfl <;> exact (mEv_8 _ _ _ _).trans rfl
theorem e_X0_isDone_51 {X : mX} {call : Nat → List mV → mG → mR} {g : mG} {s0 s1 : Int32} {i r : Nat} (h_r : r = 8 ∨ r = 9) : mEv X call 2 t_X0_isDone (mDrop t_X0_isDone 51) [some (mr i 0), some (mr i r), none] [mi s1, mi s0] g = if s0 < s1 then mEv X call 2 t_X0_isDone (mDrop t_X0_isDone 58) [some (mr i 0), some (mr i r), none] [] g else mEv X call 2 t_X0_isDone (mDrop t_X0_isDone 54) [some (mr i 0), some (mr i r), none] [] g := by
  rcases h_r with rfl | rfl <;> exact (mEv_1 _ _ _ _).trans rfl
theorem e_X0_isDone_58 {X : mX} {call : Nat → List mV → mG → mR} {g : mG} {i r : Nat} (h_r : r = 8 ∨ r = 9) : mEv X call 2 t_X0_isDone (mDrop t_X0_isDone 58) [some (mr i 0), some (mr i r), none] [] g = mEv X call 2 t_X0_isDone (mDrop t_X0_isDone 59) [some (mr i 0), some (mr i r), none] [mi 0] g := by
  rcases h_r with rfl | rfl <;> exact (mEv_1 _ _ _ _).trans rfl
theorem e_X0_isDone_59 {X : mX} {call : Nat → List mV → mG → mR} {g : mG} {s0 : Int32} {i r : Nat} (h_r : r = 8 ∨ r = 9) : mEv X call 2 t_X0_isDone (mDrop t_X0_isDone 59) [some (mr i 0), some (mr i r), none] [mi s0] g = if (g i 1 1) ≤ 0 then mEv X call 2 t_X0_isDone (mDrop t_X0_isDone 109) [some (mr i 0), some (mr i r), some (mi s0)] [] g else mEv X call 2 t_X0_isDone (mDrop t_X0_isDone 70) [some (mr i 0), some (mr i r), some (mi s0)] [] g := by
  rcases h_r with rfl | rfl <;> exact (mEv_5 _ _ _ _).trans rfl
theorem e_X0_isDone_109 {X : mX} {call : Nat → List mV → mG → mR} {g : mG} {x2 : Int32} {i r : Nat} (h_r : r = 8 ∨ r = 9) : mEv X call 2 t_X0_isDone (mDrop t_X0_isDone 109) [some (mr i 0), some (mr i r), some (mi x2)] [] g = if x2 = 0 then mEv X call 2 t_X0_isDone (mDrop t_X0_isDone 130) [some (mr i 0), some (mr i r), some (mi x2)] [] g else mEv X call 2 t_X0_isDone (mDrop t_X0_isDone 113) [some (mr i 0), some (mr i r), some (mi x2)] [] g := by
  rcases h_r with rfl | rfl <;> exact (mEv_2 _ _ _ _).trans rfl
theorem e_X0_isDone_130 {X : mX} {call : Nat → List mV → mG → mR} {g : mG} {x2 : Int32} {i r : Nat} (h_r : r = 8 ∨ r = 9) : mEv X call 2 t_X0_isDone (mDrop t_X0_isDone 130) [some (mr i 0), some (mr i r), some (mi x2)] [] g = mAns (mEv X call 2 t_X0_isDone) (mDrop t_X0_isDone 146) [some (mr i 0), some (mr i r), some (mi x2)] [mi (g i r 6)] (call 57 [mr i 1, mi (g i r 1), mi 2] g) := by
  rcases h_r with rfl | rfl <;> exact (mEv_8 _ _ _ _).trans rfl
theorem e_X0_isDone_146 {X : mX} {call : Nat → List mV → mG → mR} {g : mG} {x2 s0 s1 : Int32} {i r : Nat} (h_r : r = 8 ∨ r = 9) : mEv X call 2 t_X0_isDone (mDrop t_X0_isDone 146) [some (mr i 0), some (mr i r), some (mi x2)] [mi s1, mi s0] g = if s0 < s1 then mEv X call 2 t_X0_isDone (mDrop t_X0_isDone 153) [some (mr i 0), some (mr i r), some (mi x2)] [] g else mEv X call 2 t_X0_isDone (mDrop t_X0_isDone 149) [some (mr i 0), some (mr i r), some (mi x2)] [] g := by
  rcases h_r with rfl | rfl <;> exact (mEv_1 _ _ _ _).trans rfl
theorem e_X0_isDone_153 {X : mX} {call : Nat → List mV → mG → mR} {g : mG} {x2 : Int32} {i r : Nat} (h_r : r = 8 ∨ r = 9) : mEv X call 2 t_X0_isDone (mDrop t_X0_isDone 153) [some (mr i 0), some (mr i r), some (mi x2)] [] g = mEv X call 2 t_X0_isDone (mDrop t_X0_isDone 154) [some (mr i 0), some (mr i r), some (mi x2)] [mi 0] g := by
  rcases h_r with rfl | rfl <;> exact (mEv_1 _ _ _ _).trans rfl
theorem e_X0_isDone_154 {X : mX} {call : Nat → List mV → mG → mR} {g : mG} {x2 s0 : Int32} {i r : Nat} (h_r : r = 8 ∨ r = 9) : mEv X call 2 t_X0_isDone (mDrop t_X0_isDone 154) [some (mr i 0), some (mr i r), some (mi x2)] [mi s0] g = if (s0 : Int32) &&& 1 = s0 then some (some (mi s0), g) else none := by
  rcases h_r with rfl | rfl <;> exact (mEv_1 _ _ _ _).trans rfl
theorem e_X0_isDone_149 {X : mX} {call : Nat → List mV → mG → mR} {g : mG} {x2 : Int32} {i r : Nat} (h_r : r = 8 ∨ r = 9) : mEv X call 2 t_X0_isDone (mDrop t_X0_isDone 149) [some (mr i 0), some (mr i r), some (mi x2)] [] g = mEv X call 2 t_X0_isDone (mDrop t_X0_isDone 154) [some (mr i 0), some (mr i r), some (mi x2)] [mi 1] g := by
  rcases h_r with rfl | rfl <;> exact (mEv_2 _ _ _ _).trans rfl
noncomputable def J_X0_isDone_149 (r : Nat) (c : mC) : (Int32) := 1
theorem rj_X0_isDone_149 (d : Nat) {X : mX} {g : mG} {i r : Nat} (h_r : r = 8 ∨ r = 9) {x2 : Int32} {c : mC} : mEv X (mCall mD X (d + 3)) 2 t_X0_isDone (mDrop t_X0_isDone 149) [some (mr i 0), some (mr i r), some (mi x2)] [] (mU g i c) = (wI g i c) (J_X0_isDone_149 r c) := by
  refine Eq.trans (e_X0_isDone_149 h_r) ?_
  try simp only [mU_same, mU_mU]
  refine Eq.trans (e_X0_isDone_154 h_r) ?_
  try simp only [mU_same, mU_mU]
  exact if_pos (by decide)
noncomputable def J_X0_isDone_130 (r : Nat) (c : mC) : (Int32) := (mBd (α := Int32) (P_X2_markOf c (c r 1) 2) (fun v1 => (if (c r 6) < v1 then 0 else (J_X0_isDone_149 r c))))
theorem rj_X0_isDone_130 (d : Nat) {X : mX} {g : mG} {i r : Nat} (h_r : r = 8 ∨ r = 9) {x2 : Int32} {c : mC} : mEv X (mCall mD X (d + 3)) 2 t_X0_isDone (mDrop t_X0_isDone 130) [some (mr i 0), some (mr i r), some (mi x2)] [] (mU g i c) = (wI g i c) (J_X0_isDone_130 r c) := by
  refine Eq.trans (e_X0_isDone_130 h_r) ?_
  try simp only [mU_same, mU_mU]
  refine mw_cI (rr_X2_markOf (d + 2)) (fun v1 => ?_)
  refine Eq.trans (e_X0_isDone_146 h_r) ?_
  try simp only [mU_same, mU_mU]
  refine mw_ite (fun h2 => ?_) (fun h2 => ?_)
  · refine Eq.trans (e_X0_isDone_153 h_r) ?_
    try simp only [mU_same, mU_mU]
    refine Eq.trans (e_X0_isDone_154 h_r) ?_
    try simp only [mU_same, mU_mU]
    exact if_pos (by decide)
  · exact rj_X0_isDone_149 d h_r
theorem e_X0_isDone_113 {X : mX} {call : Nat → List mV → mG → mR} {g : mG} {x2 : Int32} {i r : Nat} (h_r : r = 8 ∨ r = 9) : mEv X call 2 t_X0_isDone (mDrop t_X0_isDone 113) [some (mr i 0), some (mr i r), some (mi x2)] [] g = mAns (mEv X call 2 t_X0_isDone) (mDrop t_X0_isDone 126) [some (mr i 0), some (mr i r), some (mi x2)] [] (call 57 [mr i 1, mi (g i r 1), mi 7] g) := by
  rcases h_r with rfl | rfl <;> exact (mEv_6 _ _ _ _).trans rfl
theorem e_X0_isDone_126 {X : mX} {call : Nat → List mV → mG → mR} {g : mG} {x2 s0 : Int32} {i r : Nat} (h_r : r = 8 ∨ r = 9) : mEv X call 2 t_X0_isDone (mDrop t_X0_isDone 126) [some (mr i 0), some (mr i r), some (mi x2)] [mi s0] g = if s0 = 2 then mEv X call 2 t_X0_isDone (mDrop t_X0_isDone 130) [some (mr i 0), some (mr i r), some (mi x2)] [] g else mEv X call 2 t_X0_isDone (mDrop t_X0_isDone 149) [some (mr i 0), some (mr i r), some (mi x2)] [] g := by
  rcases h_r with rfl | rfl <;> exact (mEv_2 _ _ _ _).trans rfl
theorem e_X0_isDone_70 {X : mX} {call : Nat → List mV → mG → mR} {g : mG} {x2 : Int32} {i r : Nat} (h_r : r = 8 ∨ r = 9) : mEv X call 2 t_X0_isDone (mDrop t_X0_isDone 70) [some (mr i 0), some (mr i r), some (mi x2)] [] g = mAns (mEv X call 2 t_X0_isDone) (mDrop t_X0_isDone 78) [some (mr i 0), some (mr i r), some (mi x2)] [] (call 25 [mr i 0, mi (g i r 1)] g) := by
  rcases h_r with rfl | rfl <;> exact (mEv_4 _ _ _ _).trans rfl
theorem e_X0_isDone_78 {X : mX} {call : Nat → List mV → mG → mR} {g : mG} {x2 s0 : Int32} {i r : Nat} (h_r : r = 8 ∨ r = 9) : mEv X call 2 t_X0_isDone (mDrop t_X0_isDone 78) [some (mr i 0), some (mr i r), some (mi x2)] [mi s0] g = if s0 = 0 then mEv X call 2 t_X0_isDone (mDrop t_X0_isDone 81) [some (mr i 0), some (mr i r), some (mi x2)] [] g else mEv X call 2 t_X0_isDone (mDrop t_X0_isDone 103) [some (mr i 0), some (mr i r), some (mi x2)] [] g := by
  rcases h_r with rfl | rfl <;> exact (mEv_1 _ _ _ _).trans rfl
theorem e_X0_isDone_81 {X : mX} {call : Nat → List mV → mG → mR} {g : mG} {x2 : Int32} {i r : Nat} (h_r : r = 8 ∨ r = 9) : mEv X call 2 t_X0_isDone (mDrop t_X0_isDone 81) [some (mr i 0), some (mr i r), some (mi x2)] [] g = if x2 = 0 then mEv X call 2 t_X0_isDone (mDrop t_X0_isDone 107) [some (mr i 0), some (mr i r), some (mi x2)] [] g else mEv X call 2 t_X0_isDone (mDrop t_X0_isDone 85) [some (mr i 0), some (mr i r), some (mi x2)] [] g := by
  rcases h_r with rfl | rfl <;> exact (mEv_2 _ _ _ _).trans rfl
theorem e_X0_isDone_107 {X : mX} {call : Nat → List mV → mG → mR} {g : mG} {x2 : Int32} {i r : Nat} (h_r : r = 8 ∨ r = 9) : mEv X call 2 t_X0_isDone (mDrop t_X0_isDone 107) [some (mr i 0), some (mr i r), some (mi x2)] [] g = mEv X call 2 t_X0_isDone (mDrop t_X0_isDone 108) [some (mr i 0), some (mr i r), some (mi x2)] [mi 0] g := by
  rcases h_r with rfl | rfl <;> exact (mEv_1 _ _ _ _).trans rfl
theorem e_X0_isDone_108 {X : mX} {call : Nat → List mV → mG → mR} {g : mG} {x2 s0 : Int32} {i r : Nat} (h_r : r = 8 ∨ r = 9) : mEv X call 2 t_X0_isDone (mDrop t_X0_isDone 108) [some (mr i 0), some (mr i r), some (mi x2)] [mi s0] g = if (s0 : Int32) &&& 1 = s0 then some (some (mi s0), g) else none := by
  rcases h_r with rfl | rfl <;> exact (mEv_1 _ _ _ _).trans rfl
noncomputable def J_X0_isDone_107 (r : Nat) (c : mC) : (Int32) := 0
theorem rj_X0_isDone_107 (d : Nat) {X : mX} {g : mG} {i r : Nat} (h_r : r = 8 ∨ r = 9) {x2 : Int32} {c : mC} : mEv X (mCall mD X (d + 3)) 2 t_X0_isDone (mDrop t_X0_isDone 107) [some (mr i 0), some (mr i r), some (mi x2)] [] (mU g i c) = (wI g i c) (J_X0_isDone_107 r c) := by
  refine Eq.trans (e_X0_isDone_107 h_r) ?_
  try simp only [mU_same, mU_mU]
  refine Eq.trans (e_X0_isDone_108 h_r) ?_
  try simp only [mU_same, mU_mU]
  exact if_pos (by decide)
theorem e_X0_isDone_85 {X : mX} {call : Nat → List mV → mG → mR} {g : mG} {x2 : Int32} {i r : Nat} (h_r : r = 8 ∨ r = 9) : mEv X call 2 t_X0_isDone (mDrop t_X0_isDone 85) [some (mr i 0), some (mr i r), some (mi x2)] [] g = mAns (mEv X call 2 t_X0_isDone) (mDrop t_X0_isDone 100) [some (mr i 0), some (mr i r), some (mi x2)] [mi (g i r 1)] (call 67 [mr i 1, mi (g i r 0)] g) := by
  rcases h_r with rfl | rfl <;> exact (mEv_7 _ _ _ _).trans rfl
theorem e_X0_isDone_100 {X : mX} {call : Nat → List mV → mG → mR} {g : mG} {x2 s0 s1 : Int32} {i r : Nat} (h_r : r = 8 ∨ r = 9) : mEv X call 2 t_X0_isDone (mDrop t_X0_isDone 100) [some (mr i 0), some (mr i r), some (mi x2)] [mi s1, mi s0] g = if s0 = s1 then mEv X call 2 t_X0_isDone (mDrop t_X0_isDone 107) [some (mr i 0), some (mr i r), some (mi x2)] [] g else mEv X call 2 t_X0_isDone (mDrop t_X0_isDone 103) [some (mr i 0), some (mr i r), some (mi x2)] [] g := by
  rcases h_r with rfl | rfl <;> exact (mEv_1 _ _ _ _).trans rfl
theorem e_X0_isDone_103 {X : mX} {call : Nat → List mV → mG → mR} {g : mG} {x2 : Int32} {i r : Nat} (h_r : r = 8 ∨ r = 9) : mEv X call 2 t_X0_isDone (mDrop t_X0_isDone 103) [some (mr i 0), some (mr i r), some (mi x2)] [] g = mEv X call 2 t_X0_isDone (mDrop t_X0_isDone 108) [some (mr i 0), some (mr i r), some (mi x2)] [mi 1] g := by
  rcases h_r with rfl | rfl <;> exact (mEv_2 _ _ _ _).trans rfl
noncomputable def J_X0_isDone_103 (r : Nat) (c : mC) : (Int32) := 1
theorem rj_X0_isDone_103 (d : Nat) {X : mX} {g : mG} {i r : Nat} (h_r : r = 8 ∨ r = 9) {x2 : Int32} {c : mC} : mEv X (mCall mD X (d + 3)) 2 t_X0_isDone (mDrop t_X0_isDone 103) [some (mr i 0), some (mr i r), some (mi x2)] [] (mU g i c) = (wI g i c) (J_X0_isDone_103 r c) := by
  refine Eq.trans (e_X0_isDone_103 h_r) ?_
  try simp only [mU_same, mU_mU]
  refine Eq.trans (e_X0_isDone_108 h_r) ?_
  try simp only [mU_same, mU_mU]
  exact if_pos (by decide)
noncomputable def J_X0_isDone_59 (r : Nat) (c : mC) (s0 : Int32) : (Int32) := (if (c 1 1) ≤ 0 then (if s0 = 0 then (J_X0_isDone_130 r c) else (mBd (α := Int32) (P_X2_markOf c (c r 1) 7) (fun v1 => (if v1 = 2 then (J_X0_isDone_130 r c) else (J_X0_isDone_149 r c))))) else (mBd (α := Int32) (P_X0_isForced c (c r 1)) (fun v4 => (if v4 = 0 then (if s0 = 0 then (J_X0_isDone_107 r c) else (mBd (α := Int32) (P_X2_firstOfRow c (c r 0)) (fun v5 => (if (c r 1) = v5 then (J_X0_isDone_107 r c) else (J_X0_isDone_103 r c))))) else (J_X0_isDone_103 r c)))))
theorem rj_X0_isDone_59 (d : Nat) {X : mX} {g : mG} {i r : Nat} (h_r : r = 8 ∨ r = 9) {s0 : Int32} {c : mC} : mEv X (mCall mD X (d + 3)) 2 t_X0_isDone (mDrop t_X0_isDone 59) [some (mr i 0), some (mr i r), none] [mi s0] (mU g i c) = (wI g i c) (J_X0_isDone_59 r c s0) := by
  refine Eq.trans (e_X0_isDone_59 h_r) ?_
  try simp only [mU_same, mU_mU]
  refine mw_ite (fun h9 => ?_) (fun h9 => ?_)
  · refine Eq.trans (e_X0_isDone_109 h_r) ?_
    try simp only [mU_same, mU_mU]
    refine mw_ite (fun h3 => ?_) (fun h3 => ?_)
    · exact rj_X0_isDone_130 d h_r
    · refine Eq.trans (e_X0_isDone_113 h_r) ?_
      try simp only [mU_same, mU_mU]
      refine mw_cI (rr_X2_markOf (d + 2)) (fun v1 => ?_)
      refine Eq.trans (e_X0_isDone_126 h_r) ?_
      try simp only [mU_same, mU_mU]
      refine mw_ite (fun h2 => ?_) (fun h2 => ?_)
      · exact rj_X0_isDone_130 d h_r
      · exact rj_X0_isDone_149 d h_r
  · refine Eq.trans (e_X0_isDone_70 h_r) ?_
    try simp only [mU_same, mU_mU]
    refine mw_cZ (rr_X0_isForced d) rfl (fun v4 hv4 => ?_)
    refine Eq.trans (e_X0_isDone_78 h_r) ?_
    try simp only [mU_same, mU_mU]
    refine mw_ite (fun h8 => ?_) (fun h8 => ?_)
    · refine Eq.trans (e_X0_isDone_81 h_r) ?_
      try simp only [mU_same, mU_mU]
      refine mw_ite (fun h7 => ?_) (fun h7 => ?_)
      · exact rj_X0_isDone_107 d h_r
      · refine Eq.trans (e_X0_isDone_85 h_r) ?_
        try simp only [mU_same, mU_mU]
        refine mw_cI (rr_X2_firstOfRow (d + 1)) (fun v5 => ?_)
        refine Eq.trans (e_X0_isDone_100 h_r) ?_
        try simp only [mU_same, mU_mU]
        refine mw_ite (fun h6 => ?_) (fun h6 => ?_)
        · exact rj_X0_isDone_107 d h_r
        · exact rj_X0_isDone_103 d h_r
    · exact rj_X0_isDone_103 d h_r
theorem e_X0_isDone_54 {X : mX} {call : Nat → List mV → mG → mR} {g : mG} {i r : Nat} (h_r : r = 8 ∨ r = 9) : mEv X call 2 t_X0_isDone (mDrop t_X0_isDone 54) [some (mr i 0), some (mr i r), none] [] g = mEv X call 2 t_X0_isDone (mDrop t_X0_isDone 59) [some (mr i 0), some (mr i r), none] [mi 1] g := by
  rcases h_r with rfl | rfl <;> exact (mEv_2 _ _ _ _).trans rfl
noncomputable def P_X0_isDone (r : Nat) (c : mC) : (Int32) := (mBd (α := Int32) (P_X4_isGreen r c) (fun v1 => (if v1 = 0 then (J_X0_isDone_33 r c) else (mBd (α := Int32) (P_X2_markOf c (c r 1) 0) (fun v2 => (if (c r 3) < v2 then (J_X0_isDone_33 r c) else (if (c r 7) = 0 then (mBd (α := Int32) (P_X2_markOf c (c r 1) 1) (fun v3 => (if (c r 5) < v3 then (J_X0_isDone_59 r c 0) else (J_X0_isDone_59 r c 1)))) else (J_X0_isDone_33 r c))))))))
theorem rr_X0_isDone (d : Nat) {X : mX} {g : mG} {i r : Nat} (h_r : r = 8 ∨ r = 9) {c : mC} : mCall mD X (d + 4) 31 [mr i 0, mr i r] (mU g i c) = (wI g i c) (P_X0_isDone r c) := by
  refine Eq.trans (mCall_eq (d := d + 3) rfl) ?_
  show mEv X (mCall mD X (d + 3)) 2 t_X0_isDone (mDrop t_X0_isDone 0) [some (mr i 0), some (mr i r), none] [] (mU g i c) = _
  refine Eq.trans (e_X0_isDone_0 h_r) ?_
  try simp only [mU_same, mU_mU]
  refine mw_cZ (rr_X4_isGreen (d + 2) h_r) rfl (fun v1 hv1 => ?_)
  refine Eq.trans (e_X0_isDone_4 h_r) ?_
  try simp only [mU_same, mU_mU]
  refine mw_ite (fun h7 => ?_) (fun h7 => ?_)
  · exact rj_X0_isDone_33 d h_r
  · refine Eq.trans (e_X0_isDone_7 h_r) ?_
    try simp only [mU_same, mU_mU]
    refine mw_cI (rr_X2_markOf (d + 2)) (fun v2 => ?_)
    refine Eq.trans (e_X0_isDone_23 h_r) ?_
    try simp only [mU_same, mU_mU]
    refine mw_ite (fun h6 => ?_) (fun h6 => ?_)
    · exact rj_X0_isDone_33 d h_r
    · refine Eq.trans (e_X0_isDone_26 h_r) ?_
      try simp only [mU_same, mU_mU]
      refine mw_ite (fun h5 => ?_) (fun h5 => ?_)
      · refine Eq.trans (e_X0_isDone_35 h_r) ?_
        try simp only [mU_same, mU_mU]
        refine mw_cI (rr_X2_markOf (d + 2)) (fun v3 => ?_)
        refine Eq.trans (e_X0_isDone_51 h_r) ?_
        try simp only [mU_same, mU_mU]
        refine mw_ite (fun h4 => ?_) (fun h4 => ?_)
        · refine Eq.trans (e_X0_isDone_58 h_r) ?_
          try simp only [mU_same, mU_mU]
          exact rj_X0_isDone_59 d h_r
        · refine Eq.trans (e_X0_isDone_54 h_r) ?_
          try simp only [mU_same, mU_mU]
          exact rj_X0_isDone_59 d h_r
      · exact rj_X0_isDone_33 d h_r
theorem rr_X0_isDone_at (d : Nat) {X : mX} {g : mG} {i r : Nat} (h_r : r = 8 ∨ r = 9) : mCall mD X (d + 4) 31 [mr i 0, mr i r] g = wN g (P_X0_isDone r (g i)) := by
  have h := rr_X0_isDone (X := X) d (g := g) (c := g i) h_r (i := i)
  rw [mU_self] at h
  exact h.trans (wI_self _ _ _)
theorem e_X0_tellRing_0 {X : mX} {call : Nat → List mV → mG → mR} {g : mG} {x2 : Int32} {i r : Nat} (h_r : r = 8 ∨ r = 9) : mEv X call 1 t_X0_tellRing (mDrop t_X0_tellRing 0) [some (mr i 0), some (mr i r), some (mi x2)] [] g = if x2 ≤ 3 then mEv X call 1 t_X0_tellRing (mDrop t_X0_tellRing 14) [some (mr i 0), some (mr i r), some (mi x2)] [] g else mEv X call 1 t_X0_tellRing (mDrop t_X0_tellRing 5) [some (mr i 0), some (mr i r), some (mi x2)] [] g := by
  rcases h_r with rfl | rfl <;> exact (mEv_3 _ _ _ _).trans rfl
theorem e_X0_tellRing_14 {X : mX} {call : Nat → List mV → mG → mR} {g : mG} {x2 : Int32} {i r : Nat} (h_r : r = 8 ∨ r = 9) : mEv X call 1 t_X0_tellRing (mDrop t_X0_tellRing 14) [some (mr i 0), some (mr i r), some (mi x2)] [] g = if x2 = 0 then mEv X call 1 t_X0_tellRing (mDrop t_X0_tellRing 64) [some (mr i 0), some (mr i r), some (mi x2)] [] g else (if x2 = 1 then mEv X call 1 t_X0_tellRing (mDrop t_X0_tellRing 69) [some (mr i 0), some (mr i r), some (mi x2)] [] g else (if x2 = 2 then mEv X call 1 t_X0_tellRing (mDrop t_X0_tellRing 74) [some (mr i 0), some (mr i r), some (mi x2)] [] g else (if x2 = 3 then mEv X call 1 t_X0_tellRing (mDrop t_X0_tellRing 79) [some (mr i 0), some (mr i r), some (mi x2)] [] g else (if x2 = 4 then mEv X call 1 t_X0_tellRing (mDrop t_X0_tellRing 84) [some (mr i 0), some (mr i r), some (mi x2)] [] g else (if x2 = 5 then mEv X call 1 t_X0_tellRing (mDrop t_X0_tellRing 89) [some (mr i 0), some (mr i r), some (mi x2)] [] g else (if x2 = 6 then mEv X call 1 t_X0_tellRing (mDrop t_X0_tellRing 94) [some (mr i 0), some (mr i r), some (mi x2)] [] g else (if x2 = 7 then mEv X call 1 t_X0_tellRing (mDrop t_X0_tellRing 99) [some (mr i 0), some (mr i r), some (mi x2)] [] g else (if x2 = 8 then mEv X call 1 t_X0_tellRing (mDrop t_X0_tellRing 104) [some (mr i 0), some (mr i r), some (mi x2)] [] g else (mEv X call 1 t_X0_tellRing (mDrop t_X0_tellRing 118) [some (mr i 0), some (mr i r), some (mi x2)] [] g))))))))) := by
  rcases h_r with rfl | rfl <;> exact (mEv_2 _ _ _ _).trans rfl
theorem e_X0_tellRing_118 {X : mX} {call : Nat → List mV → mG → mR} {g : mG} {x2 : Int32} {i r : Nat} (h_r : r = 8 ∨ r = 9) : mEv X call 1 t_X0_tellRing (mDrop t_X0_tellRing 118) [some (mr i 0), some (mr i r), some (mi x2)] [] g = mAns (mEv X call 1 t_X0_tellRing) (mDrop t_X0_tellRing 126) [some (mr i 0), some (mr i r), some (mi x2)] [] (call 25 [mr i 0, mi (g i r 1)] g) := by
  rcases h_r with rfl | rfl <;> exact (mEv_4 _ _ _ _).trans rfl
theorem e_X0_tellRing_126 {X : mX} {call : Nat → List mV → mG → mR} {g : mG} {x2 s0 : Int32} {i r : Nat} (h_r : r = 8 ∨ r = 9) : mEv X call 1 t_X0_tellRing (mDrop t_X0_tellRing 126) [some (mr i 0), some (mr i r), some (mi x2)] [mi s0] g = if s0 = 0 then mEv X call 1 t_X0_tellRing (mDrop t_X0_tellRing 133) [some (mr i 0), some (mr i r), some (mi x2)] [] g else mEv X call 1 t_X0_tellRing (mDrop t_X0_tellRing 129) [some (mr i 0), some (mr i r), some (mi x2)] [] g := by
  rcases h_r with rfl | rfl <;> exact (mEv_1 _ _ _ _).trans rfl
theorem e_X0_tellRing_133 {X : mX} {call : Nat → List mV → mG → mR} {g : mG} {x2 : Int32} {i r : Nat} (h_r : r = 8 ∨ r = 9) : mEv X call 1 t_X0_tellRing (mDrop t_X0_tellRing 133) [some (mr i 0), some (mr i r), some (mi x2)] [] g = mEv X call 1 t_X0_tellRing (mDrop t_X0_tellRing 134) [some (mr i 0), some (mr i r), some (mi x2)] [mi 0] g := by
  rcases h_r with rfl | rfl <;> exact (mEv_1 _ _ _ _).trans rfl
theorem e_X0_tellRing_134 {X : mX} {call : Nat → List mV → mG → mR} {g : mG} {x2 s0 : Int32} {i r : Nat} (h_r : r = 8 ∨ r = 9) : mEv X call 1 t_X0_tellRing (mDrop t_X0_tellRing 134) [some (mr i 0), some (mr i r), some (mi x2)] [mi s0] g = some (some (mi s0), g) := by
  rcases h_r with rfl | rfl <;> exact (mEv_1 _ _ _ _).trans rfl
theorem e_X0_tellRing_129 {X : mX} {call : Nat → List mV → mG → mR} {g : mG} {x2 : Int32} {i r : Nat} (h_r : r = 8 ∨ r = 9) : mEv X call 1 t_X0_tellRing (mDrop t_X0_tellRing 129) [some (mr i 0), some (mr i r), some (mi x2)] [] g = mEv X call 1 t_X0_tellRing (mDrop t_X0_tellRing 134) [some (mr i 0), some (mr i r), some (mi x2)] [mi 1] g := by
  rcases h_r with rfl | rfl <;> exact (mEv_2 _ _ _ _).trans rfl
theorem e_X0_tellRing_64 {X : mX} {call : Nat → List mV → mG → mR} {g : mG} {x2 : Int32} {i r : Nat} (h_r : r = 8 ∨ r = 9) : mEv X call 1 t_X0_tellRing (mDrop t_X0_tellRing 64) [some (mr i 0), some (mr i r), some (mi x2)] [] g = some (some (mi (g i r 1)), g) := by
  rcases h_r with rfl | rfl <;> exact (mEv_3 _ _ _ _).trans rfl
theorem e_X0_tellRing_69 {X : mX} {call : Nat → List mV → mG → mR} {g : mG} {x2 : Int32} {i r : Nat} (h_r : r = 8 ∨ r = 9) : mEv X call 1 t_X0_tellRing (mDrop t_X0_tellRing 69) [some (mr i 0), some (mr i r), some (mi x2)] [] g = some (some (mi (g i r 2)), g) := by
  rcases h_r with rfl | rfl <;> exact (mEv_3 _ _ _ _).trans rfl
theorem e_X0_tellRing_74 {X : mX} {call : Nat → List mV → mG → mR} {g : mG} {x2 : Int32} {i r : Nat} (h_r : r = 8 ∨ r = 9) : mEv X call 1 t_X0_tellRing (mDrop t_X0_tellRing 74) [some (mr i 0), some (mr i r), some (mi x2)] [] g = some (some (mi (g i r 3)), g) := by
  rcases h_r with rfl | rfl <;> exact (mEv_3 _ _ _ _).trans rfl
theorem e_X0_tellRing_79 {X : mX} {call : Nat → List mV → mG → mR} {g : mG} {x2 : Int32} {i r : Nat} (h_r : r = 8 ∨ r = 9) : mEv X call 1 t_X0_tellRing (mDrop t_X0_tellRing 79) [some (mr i 0), some (mr i r), some (mi x2)] [] g = some (some (mi (g i r 4)), g) := by
  rcases h_r with rfl | rfl <;> exact (mEv_3 _ _ _ _).trans rfl
theorem e_X0_tellRing_84 {X : mX} {call : Nat → List mV → mG → mR} {g : mG} {x2 : Int32} {i r : Nat} (h_r : r = 8 ∨ r = 9) : mEv X call 1 t_X0_tellRing (mDrop t_X0_tellRing 84) [some (mr i 0), some (mr i r), some (mi x2)] [] g = some (some (mi (g i r 5)), g) := by
  rcases h_r with rfl | rfl <;> exact (mEv_3 _ _ _ _).trans rfl
theorem e_X0_tellRing_89 {X : mX} {call : Nat → List mV → mG → mR} {g : mG} {x2 : Int32} {i r : Nat} (h_r : r = 8 ∨ r = 9) : mEv X call 1 t_X0_tellRing (mDrop t_X0_tellRing 89) [some (mr i 0), some (mr i r), some (mi x2)] [] g = some (some (mi (g i r 6)), g) := by
  rcases h_r with rfl | rfl <;> exact (mEv_3 _ _ _ _).trans rfl
theorem e_X0_tellRing_94 {X : mX} {call : Nat → List mV → mG → mR} {g : mG} {x2 : Int32} {i r : Nat} (h_r : r = 8 ∨ r = 9) : mEv X call 1 t_X0_tellRing (mDrop t_X0_tellRing 94) [some (mr i 0), some (mr i r), some (mi x2)] [] g = some (some (mi (g i r 7)), g) := by
  rcases h_r with rfl | rfl <;> exact (mEv_3 _ _ _ _).trans rfl
theorem e_X0_tellRing_99 {X : mX} {call : Nat → List mV → mG → mR} {g : mG} {x2 : Int32} {i r : Nat} (h_r : r = 8 ∨ r = 9) : mEv X call 1 t_X0_tellRing (mDrop t_X0_tellRing 99) [some (mr i 0), some (mr i r), some (mi x2)] [] g = some (some (mi (g i r 8)), g) := by
  rcases h_r with rfl | rfl <;> exact (mEv_3 _ _ _ _).trans rfl
theorem e_X0_tellRing_104 {X : mX} {call : Nat → List mV → mG → mR} {g : mG} {x2 : Int32} {i r : Nat} (h_r : r = 8 ∨ r = 9) : mEv X call 1 t_X0_tellRing (mDrop t_X0_tellRing 104) [some (mr i 0), some (mr i r), some (mi x2)] [] g = mAns (mEv X call 1 t_X0_tellRing) (mDrop t_X0_tellRing 109) [some (mr i 0), some (mr i r), some (mi x2)] [] (call 31 [mr i 0, mr i r] g) := by
  rcases h_r with rfl | rfl <;> exact (mEv_3 _ _ _ _).trans rfl
theorem e_X0_tellRing_109 {X : mX} {call : Nat → List mV → mG → mR} {g : mG} {x2 s0 : Int32} {i r : Nat} (h_r : r = 8 ∨ r = 9) : mEv X call 1 t_X0_tellRing (mDrop t_X0_tellRing 109) [some (mr i 0), some (mr i r), some (mi x2)] [mi s0] g = if s0 = 0 then mEv X call 1 t_X0_tellRing (mDrop t_X0_tellRing 116) [some (mr i 0), some (mr i r), some (mi x2)] [] g else mEv X call 1 t_X0_tellRing (mDrop t_X0_tellRing 112) [some (mr i 0), some (mr i r), some (mi x2)] [] g := by
  rcases h_r with rfl | rfl <;> exact (mEv_1 _ _ _ _).trans rfl
theorem e_X0_tellRing_116 {X : mX} {call : Nat → List mV → mG → mR} {g : mG} {x2 : Int32} {i r : Nat} (h_r : r = 8 ∨ r = 9) : mEv X call 1 t_X0_tellRing (mDrop t_X0_tellRing 116) [some (mr i 0), some (mr i r), some (mi x2)] [] g = mEv X call 1 t_X0_tellRing (mDrop t_X0_tellRing 117) [some (mr i 0), some (mr i r), some (mi x2)] [mi 0] g := by
  rcases h_r with rfl | rfl <;> exact (mEv_1 _ _ _ _).trans rfl
theorem e_X0_tellRing_117 {X : mX} {call : Nat → List mV → mG → mR} {g : mG} {x2 s0 : Int32} {i r : Nat} (h_r : r = 8 ∨ r = 9) : mEv X call 1 t_X0_tellRing (mDrop t_X0_tellRing 117) [some (mr i 0), some (mr i r), some (mi x2)] [mi s0] g = some (some (mi s0), g) := by
  rcases h_r with rfl | rfl <;> exact (mEv_1 _ _ _ _).trans rfl
theorem e_X0_tellRing_112 {X : mX} {call : Nat → List mV → mG → mR} {g : mG} {x2 : Int32} {i r : Nat} (h_r : r = 8 ∨ r = 9) : mEv X call 1 t_X0_tellRing (mDrop t_X0_tellRing 112) [some (mr i 0), some (mr i r), some (mi x2)] [] g = mEv X call 1 t_X0_tellRing (mDrop t_X0_tellRing 117) [some (mr i 0), some (mr i r), some (mi x2)] [mi 1] g := by
  rcases h_r with rfl | rfl <;> exact (mEv_2 _ _ _ _).trans rfl
noncomputable def J_X0_tellRing_14 (r : Nat) (c : mC) (x2 : Int32) : (Int32) := (if x2 = 0 then (c r 1) else (if x2 = 1 then (c r 2) else (if x2 = 2 then (c r 3) else (if x2 = 3 then (c r 4) else (if x2 = 4 then (c r 5) else (if x2 = 5 then (c r 6) else (if x2 = 6 then (c r 7) else (if x2 = 7 then (c r 8) else (if x2 = 8 then (mBd (α := Int32) (P_X0_isDone r c) (fun v3 => (if v3 = 0 then 0 else 1))) else (mBd (α := Int32) (P_X0_isForced c (c r 1)) (fun v1 => (if v1 = 0 then 0 else 1))))))))))))
theorem rj_X0_tellRing_14 (d : Nat) {X : mX} {g : mG} {i r : Nat} (h_r : r = 8 ∨ r = 9) {x2 : Int32} {c : mC} : mEv X (mCall mD X (d + 4)) 1 t_X0_tellRing (mDrop t_X0_tellRing 14) [some (mr i 0), some (mr i r), some (mi x2)] [] (mU g i c) = (wI g i c) (J_X0_tellRing_14 r c x2) := by
  refine Eq.trans (e_X0_tellRing_14 h_r) ?_
  try simp only [mU_same, mU_mU]
  refine mw_ite (fun _ => ?_) (fun _ => ?_)
  · refine Eq.trans (e_X0_tellRing_64 h_r) ?_
    try simp only [mU_same, mU_mU]
    all_goals rfl
  · refine mw_ite (fun _ => ?_) (fun _ => ?_)
    · refine Eq.trans (e_X0_tellRing_69 h_r) ?_
      try simp only [mU_same, mU_mU]
      all_goals rfl
    · refine mw_ite (fun _ => ?_) (fun _ => ?_)
      · refine Eq.trans (e_X0_tellRing_74 h_r) ?_
        try simp only [mU_same, mU_mU]
        all_goals rfl
      · refine mw_ite (fun _ => ?_) (fun _ => ?_)
        · refine Eq.trans (e_X0_tellRing_79 h_r) ?_
          try simp only [mU_same, mU_mU]
          all_goals rfl
        · refine mw_ite (fun _ => ?_) (fun _ => ?_)
          · refine Eq.trans (e_X0_tellRing_84 h_r) ?_
            try simp only [mU_same, mU_mU]
            all_goals rfl
          · refine mw_ite (fun _ => ?_) (fun _ => ?_)
            · refine Eq.trans (e_X0_tellRing_89 h_r) ?_
              try simp only [mU_same, mU_mU]
              all_goals rfl
            · refine mw_ite (fun _ => ?_) (fun _ => ?_)
              · refine Eq.trans (e_X0_tellRing_94 h_r) ?_
                try simp only [mU_same, mU_mU]
                all_goals rfl
              · refine mw_ite (fun _ => ?_) (fun _ => ?_)
                · refine Eq.trans (e_X0_tellRing_99 h_r) ?_
                  try simp only [mU_same, mU_mU]
                  all_goals rfl
                · refine mw_ite (fun _ => ?_) (fun _ => ?_)
                  · refine Eq.trans (e_X0_tellRing_104 h_r) ?_
                    try simp only [mU_same, mU_mU]
                    refine mw_cZ (rr_X0_isDone d h_r) rfl (fun v3 hv3 => ?_)
                    refine Eq.trans (e_X0_tellRing_109 h_r) ?_
                    try simp only [mU_same, mU_mU]
                    refine mw_ite (fun h4 => ?_) (fun h4 => ?_)
                    · refine Eq.trans (e_X0_tellRing_116 h_r) ?_
                      try simp only [mU_same, mU_mU]
                      refine Eq.trans (e_X0_tellRing_117 h_r) ?_
                      try simp only [mU_same, mU_mU]
                      all_goals rfl
                    · refine Eq.trans (e_X0_tellRing_112 h_r) ?_
                      try simp only [mU_same, mU_mU]
                      refine Eq.trans (e_X0_tellRing_117 h_r) ?_
                      try simp only [mU_same, mU_mU]
                      all_goals rfl
                  · refine Eq.trans (e_X0_tellRing_118 h_r) ?_
                    try simp only [mU_same, mU_mU]
                    refine mw_cZ (rr_X0_isForced (d + 1)) rfl (fun v1 hv1 => ?_)
                    refine Eq.trans (e_X0_tellRing_126 h_r) ?_
                    try simp only [mU_same, mU_mU]
                    refine mw_ite (fun h2 => ?_) (fun h2 => ?_)
                    · refine Eq.trans (e_X0_tellRing_133 h_r) ?_
                      try simp only [mU_same, mU_mU]
                      refine Eq.trans (e_X0_tellRing_134 h_r) ?_
                      try simp only [mU_same, mU_mU]
                      all_goals rfl
                    · refine Eq.trans (e_X0_tellRing_129 h_r) ?_
                      try simp only [mU_same, mU_mU]
                      refine Eq.trans (e_X0_tellRing_134 h_r) ?_
                      try simp only [mU_same, mU_mU]
                      all_goals rfl
theorem e_X0_tellRing_5 {X : mX} {call : Nat → List mV → mG → mR} {g : mG} {x2 : Int32} {i r : Nat} (h_r : r = 8 ∨ r = 9) : mEv X call 1 t_X0_tellRing (mDrop t_X0_tellRing 5) [some (mr i 0), some (mr i r), some (mi x2)] [] g = mAns (mEv X call 1 t_X0_tellRing) (mDrop t_X0_tellRing 9) [some (mr i 0), some (mr i r), some (mi x2)] [] (call 91 [mr i r] g) := by
  rcases h_r with rfl | rfl <;> exact (mEv_2 _ _ _ _).trans rfl
theorem e_X0_tellRing_9 {X : mX} {call : Nat → List mV → mG → mR} {g : mG} {x2 s0 : Int32} {i r : Nat} (h_r : r = 8 ∨ r = 9) : mEv X call 1 t_X0_tellRing (mDrop t_X0_tellRing 9) [some (mr i 0), some (mr i r), some (mi x2)] [mi s0] g = if s0 = 0 then mEv X call 1 t_X0_tellRing (mDrop t_X0_tellRing 12) [some (mr i 0), some (mr i r), some (mi x2)] [] g else mEv X call 1 t_X0_tellRing (mDrop t_X0_tellRing 14) [some (mr i 0), some (mr i r), some (mi x2)] [] g := by
  rcases h_r with rfl | rfl <;> exact (mEv_1 _ _ _ _).trans rfl
theorem e_X0_tellRing_12 {X : mX} {call : Nat → List mV → mG → mR} {g : mG} {x2 : Int32} {i r : Nat} (h_r : r = 8 ∨ r = 9) : mEv X call 1 t_X0_tellRing (mDrop t_X0_tellRing 12) [some (mr i 0), some (mr i r), some (mi x2)] [] g = some (some (mi 0), g) := by
  rcases h_r with rfl | rfl <;> exact (mEv_2 _ _ _ _).trans rfl
noncomputable def P_X0_tellRing (r : Nat) (c : mC) (x2 : Int32) : (Int32) := (if x2 ≤ 3 then (J_X0_tellRing_14 r c x2) else (mBd (α := Int32) (P_X4_isGreen r c) (fun v1 => (if v1 = 0 then 0 else (J_X0_tellRing_14 r c x2)))))
theorem rr_X0_tellRing (d : Nat) {X : mX} {g : mG} {i r : Nat} (h_r : r = 8 ∨ r = 9) {x2 : Int32} {c : mC} : mCall mD X (d + 5) 3 [mr i 0, mr i r, mi x2] (mU g i c) = (wI g i c) (P_X0_tellRing r c x2) := by
  refine Eq.trans (mCall_eq (d := d + 4) rfl) ?_
  show mEv X (mCall mD X (d + 4)) 1 t_X0_tellRing (mDrop t_X0_tellRing 0) [some (mr i 0), some (mr i r), some (mi x2)] [] (mU g i c) = _
  refine Eq.trans (e_X0_tellRing_0 h_r) ?_
  try simp only [mU_same, mU_mU]
  refine mw_ite (fun h3 => ?_) (fun h3 => ?_)
  · exact rj_X0_tellRing_14 d h_r
  · refine Eq.trans (e_X0_tellRing_5 h_r) ?_
    try simp only [mU_same, mU_mU]
    refine mw_cZ (rr_X4_isGreen (d + 3) h_r) rfl (fun v1 hv1 => ?_)
    refine Eq.trans (e_X0_tellRing_9 h_r) ?_
    try simp only [mU_same, mU_mU]
    refine mw_ite (fun h2 => ?_) (fun h2 => ?_)
    · refine Eq.trans (e_X0_tellRing_12 h_r) ?_
      try simp only [mU_same, mU_mU]
      all_goals rfl
    · exact rj_X0_tellRing_14 d h_r
theorem rr_X0_tellRing_at (d : Nat) {X : mX} {g : mG} {i r : Nat} (h_r : r = 8 ∨ r = 9) {x2 : Int32} : mCall mD X (d + 5) 3 [mr i 0, mr i r, mi x2] g = wN g (P_X0_tellRing r (g i) x2) := by
  have h := rr_X0_tellRing (X := X) d (g := g) (c := g i) h_r (x2 := x2) (i := i)
  rw [mU_self] at h
  exact h.trans (wI_self _ _ _)
theorem e_X0_lampOf_0 {X : mX} {call : Nat → List mV → mG → mR} {g : mG} {x1 : Int32} {i : Nat} : mEv X call 1 t_X0_lampOf (mDrop t_X0_lampOf 0) [some (mr i 0), some (mi x1), none] [] g = mAns (mEv X call 1 t_X0_lampOf) (mDrop t_X0_lampOf 11) [some (mr i 0), some (mi x1), none] [] (call 142 [mr i 2, mi x1] g) := (mEv_5 _ _ _ _).trans rfl
theorem e_X0_lampOf_11 {X : mX} {call : Nat → List mV → mG → mR} {g : mG} {x1 s0 : Int32} {i : Nat} : mEv X call 1 t_X0_lampOf (mDrop t_X0_lampOf 11) [some (mr i 0), some (mi x1), none] [mi s0] g = if s0 = 0 then mEv X call 1 t_X0_lampOf (mDrop t_X0_lampOf 14) [some (mr i 0), some (mi x1), none] [] g else mEv X call 1 t_X0_lampOf (mDrop t_X0_lampOf 21) [some (mr i 0), some (mi x1), none] [] g := (mEv_1 _ _ _ _).trans rfl
theorem e_X0_lampOf_14 {X : mX} {call : Nat → List mV → mG → mR} {g : mG} {x1 : Int32} {i : Nat} : mEv X call 1 t_X0_lampOf (mDrop t_X0_lampOf 14) [some (mr i 0), some (mi x1), none] [] g = mEv X call 1 t_X0_lampOf (mDrop t_X0_lampOf 25) [some (mr i 0), some (mi x1), none] [mr i 8] g := (mEv_3 _ _ _ _).trans rfl
theorem e_X0_lampOf_25 {X : mX} {call : Nat → List mV → mG → mR} {g : mG} {x1 : Int32} {i q : Nat} (h_q : q = 8 ∨ q = 9) : mEv X call 1 t_X0_lampOf (mDrop t_X0_lampOf 25) [some (mr i 0), some (mi x1), none] [mr i q] g = mAns (mEv X call 1 t_X0_lampOf) (mDrop t_X0_lampOf 34) [some (mr i 0), some (mi x1), some (mr i q)] [] (call 149 [mi (g i 0 10), mi x1] g) := by
  rcases h_q with rfl | rfl <;> exact (mEv_5 _ _ _ _).trans rfl
theorem e_X0_lampOf_34 {X : mX} {call : Nat → List mV → mG → mR} {g : mG} {x1 s0 : Int32} {i q : Nat} (h_q : q = 8 ∨ q = 9) : mEv X call 1 t_X0_lampOf (mDrop t_X0_lampOf 34) [some (mr i 0), some (mi x1), some (mr i q)] [mi s0] g = if s0 = 0 then mEv X call 1 t_X0_lampOf (mDrop t_X0_lampOf 37) [some (mr i 0), some (mi x1), some (mr i q)] [] g else mEv X call 1 t_X0_lampOf (mDrop t_X0_lampOf 52) [some (mr i 0), some (mi x1), some (mr i q)] [] g := by
  rcases h_q with rfl | rfl <;> exact (mEv_1 _ _ _ _).trans rfl
theorem e_X0_lampOf_37 {X : mX} {call : Nat → List mV → mG → mR} {g : mG} {x1 : Int32} {i q : Nat} (h_q : q = 8 ∨ q = 9) : mEv X call 1 t_X0_lampOf (mDrop t_X0_lampOf 37) [some (mr i 0), some (mi x1), some (mr i q)] [] g = if (g i q 1) = x1 then mEv X call 1 t_X0_lampOf (mDrop t_X0_lampOf 45) [some (mr i 0), some (mi x1), some (mr i q)] [] g else mEv X call 1 t_X0_lampOf (mDrop t_X0_lampOf 54) [some (mr i 0), some (mi x1), some (mr i q)] [] g := by
  rcases h_q with rfl | rfl <;> exact (mEv_4 _ _ _ _).trans rfl
theorem e_X0_lampOf_45 {X : mX} {call : Nat → List mV → mG → mR} {g : mG} {x1 : Int32} {i q : Nat} (h_q : q = 8 ∨ q = 9) : mEv X call 1 t_X0_lampOf (mDrop t_X0_lampOf 45) [some (mr i 0), some (mi x1), some (mr i q)] [] g = if (g i q 2) = 0 then mEv X call 1 t_X0_lampOf (mDrop t_X0_lampOf 52) [some (mr i 0), some (mi x1), some (mr i q)] [] g else mEv X call 1 t_X0_lampOf (mDrop t_X0_lampOf 54) [some (mr i 0), some (mi x1), some (mr i q)] [] g := by
  rcases h_q with rfl | rfl <;> exact (mEv_3 _ _ _ _).trans rfl
theorem e_X0_lampOf_52 {X : mX} {call : Nat → List mV → mG → mR} {g : mG} {x1 : Int32} {i q : Nat} (h_q : q = 8 ∨ q = 9) : mEv X call 1 t_X0_lampOf (mDrop t_X0_lampOf 52) [some (mr i 0), some (mi x1), some (mr i q)] [] g = some (some (mi 2), g) := by
  rcases h_q with rfl | rfl <;> exact (mEv_2 _ _ _ _).trans rfl
noncomputable def J_X0_lampOf_52 (q : Nat) (c : mC) : (Int32) := 2
theorem rj_X0_lampOf_52 (d : Nat) {X : mX} {g : mG} {i q : Nat} (h_q : q = 8 ∨ q = 9) {x1 : Int32} {c : mC} : mEv X (mCall mD X (d + 1)) 1 t_X0_lampOf (mDrop t_X0_lampOf 52) [some (mr i 0), some (mi x1), some (mr i q)] [] (mU g i c) = (wI g i c) (J_X0_lampOf_52 q c) := by
  refine Eq.trans (e_X0_lampOf_52 h_q) ?_
  try simp only [mU_same, mU_mU]
  all_goals rfl
theorem e_X0_lampOf_54 {X : mX} {call : Nat → List mV → mG → mR} {g : mG} {x1 : Int32} {i q : Nat} (h_q : q = 8 ∨ q = 9) : mEv X call 1 t_X0_lampOf (mDrop t_X0_lampOf 54) [some (mr i 0), some (mi x1), some (mr i q)] [] g = if (g i q 1) = x1 then mEv X call 1 t_X0_lampOf (mDrop t_X0_lampOf 62) [some (mr i 0), some (mi x1), some (mr i q)] [] g else mEv X call 1 t_X0_lampOf (mDrop t_X0_lampOf 74) [some (mr i 0), some (mi x1), some (mr i q)] [] g := by
  rcases h_q with rfl | rfl <;> exact (mEv_4 _ _ _ _).trans rfl
theorem e_X0_lampOf_62 {X : mX} {call : Nat → List mV → mG → mR} {g : mG} {x1 : Int32} {i q : Nat} (h_q : q = 8 ∨ q = 9) : mEv X call 1 t_X0_lampOf (mDrop t_X0_lampOf 62) [some (mr i 0), some (mi x1), some (mr i q)] [] g = if (g i q 2) = 1 then mEv X call 1 t_X0_lampOf (mDrop t_X0_lampOf 70) [some (mr i 0), some (mi x1), some (mr i q)] [] g else mEv X call 1 t_X0_lampOf (mDrop t_X0_lampOf 74) [some (mr i 0), some (mi x1), some (mr i q)] [] g := by
  rcases h_q with rfl | rfl <;> exact (mEv_4 _ _ _ _).trans rfl
theorem e_X0_lampOf_70 {X : mX} {call : Nat → List mV → mG → mR} {g : mG} {x1 : Int32} {i q : Nat} (h_q : q = 8 ∨ q = 9) : mEv X call 1 t_X0_lampOf (mDrop t_X0_lampOf 70) [some (mr i 0), some (mi x1), some (mr i q)] [] g = mEv X call 1 t_X0_lampOf (mDrop t_X0_lampOf 75) [some (mr i 0), some (mi x1), some (mr i q)] [mi 1] g := by
  rcases h_q with rfl | rfl <;> exact (mEv_2 _ _ _ _).trans rfl
theorem e_X0_lampOf_75 {X : mX} {call : Nat → List mV → mG → mR} {g : mG} {x1 s0 : Int32} {i q : Nat} (h_q : q = 8 ∨ q = 9) : mEv X call 1 t_X0_lampOf (mDrop t_X0_lampOf 75) [some (mr i 0), some (mi x1), some (mr i q)] [mi s0] g = some (some (mi s0), g) := by
  rcases h_q with rfl | rfl <;> exact (mEv_1 _ _ _ _).trans rfl
theorem e_X0_lampOf_74 {X : mX} {call : Nat → List mV → mG → mR} {g : mG} {x1 : Int32} {i q : Nat} (h_q : q = 8 ∨ q = 9) : mEv X call 1 t_X0_lampOf (mDrop t_X0_lampOf 74) [some (mr i 0), some (mi x1), some (mr i q)] [] g = mEv X call 1 t_X0_lampOf (mDrop t_X0_lampOf 75) [some (mr i 0), some (mi x1), some (mr i q)] [mi 0] g := by
  rcases h_q with rfl | rfl <;> exact (mEv_1 _ _ _ _).trans rfl
noncomputable def J_X0_lampOf_74 (q : Nat) (c : mC) : (Int32) := 0
theorem rj_X0_lampOf_74 (d : Nat) {X : mX} {g : mG} {i q : Nat} (h_q : q = 8 ∨ q = 9) {x1 : Int32} {c : mC} : mEv X (mCall mD X (d + 1)) 1 t_X0_lampOf (mDrop t_X0_lampOf 74) [some (mr i 0), some (mi x1), some (mr i q)] [] (mU g i c) = (wI g i c) (J_X0_lampOf_74 q c) := by
  refine Eq.trans (e_X0_lampOf_74 h_q) ?_
  try simp only [mU_same, mU_mU]
  refine Eq.trans (e_X0_lampOf_75 h_q) ?_
  try simp only [mU_same, mU_mU]
  all_goals rfl
noncomputable def J_X0_lampOf_54 (q : Nat) (c : mC) (x1 : Int32) : (Int32) := (if (c q 1) = x1 then (if (c q 2) = 1 then 1 else (J_X0_lampOf_74 q c)) else (J_X0_lampOf_74 q c))
theorem rj_X0_lampOf_54 (d : Nat) {X : mX} {g : mG} {i q : Nat} (h_q : q = 8 ∨ q = 9) {x1 : Int32} {c : mC} : mEv X (mCall mD X (d + 1)) 1 t_X0_lampOf (mDrop t_X0_lampOf 54) [some (mr i 0), some (mi x1), some (mr i q)] [] (mU g i c) = (wI g i c) (J_X0_lampOf_54 q c x1) := by
  refine Eq.trans (e_X0_lampOf_54 h_q) ?_
  try simp only [mU_same, mU_mU]
  refine mw_ite (fun h2 => ?_) (fun h2 => ?_)
  · refine Eq.trans (e_X0_lampOf_62 h_q) ?_
    try simp only [mU_same, mU_mU]
    refine mw_ite (fun h1 => ?_) (fun h1 => ?_)
    · refine Eq.trans (e_X0_lampOf_70 h_q) ?_
      try simp only [mU_same, mU_mU]
      refine Eq.trans (e_X0_lampOf_75 h_q) ?_
      try simp only [mU_same, mU_mU]
      all_goals rfl
    · exact rj_X0_lampOf_74 d h_q
  · exact rj_X0_lampOf_74 d h_q
noncomputable def J_X0_lampOf_25 (q : Nat) (c : mC) (x1 : Int32) : (Int32) := (mBd (α := Int32) (P_X5_inSet (c 0 10) x1) (fun v1 => (if v1 = 0 then (if (c q 1) = x1 then (if (c q 2) = 0 then (J_X0_lampOf_52 q c) else (J_X0_lampOf_54 q c x1)) else (J_X0_lampOf_54 q c x1)) else (J_X0_lampOf_52 q c))))
theorem rj_X0_lampOf_25 (d : Nat) {X : mX} {g : mG} {i q : Nat} (h_q : q = 8 ∨ q = 9) {x1 : Int32} {c : mC} : mEv X (mCall mD X (d + 1)) 1 t_X0_lampOf (mDrop t_X0_lampOf 25) [some (mr i 0), some (mi x1), none] [mr i q] (mU g i c) = (wI g i c) (J_X0_lampOf_25 q c x1) := by
  refine Eq.trans (e_X0_lampOf_25 h_q) ?_
  try simp only [mU_same, mU_mU]
  refine mw_cZ (rr_X5_inSet d) rfl (fun v1 hv1 => ?_)
  refine Eq.trans (e_X0_lampOf_34 h_q) ?_
  try simp only [mU_same, mU_mU]
  refine mw_ite (fun h4 => ?_) (fun h4 => ?_)
  · refine Eq.trans (e_X0_lampOf_37 h_q) ?_
    try simp only [mU_same, mU_mU]
    refine mw_ite (fun h3 => ?_) (fun h3 => ?_)
    · refine Eq.trans (e_X0_lampOf_45 h_q) ?_
      try simp only [mU_same, mU_mU]
      refine mw_ite (fun h2 => ?_) (fun h2 => ?_)
      · exact rj_X0_lampOf_52 d h_q
      · exact rj_X0_lampOf_54 d h_q
    · exact rj_X0_lampOf_54 d h_q
  · exact rj_X0_lampOf_52 d h_q
theorem e_X0_lampOf_21 {X : mX} {call : Nat → List mV → mG → mR} {g : mG} {x1 : Int32} {i : Nat} : mEv X call 1 t_X0_lampOf (mDrop t_X0_lampOf 21) [some (mr i 0), some (mi x1), none] [] g = mEv X call 1 t_X0_lampOf (mDrop t_X0_lampOf 25) [some (mr i 0), some (mi x1), none] [mr i 9] g := (mEv_2 _ _ _ _).trans rfl
noncomputable def P_X0_lampOf (c : mC) (x1 : Int32) : (Int32) := (mBd (α := Int32) (cl 8 (c 2) x1) (fun v1 => (if v1 = 0 then (J_X0_lampOf_25 8 c x1) else (J_X0_lampOf_25 9 c x1))))
theorem rr_X0_lampOf (d : Nat) {X : mX} {g : mG} {i : Nat} {x1 : Int32} {c : mC} : mCall mD X (d + 2) 5 [mr i 0, mi x1] (mU g i c) = (wI g i c) (P_X0_lampOf c x1) := by
  refine Eq.trans (mCall_eq (d := d + 1) rfl) ?_
  show mEv X (mCall mD X (d + 1)) 1 t_X0_lampOf (mDrop t_X0_lampOf 0) [some (mr i 0), some (mi x1), none] [] (mU g i c) = _
  refine Eq.trans (e_X0_lampOf_0) ?_
  try simp only [mU_same, mU_mU]
  refine mw_cI (rr_X5_cell_2 d) (fun v1 => ?_)
  refine Eq.trans (e_X0_lampOf_11) ?_
  try simp only [mU_same, mU_mU]
  refine mw_ite (fun h2 => ?_) (fun h2 => ?_)
  · refine Eq.trans (e_X0_lampOf_14) ?_
    try simp only [mU_same, mU_mU]
    exact rj_X0_lampOf_25 d (Or.inl rfl)
  · refine Eq.trans (e_X0_lampOf_21) ?_
    try simp only [mU_same, mU_mU]
    exact rj_X0_lampOf_25 d (Or.inr rfl)
theorem rr_X0_lampOf_at (d : Nat) {X : mX} {g : mG} {i : Nat} {x1 : Int32} : mCall mD X (d + 2) 5 [mr i 0, mi x1] g = wN g (P_X0_lampOf (g i) x1) := by
  have h := rr_X0_lampOf (X := X) d (g := g) (c := g i) (x1 := x1) (i := i)
  rw [mU_self] at h
  exact h.trans (wI_self _ _ _)
theorem e_X0_calledSet_0 {X : mX} {call : Nat → List mV → mG → mR} {g : mG} {i : Nat} : mEv X call 1 t_X0_calledSet (mDrop t_X0_calledSet 0) [some (mr i 0)] [] g = some (some (mi (((g i 0 7) ||| (g i 0 6)) ||| (g i 1 9))), g) := (mEv_10 _ _ _ _).trans rfl
noncomputable def P_X0_calledSet (c : mC) : (Int32) := (((c 0 7) ||| (c 0 6)) ||| (c 1 9))
theorem rr_X0_calledSet (d : Nat) {X : mX} {g : mG} {i : Nat} {c : mC} : mCall mD X (d + 1) 10 [mr i 0] (mU g i c) = (wI g i c) (P_X0_calledSet c) := by
  refine Eq.trans (mCall_eq (d := d + 0) rfl) ?_
  show mEv X (mCall mD X (d + 0)) 1 t_X0_calledSet (mDrop t_X0_calledSet 0) [some (mr i 0)] [] (mU g i c) = _
  refine Eq.trans (e_X0_calledSet_0) ?_
  try simp only [mU_same, mU_mU]
  all_goals rfl
theorem rr_X0_calledSet_at (d : Nat) {X : mX} {g : mG} {i : Nat} : mCall mD X (d + 1) 10 [mr i 0] g = wN g (P_X0_calledSet (g i)) := by
  have h := rr_X0_calledSet (X := X) d (g := g) (c := g i) (i := i)
  rw [mU_self] at h
  exact h.trans (wI_self _ _ _)
theorem e_X0_onFootSet_0 {X : mX} {call : Nat → List mV → mG → mR} {g : mG} {i : Nat} : mEv X call 1 t_X0_onFootSet (mDrop t_X0_onFootSet 0) [some (mr i 0)] [] g = some (some (mi (((g i 0 8) &&& (g i 1 11)) ||| (g i 1 10))), g) := (mEv_11 _ _ _ _).trans rfl
noncomputable def P_X0_onFootSet (c : mC) : (Int32) := (((c 0 8) &&& (c 1 11)) ||| (c 1 10))
theorem rr_X0_onFootSet (d : Nat) {X : mX} {g : mG} {i : Nat} {c : mC} : mCall mD X (d + 1) 11 [mr i 0] (mU g i c) = (wI g i c) (P_X0_onFootSet c) := by
  refine Eq.trans (mCall_eq (d := d + 0) rfl) ?_
  show mEv X (mCall mD X (d + 0)) 1 t_X0_onFootSet (mDrop t_X0_onFootSet 0) [some (mr i 0)] [] (mU g i c) = _
  refine Eq.trans (e_X0_onFootSet_0) ?_
  try simp only [mU_same, mU_mU]
  all_goals rfl
theorem rr_X0_onFootSet_at (d : Nat) {X : mX} {g : mG} {i : Nat} : mCall mD X (d + 1) 11 [mr i 0] g = wN g (P_X0_onFootSet (g i)) := by
  have h := rr_X0_onFootSet (X := X) d (g := g) (c := g i) (i := i)
  rw [mU_self] at h
  exact h.trans (wI_self _ _ _)
theorem e_X2_foesOf_0 {X : mX} {call : Nat → List mV → mG → mR} {g : mG} {x1 : Int32} {i : Nat} : mEv X call 1 t_X2_foesOf (mDrop t_X2_foesOf 0) [some (mr i 1), some (mi x1)] [] g = mAns (mEv X call 1 t_X2_foesOf) (mDrop t_X2_foesOf 8) [some (mr i 1), some (mi x1)] [] (call 142 [mr i 4, mi x1] g) := (mEv_4 _ _ _ _).trans rfl
theorem e_X2_foesOf_8 {X : mX} {call : Nat → List mV → mG → mR} {g : mG} {x1 s0 : Int32} {i : Nat} : mEv X call 1 t_X2_foesOf (mDrop t_X2_foesOf 8) [some (mr i 1), some (mi x1)] [mi s0] g = some (some (mi s0), g) := (mEv_1 _ _ _ _).trans rfl
noncomputable def P_X2_foesOf (c : mC) (x1 : Int32) : (Int32) := (mBd (α := Int32) (cl 8 (c 4) x1) (fun v1 => v1))
theorem rr_X2_foesOf (d : Nat) {X : mX} {g : mG} {i : Nat} {x1 : Int32} {c : mC} : mCall mD X (d + 2) 63 [mr i 1, mi x1] (mU g i c) = (wI g i c) (P_X2_foesOf c x1) := by
  refine Eq.trans (mCall_eq (d := d + 1) rfl) ?_
  show mEv X (mCall mD X (d + 1)) 1 t_X2_foesOf (mDrop t_X2_foesOf 0) [some (mr i 1), some (mi x1)] [] (mU g i c) = _
  refine Eq.trans (e_X2_foesOf_0) ?_
  try simp only [mU_same, mU_mU]
  refine mw_cI (rr_X5_cell_4 d) (fun v1 => ?_)
  refine Eq.trans (e_X2_foesOf_8) ?_
  try simp only [mU_same, mU_mU]
  all_goals rfl
theorem rr_X2_foesOf_at (d : Nat) {X : mX} {g : mG} {i : Nat} {x1 : Int32} : mCall mD X (d + 2) 63 [mr i 1, mi x1] g = wN g (P_X2_foesOf (g i) x1) := by
  have h := rr_X2_foesOf (X := X) d (g := g) (c := g i) (x1 := x1) (i := i)
  rw [mU_self] at h
  exact h.trans (wI_self _ _ _)
theorem e_X0_tellPhase_0 {X : mX} {call : Nat → List mV → mG → mR} {g : mG} {x1 x2 : Int32} {i : Nat} : mEv X call 1 t_X0_tellPhase (mDrop t_X0_tellPhase 0) [some (mr i 0), some (mi x1), some (mi x2)] [] g = if x2 = 0 then mEv X call 1 t_X0_tellPhase (mDrop t_X0_tellPhase 48) [some (mr i 0), some (mi x1), some (mi x2)] [] g else (if x2 = 1 then mEv X call 1 t_X0_tellPhase (mDrop t_X0_tellPhase 60) [some (mr i 0), some (mi x1), some (mi x2)] [] g else (if x2 = 2 then mEv X call 1 t_X0_tellPhase (mDrop t_X0_tellPhase 72) [some (mr i 0), some (mi x1), some (mi x2)] [] g else (if x2 = 3 then mEv X call 1 t_X0_tellPhase (mDrop t_X0_tellPhase 78) [some (mr i 0), some (mi x1), some (mi x2)] [] g else (if x2 = 4 then mEv X call 1 t_X0_tellPhase (mDrop t_X0_tellPhase 87) [some (mr i 0), some (mi x1), some (mi x2)] [] g else (if x2 = 5 then mEv X call 1 t_X0_tellPhase (mDrop t_X0_tellPhase 104) [some (mr i 0), some (mi x1), some (mi x2)] [] g else (if x2 = 6 then mEv X call 1 t_X0_tellPhase (mDrop t_X0_tellPhase 121) [some (mr i 0), some (mi x1), some (mi x2)] [] g else (if x2 = 7 then mEv X call 1 t_X0_tellPhase (mDrop t_X0_tellPhase 130) [some (mr i 0), some (mi x1), some (mi x2)] [] g else (mEv X call 1 t_X0_tellPhase (mDrop t_X0_tellPhase 139) [some (mr i 0), some (mi x1), some (mi x2)] [] g)))))))) := (mEv_2 _ _ _ _).trans rfl
theorem e_X0_tellPhase_139 {X : mX} {call : Nat → List mV → mG → mR} {g : mG} {x1 x2 : Int32} {i : Nat} : mEv X call 1 t_X0_tellPhase (mDrop t_X0_tellPhase 139) [some (mr i 0), some (mi x1), some (mi x2)] [] g = mAns (mEv X call 1 t_X0_tellPhase) (mDrop t_X0_tellPhase 147) [some (mr i 0), some (mi x1), some (mi x2)] [] (call 63 [mr i 1, mi x1] g) := (mEv_4 _ _ _ _).trans rfl
theorem e_X0_tellPhase_147 {X : mX} {call : Nat → List mV → mG → mR} {g : mG} {x1 x2 s0 : Int32} {i : Nat} : mEv X call 1 t_X0_tellPhase (mDrop t_X0_tellPhase 147) [some (mr i 0), some (mi x1), some (mi x2)] [mi s0] g = some (some (mi s0), g) := (mEv_1 _ _ _ _).trans rfl
theorem e_X0_tellPhase_48 {X : mX} {call : Nat → List mV → mG → mR} {g : mG} {x1 x2 : Int32} {i : Nat} : mEv X call 1 t_X0_tellPhase (mDrop t_X0_tellPhase 48) [some (mr i 0), some (mi x1), some (mi x2)] [] g = mAns (mEv X call 1 t_X0_tellPhase) (mDrop t_X0_tellPhase 59) [some (mr i 0), some (mi x1), some (mi x2)] [] (call 142 [mr i 2, mi x1] g) := (mEv_5 _ _ _ _).trans rfl
theorem e_X0_tellPhase_59 {X : mX} {call : Nat → List mV → mG → mR} {g : mG} {x1 x2 s0 : Int32} {i : Nat} : mEv X call 1 t_X0_tellPhase (mDrop t_X0_tellPhase 59) [some (mr i 0), some (mi x1), some (mi x2)] [mi s0] g = some (some (mi s0), g) := (mEv_1 _ _ _ _).trans rfl
theorem e_X0_tellPhase_60 {X : mX} {call : Nat → List mV → mG → mR} {g : mG} {x1 x2 : Int32} {i : Nat} : mEv X call 1 t_X0_tellPhase (mDrop t_X0_tellPhase 60) [some (mr i 0), some (mi x1), some (mi x2)] [] g = mAns (mEv X call 1 t_X0_tellPhase) (mDrop t_X0_tellPhase 71) [some (mr i 0), some (mi x1), some (mi x2)] [] (call 142 [mr i 3, mi x1] g) := (mEv_5 _ _ _ _).trans rfl
theorem e_X0_tellPhase_71 {X : mX} {call : Nat → List mV → mG → mR} {g : mG} {x1 x2 s0 : Int32} {i : Nat} : mEv X call 1 t_X0_tellPhase (mDrop t_X0_tellPhase 71) [some (mr i 0), some (mi x1), some (mi x2)] [mi s0] g = some (some (mi s0), g) := (mEv_1 _ _ _ _).trans rfl
theorem e_X0_tellPhase_72 {X : mX} {call : Nat → List mV → mG → mR} {g : mG} {x1 x2 : Int32} {i : Nat} : mEv X call 1 t_X0_tellPhase (mDrop t_X0_tellPhase 72) [some (mr i 0), some (mi x1), some (mi x2)] [] g = mAns (mEv X call 1 t_X0_tellPhase) (mDrop t_X0_tellPhase 77) [some (mr i 0), some (mi x1), some (mi x2)] [] (call 5 [mr i 0, mi x1] g) := (mEv_3 _ _ _ _).trans rfl
theorem e_X0_tellPhase_77 {X : mX} {call : Nat → List mV → mG → mR} {g : mG} {x1 x2 s0 : Int32} {i : Nat} : mEv X call 1 t_X0_tellPhase (mDrop t_X0_tellPhase 77) [some (mr i 0), some (mi x1), some (mi x2)] [mi s0] g = some (some (mi s0), g) := (mEv_1 _ _ _ _).trans rfl
theorem e_X0_tellPhase_78 {X : mX} {call : Nat → List mV → mG → mR} {g : mG} {x1 x2 : Int32} {i : Nat} : mEv X call 1 t_X0_tellPhase (mDrop t_X0_tellPhase 78) [some (mr i 0), some (mi x1), some (mi x2)] [] g = mAns (mEv X call 1 t_X0_tellPhase) (mDrop t_X0_tellPhase 86) [some (mr i 0), some (mi x1), some (mi x2)] [] (call 142 [mr i 14, mi x1] g) := (mEv_4 _ _ _ _).trans rfl
theorem e_X0_tellPhase_86 {X : mX} {call : Nat → List mV → mG → mR} {g : mG} {x1 x2 s0 : Int32} {i : Nat} : mEv X call 1 t_X0_tellPhase (mDrop t_X0_tellPhase 86) [some (mr i 0), some (mi x1), some (mi x2)] [mi s0] g = some (some (mi s0), g) := (mEv_1 _ _ _ _).trans rfl
theorem e_X0_tellPhase_87 {X : mX} {call : Nat → List mV → mG → mR} {g : mG} {x1 x2 : Int32} {i : Nat} : mEv X call 1 t_X0_tellPhase (mDrop t_X0_tellPhase 87) [some (mr i 0), some (mi x1), some (mi x2)] [] g = mAns (mEv X call 1 t_X0_tellPhase) (mDrop t_X0_tellPhase 91) [some (mr i 0), some (mi x1), some (mi x2)] [] (call 10 [mr i 0] g) := (mEv_2 _ _ _ _).trans rfl
theorem e_X0_tellPhase_91 {X : mX} {call : Nat → List mV → mG → mR} {g : mG} {x1 x2 s0 : Int32} {i : Nat} : mEv X call 1 t_X0_tellPhase (mDrop t_X0_tellPhase 91) [some (mr i 0), some (mi x1), some (mi x2)] [mi s0] g = mAns (mEv X call 1 t_X0_tellPhase) (mDrop t_X0_tellPhase 95) [some (mr i 0), some (mi x1), some (mi x2)] [] (call 149 [mi s0, mi x1] g) := (mEv_2 _ _ _ _).trans rfl
theorem e_X0_tellPhase_95 {X : mX} {call : Nat → List mV → mG → mR} {g : mG} {x1 x2 s0 : Int32} {i : Nat} : mEv X call 1 t_X0_tellPhase (mDrop t_X0_tellPhase 95) [some (mr i 0), some (mi x1), some (mi x2)] [mi s0] g = if s0 = 0 then mEv X call 1 t_X0_tellPhase (mDrop t_X0_tellPhase 102) [some (mr i 0), some (mi x1), some (mi x2)] [] g else mEv X call 1 t_X0_tellPhase (mDrop t_X0_tellPhase 98) [some (mr i 0), some (mi x1), some (mi x2)] [] g := (mEv_1 _ _ _ _).trans rfl
theorem e_X0_tellPhase_102 {X : mX} {call : Nat → List mV → mG → mR} {g : mG} {x1 x2 : Int32} {i : Nat} : mEv X call 1 t_X0_tellPhase (mDrop t_X0_tellPhase 102) [some (mr i 0), some (mi x1), some (mi x2)] [] g = mEv X call 1 t_X0_tellPhase (mDrop t_X0_tellPhase 103) [some (mr i 0), some (mi x1), some (mi x2)] [mi 0] g := (mEv_1 _ _ _ _).trans rfl
theorem e_X0_tellPhase_103 {X : mX} {call : Nat → List mV → mG → mR} {g : mG} {x1 x2 s0 : Int32} {i : Nat} : mEv X call 1 t_X0_tellPhase (mDrop t_X0_tellPhase 103) [some (mr i 0), some (mi x1), some (mi x2)] [mi s0] g = some (some (mi s0), g) := (mEv_1 _ _ _ _).trans rfl
theorem e_X0_tellPhase_98 {X : mX} {call : Nat → List mV → mG → mR} {g : mG} {x1 x2 : Int32} {i : Nat} : mEv X call 1 t_X0_tellPhase (mDrop t_X0_tellPhase 98) [some (mr i 0), some (mi x1), some (mi x2)] [] g = mEv X call 1 t_X0_tellPhase (mDrop t_X0_tellPhase 103) [some (mr i 0), some (mi x1), some (mi x2)] [mi 1] g := (mEv_2 _ _ _ _).trans rfl
theorem e_X0_tellPhase_104 {X : mX} {call : Nat → List mV → mG → mR} {g : mG} {x1 x2 : Int32} {i : Nat} : mEv X call 1 t_X0_tellPhase (mDrop t_X0_tellPhase 104) [some (mr i 0), some (mi x1), some (mi x2)] [] g = mAns (mEv X call 1 t_X0_tellPhase) (mDrop t_X0_tellPhase 108) [some (mr i 0), some (mi x1), some (mi x2)] [] (call 11 [mr i 0] g) := (mEv_2 _ _ _ _).trans rfl
theorem e_X0_tellPhase_108 {X : mX} {call : Nat → List mV → mG → mR} {g : mG} {x1 x2 s0 : Int32} {i : Nat} : mEv X call 1 t_X0_tellPhase (mDrop t_X0_tellPhase 108) [some (mr i 0), some (mi x1), some (mi x2)] [mi s0] g = mAns (mEv X call 1 t_X0_tellPhase) (mDrop t_X0_tellPhase 112) [some (mr i 0), some (mi x1), some (mi x2)] [] (call 149 [mi s0, mi x1] g) := (mEv_2 _ _ _ _).trans rfl
theorem e_X0_tellPhase_112 {X : mX} {call : Nat → List mV → mG → mR} {g : mG} {x1 x2 s0 : Int32} {i : Nat} : mEv X call 1 t_X0_tellPhase (mDrop t_X0_tellPhase 112) [some (mr i 0), some (mi x1), some (mi x2)] [mi s0] g = if s0 = 0 then mEv X call 1 t_X0_tellPhase (mDrop t_X0_tellPhase 119) [some (mr i 0), some (mi x1), some (mi x2)] [] g else mEv X call 1 t_X0_tellPhase (mDrop t_X0_tellPhase 115) [some (mr i 0), some (mi x1), some (mi x2)] [] g := (mEv_1 _ _ _ _).trans rfl
theorem e_X0_tellPhase_119 {X : mX} {call : Nat → List mV → mG → mR} {g : mG} {x1 x2 : Int32} {i : Nat} : mEv X call 1 t_X0_tellPhase (mDrop t_X0_tellPhase 119) [some (mr i 0), some (mi x1), some (mi x2)] [] g = mEv X call 1 t_X0_tellPhase (mDrop t_X0_tellPhase 120) [some (mr i 0), some (mi x1), some (mi x2)] [mi 0] g := (mEv_1 _ _ _ _).trans rfl
theorem e_X0_tellPhase_120 {X : mX} {call : Nat → List mV → mG → mR} {g : mG} {x1 x2 s0 : Int32} {i : Nat} : mEv X call 1 t_X0_tellPhase (mDrop t_X0_tellPhase 120) [some (mr i 0), some (mi x1), some (mi x2)] [mi s0] g = some (some (mi s0), g) := (mEv_1 _ _ _ _).trans rfl
theorem e_X0_tellPhase_115 {X : mX} {call : Nat → List mV → mG → mR} {g : mG} {x1 x2 : Int32} {i : Nat} : mEv X call 1 t_X0_tellPhase (mDrop t_X0_tellPhase 115) [some (mr i 0), some (mi x1), some (mi x2)] [] g = mEv X call 1 t_X0_tellPhase (mDrop t_X0_tellPhase 120) [some (mr i 0), some (mi x1), some (mi x2)] [mi 1] g := (mEv_2 _ _ _ _).trans rfl
theorem e_X0_tellPhase_121 {X : mX} {call : Nat → List mV → mG → mR} {g : mG} {x1 x2 : Int32} {i : Nat} : mEv X call 1 t_X0_tellPhase (mDrop t_X0_tellPhase 121) [some (mr i 0), some (mi x1), some (mi x2)] [] g = mAns (mEv X call 1 t_X0_tellPhase) (mDrop t_X0_tellPhase 129) [some (mr i 0), some (mi x1), some (mi x2)] [] (call 142 [mr i 15, mi x1] g) := (mEv_4 _ _ _ _).trans rfl
theorem e_X0_tellPhase_129 {X : mX} {call : Nat → List mV → mG → mR} {g : mG} {x1 x2 s0 : Int32} {i : Nat} : mEv X call 1 t_X0_tellPhase (mDrop t_X0_tellPhase 129) [some (mr i 0), some (mi x1), some (mi x2)] [mi s0] g = some (some (mi s0), g) := (mEv_1 _ _ _ _).trans rfl
theorem e_X0_tellPhase_130 {X : mX} {call : Nat → List mV → mG → mR} {g : mG} {x1 x2 : Int32} {i : Nat} : mEv X call 1 t_X0_tellPhase (mDrop t_X0_tellPhase 130) [some (mr i 0), some (mi x1), some (mi x2)] [] g = mAns (mEv X call 1 t_X0_tellPhase) (mDrop t_X0_tellPhase 138) [some (mr i 0), some (mi x1), some (mi x2)] [] (call 68 [mr i 1, mi x1] g) := (mEv_4 _ _ _ _).trans rfl
theorem e_X0_tellPhase_138 {X : mX} {call : Nat → List mV → mG → mR} {g : mG} {x1 x2 s0 : Int32} {i : Nat} : mEv X call 1 t_X0_tellPhase (mDrop t_X0_tellPhase 138) [some (mr i 0), some (mi x1), some (mi x2)] [mi s0] g = some (some (mi s0), g) := (mEv_1 _ _ _ _).trans rfl
noncomputable def P_X0_tellPhase (c : mC) (x1 : Int32) (x2 : Int32) : (Int32) := (if x2 = 0 then (mBd (α := Int32) (cl 8 (c 2) x1) (fun v2 => v2)) else (if x2 = 1 then (mBd (α := Int32) (cl 8 (c 3) x1) (fun v3 => v3)) else (if x2 = 2 then (mBd (α := Int32) (P_X0_lampOf c x1) (fun v4 => v4)) else (if x2 = 3 then (mBd (α := Int32) (cl 8 (c 14) x1) (fun v5 => v5)) else (if x2 = 4 then (mBd (α := Int32) (P_X0_calledSet c) (fun v6 => (mBd (α := Int32) (P_X5_inSet v6 x1) (fun v7 => (if v7 = 0 then 0 else 1))))) else (if x2 = 5 then (mBd (α := Int32) (P_X0_onFootSet c) (fun v9 => (mBd (α := Int32) (P_X5_inSet v9 x1) (fun v10 => (if v10 = 0 then 0 else 1))))) else (if x2 = 6 then (mBd (α := Int32) (cl 8 (c 15) x1) (fun v12 => v12)) else (if x2 = 7 then (mBd (α := Int32) (P_X2_endOf c x1) (fun v13 => v13)) else (mBd (α := Int32) (P_X2_foesOf c x1) (fun v1 => v1))))))))))
theorem rr_X0_tellPhase (d : Nat) {X : mX} {g : mG} {i : Nat} {x1 x2 : Int32} {c : mC} : mCall mD X (d + 3) 4 [mr i 0, mi x1, mi x2] (mU g i c) = (wI g i c) (P_X0_tellPhase c x1 x2) := by
  refine Eq.trans (mCall_eq (d := d + 2) rfl) ?_
  show mEv X (mCall mD X (d + 2)) 1 t_X0_tellPhase (mDrop t_X0_tellPhase 0) [some (mr i 0), some (mi x1), some (mi x2)] [] (mU g i c) = _
  refine Eq.trans (e_X0_tellPhase_0) ?_
  try simp only [mU_same, mU_mU]
  refine mw_ite (fun _ => ?_) (fun _ => ?_)
  · refine Eq.trans (e_X0_tellPhase_48) ?_
    try simp only [mU_same, mU_mU]
    refine mw_cI (rr_X5_cell_2 (d + 1)) (fun v2 => ?_)
    refine Eq.trans (e_X0_tellPhase_59) ?_
    try simp only [mU_same, mU_mU]
    all_goals rfl
  · refine mw_ite (fun _ => ?_) (fun _ => ?_)
    · refine Eq.trans (e_X0_tellPhase_60) ?_
      try simp only [mU_same, mU_mU]
      refine mw_cI (rr_X5_cell_3 (d + 1)) (fun v3 => ?_)
      refine Eq.trans (e_X0_tellPhase_71) ?_
      try simp only [mU_same, mU_mU]
      all_goals rfl
    · refine mw_ite (fun _ => ?_) (fun _ => ?_)
      · refine Eq.trans (e_X0_tellPhase_72) ?_
        try simp only [mU_same, mU_mU]
        refine mw_cI (rr_X0_lampOf d) (fun v4 => ?_)
        refine Eq.trans (e_X0_tellPhase_77) ?_
        try simp only [mU_same, mU_mU]
        all_goals rfl
      · refine mw_ite (fun _ => ?_) (fun _ => ?_)
        · refine Eq.trans (e_X0_tellPhase_78) ?_
          try simp only [mU_same, mU_mU]
          refine mw_cI (rr_X5_cell_14 (d + 1)) (fun v5 => ?_)
          refine Eq.trans (e_X0_tellPhase_86) ?_
          try simp only [mU_same, mU_mU]
          all_goals rfl
        · refine mw_ite (fun _ => ?_) (fun _ => ?_)
          · refine Eq.trans (e_X0_tellPhase_87) ?_
            try simp only [mU_same, mU_mU]
            refine mw_cI (rr_X0_calledSet (d + 1)) (fun v6 => ?_)
            refine Eq.trans (e_X0_tellPhase_91) ?_
            try simp only [mU_same, mU_mU]
            refine mw_cZ (rr_X5_inSet (d + 1)) rfl (fun v7 hv7 => ?_)
            refine Eq.trans (e_X0_tellPhase_95) ?_
            try simp only [mU_same, mU_mU]
            refine mw_ite (fun h8 => ?_) (fun h8 => ?_)
            · refine Eq.trans (e_X0_tellPhase_102) ?_
              try simp only [mU_same, mU_mU]
              refine Eq.trans (e_X0_tellPhase_103) ?_
              try simp only [mU_same, mU_mU]
              all_goals rfl
            · refine Eq.trans (e_X0_tellPhase_98) ?_
              try simp only [mU_same, mU_mU]
              refine Eq.trans (e_X0_tellPhase_103) ?_
              try simp only [mU_same, mU_mU]
              all_goals rfl
          · refine mw_ite (fun _ => ?_) (fun _ => ?_)
            · refine Eq.trans (e_X0_tellPhase_104) ?_
              try simp only [mU_same, mU_mU]
              refine mw_cI (rr_X0_onFootSet (d + 1)) (fun v9 => ?_)
              refine Eq.trans (e_X0_tellPhase_108) ?_
              try simp only [mU_same, mU_mU]
              refine mw_cZ (rr_X5_inSet (d + 1)) rfl (fun v10 hv10 => ?_)
              refine Eq.trans (e_X0_tellPhase_112) ?_
              try simp only [mU_same, mU_mU]
              refine mw_ite (fun h11 => ?_) (fun h11 => ?_)
              · refine Eq.trans (e_X0_tellPhase_119) ?_
                try simp only [mU_same, mU_mU]
                refine Eq.trans (e_X0_tellPhase_120) ?_
                try simp only [mU_same, mU_mU]
                all_goals rfl
              · refine Eq.trans (e_X0_tellPhase_115) ?_
                try simp only [mU_same, mU_mU]
                refine Eq.trans (e_X0_tellPhase_120) ?_
                try simp only [mU_same, mU_mU]
                all_goals rfl
            · refine mw_ite (fun _ => ?_) (fun _ => ?_)
              · refine Eq.trans (e_X0_tellPhase_121) ?_
                try simp only [mU_same, mU_mU]
                refine mw_cI (rr_X5_cell_15 (d + 1)) (fun v12 => ?_)
                refine Eq.trans (e_X0_tellPhase_129) ?_
                try simp only [mU_same, mU_mU]
                all_goals rfl
              · refine mw_ite (fun _ => ?_) (fun _ => ?_)
                · refine Eq.trans (e_X0_tellPhase_130) ?_
                  try simp only [mU_same, mU_mU]
                  refine mw_cI (rr_X2_endOf d) (fun v13 => ?_)
                  refine Eq.trans (e_X0_tellPhase_138) ?_
                  try simp only [mU_same, mU_mU]
                  all_goals rfl
                · refine Eq.trans (e_X0_tellPhase_139) ?_
                  try simp only [mU_same, mU_mU]
                  refine mw_cI (rr_X2_foesOf d) (fun v1 => ?_)
                  refine Eq.trans (e_X0_tellPhase_147) ?_
                  try simp only [mU_same, mU_mU]
                  all_goals rfl
theorem rr_X0_tellPhase_at (d : Nat) {X : mX} {g : mG} {i : Nat} {x1 x2 : Int32} : mCall mD X (d + 3) 4 [mr i 0, mi x1, mi x2] g = wN g (P_X0_tellPhase (g i) x1 x2) := by
  have h := rr_X0_tellPhase (X := X) d (g := g) (c := g i) (x1 := x1) (x2 := x2) (i := i)
  rw [mU_self] at h
  exact h.trans (wI_self _ _ _)
theorem e_X0_isGreenAt_0 {X : mX} {call : Nat → List mV → mG → mR} {g : mG} {x1 : Int32} {i : Nat} : mEv X call 2 t_X0_isGreenAt (mDrop t_X0_isGreenAt 0) [some (mr i 0), some (mi x1)] [] g = mAns (mEv X call 2 t_X0_isGreenAt) (mDrop t_X0_isGreenAt 7) [some (mr i 0), some (mi x1)] [] (call 91 [mr i 8] g) := (mEv_3 _ _ _ _).trans rfl
theorem e_X0_isGreenAt_7 {X : mX} {call : Nat → List mV → mG → mR} {g : mG} {x1 s0 : Int32} {i : Nat} : mEv X call 2 t_X0_isGreenAt (mDrop t_X0_isGreenAt 7) [some (mr i 0), some (mi x1)] [mi s0] g = if s0 = 0 then mEv X call 2 t_X0_isGreenAt (mDrop t_X0_isGreenAt 21) [some (mr i 0), some (mi x1)] [] g else mEv X call 2 t_X0_isGreenAt (mDrop t_X0_isGreenAt 10) [some (mr i 0), some (mi x1)] [] g := (mEv_1 _ _ _ _).trans rfl
theorem e_X0_isGreenAt_21 {X : mX} {call : Nat → List mV → mG → mR} {g : mG} {x1 : Int32} {i : Nat} : mEv X call 2 t_X0_isGreenAt (mDrop t_X0_isGreenAt 21) [some (mr i 0), some (mi x1)] [] g = mAns (mEv X call 2 t_X0_isGreenAt) (mDrop t_X0_isGreenAt 28) [some (mr i 0), some (mi x1)] [] (call 91 [mr i 9] g) := (mEv_3 _ _ _ _).trans rfl
theorem e_X0_isGreenAt_28 {X : mX} {call : Nat → List mV → mG → mR} {g : mG} {x1 s0 : Int32} {i : Nat} : mEv X call 2 t_X0_isGreenAt (mDrop t_X0_isGreenAt 28) [some (mr i 0), some (mi x1)] [mi s0] g = if s0 = 0 then mEv X call 2 t_X0_isGreenAt (mDrop t_X0_isGreenAt 46) [some (mr i 0), some (mi x1)] [] g else mEv X call 2 t_X0_isGreenAt (mDrop t_X0_isGreenAt 31) [some (mr i 0), some (mi x1)] [] g := (mEv_1 _ _ _ _).trans rfl
theorem e_X0_isGreenAt_46 {X : mX} {call : Nat → List mV → mG → mR} {g : mG} {x1 : Int32} {i : Nat} : mEv X call 2 t_X0_isGreenAt (mDrop t_X0_isGreenAt 46) [some (mr i 0), some (mi x1)] [] g = mEv X call 2 t_X0_isGreenAt (mDrop t_X0_isGreenAt 47) [some (mr i 0), some (mi x1)] [mi 0] g := (mEv_1 _ _ _ _).trans rfl
theorem e_X0_isGreenAt_47 {X : mX} {call : Nat → List mV → mG → mR} {g : mG} {x1 s0 : Int32} {i : Nat} : mEv X call 2 t_X0_isGreenAt (mDrop t_X0_isGreenAt 47) [some (mr i 0), some (mi x1)] [mi s0] g = if (s0 : Int32) &&& 1 = s0 then some (some (mi s0), g) else none := (mEv_1 _ _ _ _).trans rfl
noncomputable def J_X0_isGreenAt_46 (c : mC) : (Int32) := 0
theorem rj_X0_isGreenAt_46 (d : Nat) {X : mX} {g : mG} {i : Nat} {x1 : Int32} {c : mC} : mEv X (mCall mD X (d + 1)) 2 t_X0_isGreenAt (mDrop t_X0_isGreenAt 46) [some (mr i 0), some (mi x1)] [] (mU g i c) = (wI g i c) (J_X0_isGreenAt_46 c) := by
  refine Eq.trans (e_X0_isGreenAt_46) ?_
  try simp only [mU_same, mU_mU]
  refine Eq.trans (e_X0_isGreenAt_47) ?_
  try simp only [mU_same, mU_mU]
  exact if_pos (by decide)
theorem e_X0_isGreenAt_31 {X : mX} {call : Nat → List mV → mG → mR} {g : mG} {x1 : Int32} {i : Nat} : mEv X call 2 t_X0_isGreenAt (mDrop t_X0_isGreenAt 31) [some (mr i 0), some (mi x1)] [] g = if (g i 9 1) = x1 then mEv X call 2 t_X0_isGreenAt (mDrop t_X0_isGreenAt 42) [some (mr i 0), some (mi x1)] [] g else mEv X call 2 t_X0_isGreenAt (mDrop t_X0_isGreenAt 46) [some (mr i 0), some (mi x1)] [] g := (mEv_5 _ _ _ _).trans rfl
theorem e_X0_isGreenAt_42 {X : mX} {call : Nat → List mV → mG → mR} {g : mG} {x1 : Int32} {i : Nat} : mEv X call 2 t_X0_isGreenAt (mDrop t_X0_isGreenAt 42) [some (mr i 0), some (mi x1)] [] g = mEv X call 2 t_X0_isGreenAt (mDrop t_X0_isGreenAt 47) [some (mr i 0), some (mi x1)] [mi 1] g := (mEv_2 _ _ _ _).trans rfl
noncomputable def J_X0_isGreenAt_42 (c : mC) : (Int32) := 1
theorem rj_X0_isGreenAt_42 (d : Nat) {X : mX} {g : mG} {i : Nat} {x1 : Int32} {c : mC} : mEv X (mCall mD X (d + 1)) 2 t_X0_isGreenAt (mDrop t_X0_isGreenAt 42) [some (mr i 0), some (mi x1)] [] (mU g i c) = (wI g i c) (J_X0_isGreenAt_42 c) := by
  refine Eq.trans (e_X0_isGreenAt_42) ?_
  try simp only [mU_same, mU_mU]
  refine Eq.trans (e_X0_isGreenAt_47) ?_
  try simp only [mU_same, mU_mU]
  exact if_pos (by decide)
noncomputable def J_X0_isGreenAt_21 (c : mC) (x1 : Int32) : (Int32) := (mBd (α := Int32) (P_X4_isGreen 9 c) (fun v1 => (if v1 = 0 then (J_X0_isGreenAt_46 c) else (if (c 9 1) = x1 then (J_X0_isGreenAt_42 c) else (J_X0_isGreenAt_46 c)))))
theorem rj_X0_isGreenAt_21 (d : Nat) {X : mX} {g : mG} {i : Nat} {x1 : Int32} {c : mC} : mEv X (mCall mD X (d + 1)) 2 t_X0_isGreenAt (mDrop t_X0_isGreenAt 21) [some (mr i 0), some (mi x1)] [] (mU g i c) = (wI g i c) (J_X0_isGreenAt_21 c x1) := by
  refine Eq.trans (e_X0_isGreenAt_21) ?_
  try simp only [mU_same, mU_mU]
  refine mw_cZ (rr_X4_isGreen d (Or.inr rfl)) rfl (fun v1 hv1 => ?_)
  refine Eq.trans (e_X0_isGreenAt_28) ?_
  try simp only [mU_same, mU_mU]
  refine mw_ite (fun h3 => ?_) (fun h3 => ?_)
  · exact rj_X0_isGreenAt_46 d
  · refine Eq.trans (e_X0_isGreenAt_31) ?_
    try simp only [mU_same, mU_mU]
    refine mw_ite (fun h2 => ?_) (fun h2 => ?_)
    · exact rj_X0_isGreenAt_42 d
    · exact rj_X0_isGreenAt_46 d
theorem e_X0_isGreenAt_10 {X : mX} {call : Nat → List mV → mG → mR} {g : mG} {x1 : Int32} {i : Nat} : mEv X call 2 t_X0_isGreenAt (mDrop t_X0_isGreenAt 10) [some (mr i 0), some (mi x1)] [] g = if (g i 8 1) = x1 then mEv X call 2 t_X0_isGreenAt (mDrop t_X0_isGreenAt 42) [some (mr i 0), some (mi x1)] [] g else mEv X call 2 t_X0_isGreenAt (mDrop t_X0_isGreenAt 21) [some (mr i 0), some (mi x1)] [] g := (mEv_5 _ _ _ _).trans rfl
noncomputable def P_X0_isGreenAt (c : mC) (x1 : Int32) : (Int32) := (mBd (α := Int32) (P_X4_isGreen 8 c) (fun v1 => (if v1 = 0 then (J_X0_isGreenAt_21 c x1) else (if (c 8 1) = x1 then (J_X0_isGreenAt_42 c) else (J_X0_isGreenAt_21 c x1)))))
theorem rr_X0_isGreenAt (d : Nat) {X : mX} {g : mG} {i : Nat} {x1 : Int32} {c : mC} : mCall mD X (d + 2) 6 [mr i 0, mi x1] (mU g i c) = (wI g i c) (P_X0_isGreenAt c x1) := by
  refine Eq.trans (mCall_eq (d := d + 1) rfl) ?_
  show mEv X (mCall mD X (d + 1)) 2 t_X0_isGreenAt (mDrop t_X0_isGreenAt 0) [some (mr i 0), some (mi x1)] [] (mU g i c) = _
  refine Eq.trans (e_X0_isGreenAt_0) ?_
  try simp only [mU_same, mU_mU]
  refine mw_cZ (rr_X4_isGreen d (Or.inl rfl)) rfl (fun v1 hv1 => ?_)
  refine Eq.trans (e_X0_isGreenAt_7) ?_
  try simp only [mU_same, mU_mU]
  refine mw_ite (fun h3 => ?_) (fun h3 => ?_)
  · exact rj_X0_isGreenAt_21 d
  · refine Eq.trans (e_X0_isGreenAt_10) ?_
    try simp only [mU_same, mU_mU]
    refine mw_ite (fun h2 => ?_) (fun h2 => ?_)
    · exact rj_X0_isGreenAt_42 d
    · exact rj_X0_isGreenAt_21 d
theorem rr_X0_isGreenAt_at (d : Nat) {X : mX} {g : mG} {i : Nat} {x1 : Int32} : mCall mD X (d + 2) 6 [mr i 0, mi x1] g = wN g (P_X0_isGreenAt (g i) x1) := by
  have h := rr_X0_isGreenAt (X := X) d (g := g) (c := g i) (x1 := x1) (i := i)
  rw [mU_self] at h
  exact h.trans (wI_self _ _ _)
theorem e_X0_longestQueue_0 {X : mX} {call : Nat → List mV → mG → mR} {g : mG} {i : Nat} : mEv X call 1 t_X0_longestQueue (mDrop t_X0_longestQueue 0) [some (mr i 0), none, none] [] g = mEv X call 1 t_X0_longestQueue (mDrop t_X0_longestQueue 4) [some (mr i 0), some (mi 0), some (mi 0)] [] g := (mEv_4 _ _ _ _).trans rfl
theorem e_X0_longestQueue_4 {X : mX} {call : Nat → List mV → mG → mR} {g : mG} {x1 x2 : Int32} {i : Nat} : mEv X call 1 t_X0_longestQueue (mDrop t_X0_longestQueue 4) [some (mr i 0), some (mi x1), some (mi x2)] [] g = if (g i 1 0) ≤ x2 then mEv X call 1 t_X0_longestQueue (mDrop t_X0_longestQueue 34) [some (mr i 0), some (mi x1), some (mi x2)] [] g else mEv X call 1 t_X0_longestQueue (mDrop t_X0_longestQueue 15) [some (mr i 0), some (mi x1), some (mi x2)] [] g := (mEv_5 _ _ _ _).trans rfl
theorem e_X0_longestQueue_34 {X : mX} {call : Nat → List mV → mG → mR} {g : mG} {x1 x2 : Int32} {i : Nat} : mEv X call 1 t_X0_longestQueue (mDrop t_X0_longestQueue 34) [some (mr i 0), some (mi x1), some (mi x2)] [] g = some (some (mi x1), g) := (mEv_2 _ _ _ _).trans rfl
theorem e_X0_longestQueue_15 {X : mX} {call : Nat → List mV → mG → mR} {g : mG} {x1 x2 : Int32} {i : Nat} : mEv X call 1 t_X0_longestQueue (mDrop t_X0_longestQueue 15) [some (mr i 0), some (mi x1), some (mi x2)] [] g = mAns (mEv X call 1 t_X0_longestQueue) (mDrop t_X0_longestQueue 24) [some (mr i 0), some (mi x1), some (mi x2)] [mi x1] (call 142 [mr i 14, mi x2] g) := (mEv_5 _ _ _ _).trans rfl
theorem e_X0_longestQueue_24 {X : mX} {call : Nat → List mV → mG → mR} {g : mG} {x1 x2 s0 s1 : Int32} {i : Nat} : mEv X call 1 t_X0_longestQueue (mDrop t_X0_longestQueue 24) [some (mr i 0), some (mi x1), some (mi x2)] [mi s1, mi s0] g = mAns (mEv X call 1 t_X0_longestQueue) (mDrop t_X0_longestQueue 27) [some (mr i 0), some (mi x1), some (mi x2)] [] (call 277 [mi s0, mi s1] g) := (mEv_1 _ _ _ _).trans rfl
theorem e_X0_longestQueue_27 {X : mX} {call : Nat → List mV → mG → mR} {g : mG} {x1 x2 s0 : Int32} {i : Nat} : mEv X call 1 t_X0_longestQueue (mDrop t_X0_longestQueue 27) [some (mr i 0), some (mi x1), some (mi x2)] [mi s0] g = mEv X call 1 t_X0_longestQueue (mDrop t_X0_longestQueue 4) [some (mr i 0), some (mi s0), some (mi (x2 + 1))] [] g := (mEv_3 _ _ _ _).trans rfl
noncomputable def B_X0_longestQueue_4 (c : mC) : (Int32 × Int32) → (Int32 × Int32) ⊕ (Int32) := fun s => match s with | (x1, x2) => (if (c 1 0) ≤ x2 then (.inr x1) else (mBd (α := Int32) (cl 8 (c 14) x2) (fun v1 => (mBd (α := Int32) (P_J9_max_7cf53 x1 v1) (fun v2 => (.inl (v2, (x2 + 1))))))))
set_option maxRecDepth 100000 in
theorem tm_X0_longestQueue_4 {c : mC} : mTm (B_X0_longestQueue_4 c) := by
  refine ⟨fun s => match s with | (x1, x2) => (((c 1 0) : Int32).toInt - (x2 : Int32).toInt).toNat, fun s s2 h => ?_⟩
  obtain ⟨x1, x2⟩ := s
  simp only [B_X0_longestQueue_4, mBd] at h
  (repeat' split at h) <;> first | (have h2 := Sum.inl.inj h; subst h2; dsimp only; exact mtm_up (by assumption)) | (cases h; done)
theorem rl_X0_longestQueue_4 (d : Nat) {X : mX} {g : mG} {i : Nat} {x1 x2 : Int32} {c : mC} : mEv X (mCall mD X (d + 1)) 1 t_X0_longestQueue (mDrop t_X0_longestQueue 4) [some (mr i 0), some (mi x1), some (mi x2)] [] (mU g i c) = (wI g i c) (mWh 0 (B_X0_longestQueue_4 c) (x1, x2)) := by
  refine mWh_ev (B := (B_X0_longestQueue_4 c)) (ev := fun s : (Int32 × Int32) => match s with | (x1, x2) => mEv X (mCall mD X (d + 1)) 1 t_X0_longestQueue (mDrop t_X0_longestQueue 4) [some (mr i 0), some (mi x1), some (mi x2)] [] (mU g i c)) (w := (wI g i c)) (tm_X0_longestQueue_4) ?_ (x1, x2)
  rintro ⟨x1, x2⟩
  show mEv X (mCall mD X (d + 1)) 1 t_X0_longestQueue (mDrop t_X0_longestQueue 4) [some (mr i 0), some (mi x1), some (mi x2)] [] (mU g i c) = wB (fun s : (Int32 × Int32) => match s with | (x1, x2) => mEv X (mCall mD X (d + 1)) 1 t_X0_longestQueue (mDrop t_X0_longestQueue 4) [some (mr i 0), some (mi x1), some (mi x2)] [] (mU g i c)) (wI g i c) (B_X0_longestQueue_4 c (x1, x2))
  refine Eq.trans (e_X0_longestQueue_4) ?_
  try simp only [mU_same, mU_mU]
  refine mw_ite (fun h3 => ?_) (fun h3 => ?_)
  · refine mw_inr ?_
    refine Eq.trans (e_X0_longestQueue_34) ?_
    try simp only [mU_same, mU_mU]
    all_goals rfl
  · refine Eq.trans (e_X0_longestQueue_15) ?_
    try simp only [mU_same, mU_mU]
    refine mw_cI (rr_X5_cell_14 d) (fun v1 => ?_)
    refine Eq.trans (e_X0_longestQueue_24) ?_
    try simp only [mU_same, mU_mU]
    refine mw_cI (rr_J9_max_7cf53 d) (fun v2 => ?_)
    refine Eq.trans (e_X0_longestQueue_27) ?_
    try simp only [mU_same, mU_mU]
    exact mw_inl rfl
noncomputable def P_X0_longestQueue (c : mC) : (Int32) := (mWh 0 (B_X0_longestQueue_4 c) (0, 0))
theorem rr_X0_longestQueue (d : Nat) {X : mX} {g : mG} {i : Nat} {c : mC} : mCall mD X (d + 2) 7 [mr i 0] (mU g i c) = (wI g i c) (P_X0_longestQueue c) := by
  refine Eq.trans (mCall_eq (d := d + 1) rfl) ?_
  show mEv X (mCall mD X (d + 1)) 1 t_X0_longestQueue (mDrop t_X0_longestQueue 0) [some (mr i 0), none, none] [] (mU g i c) = _
  refine Eq.trans (e_X0_longestQueue_0) ?_
  try simp only [mU_same, mU_mU]
  exact rl_X0_longestQueue_4 d
theorem rr_X0_longestQueue_at (d : Nat) {X : mX} {g : mG} {i : Nat} : mCall mD X (d + 2) 7 [mr i 0] g = wN g (P_X0_longestQueue (g i)) := by
  have h := rr_X0_longestQueue (X := X) d (g := g) (c := g i) (i := i)
  rw [mU_self] at h
  exact h.trans (wI_self _ _ _)
theorem e_X0_firstLongest_0 {X : mX} {call : Nat → List mV → mG → mR} {g : mG} {i : Nat} : mEv X call 1 t_X0_firstLongest (mDrop t_X0_firstLongest 0) [some (mr i 0), none, none] [] g = mAns (mEv X call 1 t_X0_firstLongest) (mDrop t_X0_firstLongest 4) [some (mr i 0), none, none] [] (call 7 [mr i 0] g) := (mEv_2 _ _ _ _).trans rfl
theorem e_X0_firstLongest_4 {X : mX} {call : Nat → List mV → mG → mR} {g : mG} {s0 : Int32} {i : Nat} : mEv X call 1 t_X0_firstLongest (mDrop t_X0_firstLongest 4) [some (mr i 0), none, none] [mi s0] g = mEv X call 1 t_X0_firstLongest (mDrop t_X0_firstLongest 7) [some (mr i 0), some (mi s0), some (mi 0)] [] g := (mEv_3 _ _ _ _).trans rfl
theorem e_X0_firstLongest_7 {X : mX} {call : Nat → List mV → mG → mR} {g : mG} {x1 x2 : Int32} {i : Nat} : mEv X call 1 t_X0_firstLongest (mDrop t_X0_firstLongest 7) [some (mr i 0), some (mi x1), some (mi x2)] [] g = if (g i 1 0) ≤ x2 then mEv X call 1 t_X0_firstLongest (mDrop t_X0_firstLongest 42) [some (mr i 0), some (mi x1), some (mi x2)] [] g else mEv X call 1 t_X0_firstLongest (mDrop t_X0_firstLongest 18) [some (mr i 0), some (mi x1), some (mi x2)] [] g := (mEv_5 _ _ _ _).trans rfl
theorem e_X0_firstLongest_42 {X : mX} {call : Nat → List mV → mG → mR} {g : mG} {x1 x2 : Int32} {i : Nat} : mEv X call 1 t_X0_firstLongest (mDrop t_X0_firstLongest 42) [some (mr i 0), some (mi x1), some (mi x2)] [] g = some (some (mi (-1)), g) := (mEv_2 _ _ _ _).trans rfl
noncomputable def J_X0_firstLongest_42 (c : mC) : (Int32) := (-1)
theorem rj_X0_firstLongest_42 (d : Nat) {X : mX} {g : mG} {i : Nat} {x1 x2 : Int32} {c : mC} : mEv X (mCall mD X (d + 2)) 1 t_X0_firstLongest (mDrop t_X0_firstLongest 42) [some (mr i 0), some (mi x1), some (mi x2)] [] (mU g i c) = (wI g i c) (J_X0_firstLongest_42 c) := by
  refine Eq.trans (e_X0_firstLongest_42) ?_
  try simp only [mU_same, mU_mU]
  all_goals rfl
theorem e_X0_firstLongest_18 {X : mX} {call : Nat → List mV → mG → mR} {g : mG} {x1 x2 : Int32} {i : Nat} : mEv X call 1 t_X0_firstLongest (mDrop t_X0_firstLongest 18) [some (mr i 0), some (mi x1), some (mi x2)] [] g = if x1 ≤ 0 then mEv X call 1 t_X0_firstLongest (mDrop t_X0_firstLongest 42) [some (mr i 0), some (mi x1), some (mi x2)] [] g else mEv X call 1 t_X0_firstLongest (mDrop t_X0_firstLongest 22) [some (mr i 0), some (mi x1), some (mi x2)] [] g := (mEv_2 _ _ _ _).trans rfl
theorem e_X0_firstLongest_22 {X : mX} {call : Nat → List mV → mG → mR} {g : mG} {x1 x2 : Int32} {i : Nat} : mEv X call 1 t_X0_firstLongest (mDrop t_X0_firstLongest 22) [some (mr i 0), some (mi x1), some (mi x2)] [] g = mAns (mEv X call 1 t_X0_firstLongest) (mDrop t_X0_firstLongest 30) [some (mr i 0), some (mi x1), some (mi x2)] [] (call 142 [mr i 14, mi x2] g) := (mEv_4 _ _ _ _).trans rfl
theorem e_X0_firstLongest_30 {X : mX} {call : Nat → List mV → mG → mR} {g : mG} {x1 x2 s0 : Int32} {i : Nat} : mEv X call 1 t_X0_firstLongest (mDrop t_X0_firstLongest 30) [some (mr i 0), some (mi x1), some (mi x2)] [mi s0] g = if s0 = x1 then mEv X call 1 t_X0_firstLongest (mDrop t_X0_firstLongest 34) [some (mr i 0), some (mi x1), some (mi x2)] [] g else mEv X call 1 t_X0_firstLongest (mDrop t_X0_firstLongest 36) [some (mr i 0), some (mi x1), some (mi x2)] [] g := (mEv_2 _ _ _ _).trans rfl
theorem e_X0_firstLongest_34 {X : mX} {call : Nat → List mV → mG → mR} {g : mG} {x1 x2 : Int32} {i : Nat} : mEv X call 1 t_X0_firstLongest (mDrop t_X0_firstLongest 34) [some (mr i 0), some (mi x1), some (mi x2)] [] g = some (some (mi x2), g) := (mEv_2 _ _ _ _).trans rfl
theorem e_X0_firstLongest_36 {X : mX} {call : Nat → List mV → mG → mR} {g : mG} {x1 x2 : Int32} {i : Nat} : mEv X call 1 t_X0_firstLongest (mDrop t_X0_firstLongest 36) [some (mr i 0), some (mi x1), some (mi x2)] [] g = mEv X call 1 t_X0_firstLongest (mDrop t_X0_firstLongest 7) [some (mr i 0), some (mi x1), some (mi (x2 + 1))] [] g := (mEv_2 _ _ _ _).trans rfl
noncomputable def B_X0_firstLongest_7 (c : mC) (x1 : Int32) : (Int32) → (Int32) ⊕ (Int32) := fun x2 => (if (c 1 0) ≤ x2 then (.inr (J_X0_firstLongest_42 c)) else (if x1 ≤ 0 then (.inr (J_X0_firstLongest_42 c)) else (mBd (α := Int32) (cl 8 (c 14) x2) (fun v1 => (if v1 = x1 then (.inr x2) else (.inl (x2 + 1)))))))
set_option maxRecDepth 100000 in
theorem tm_X0_firstLongest_7 {c : mC} {x1 : Int32} : mTm (B_X0_firstLongest_7 c x1) := by
  refine ⟨fun x2 => (((c 1 0) : Int32).toInt - (x2 : Int32).toInt).toNat, fun s s2 h => ?_⟩
  skip
  simp only [B_X0_firstLongest_7, mBd] at h
  (repeat' split at h) <;> first | (have h2 := Sum.inl.inj h; subst h2; dsimp only; exact mtm_up (by assumption)) | (cases h; done)
theorem rl_X0_firstLongest_7 (d : Nat) {X : mX} {g : mG} {i : Nat} {x1 x2 : Int32} {c : mC} : mEv X (mCall mD X (d + 2)) 1 t_X0_firstLongest (mDrop t_X0_firstLongest 7) [some (mr i 0), some (mi x1), some (mi x2)] [] (mU g i c) = (wI g i c) (mWh 0 (B_X0_firstLongest_7 c x1) x2) := by
  refine mWh_ev (B := (B_X0_firstLongest_7 c x1)) (ev := fun x2 : (Int32) => mEv X (mCall mD X (d + 2)) 1 t_X0_firstLongest (mDrop t_X0_firstLongest 7) [some (mr i 0), some (mi x1), some (mi x2)] [] (mU g i c)) (w := (wI g i c)) (tm_X0_firstLongest_7) ?_ x2
  intro x2
  show mEv X (mCall mD X (d + 2)) 1 t_X0_firstLongest (mDrop t_X0_firstLongest 7) [some (mr i 0), some (mi x1), some (mi x2)] [] (mU g i c) = wB (fun x2 : (Int32) => mEv X (mCall mD X (d + 2)) 1 t_X0_firstLongest (mDrop t_X0_firstLongest 7) [some (mr i 0), some (mi x1), some (mi x2)] [] (mU g i c)) (wI g i c) (B_X0_firstLongest_7 c x1 x2)
  refine Eq.trans (e_X0_firstLongest_7) ?_
  try simp only [mU_same, mU_mU]
  refine mw_ite (fun h4 => ?_) (fun h4 => ?_)
  · refine mw_inr ?_
    exact rj_X0_firstLongest_42 d
  · refine Eq.trans (e_X0_firstLongest_18) ?_
    try simp only [mU_same, mU_mU]
    refine mw_ite (fun h3 => ?_) (fun h3 => ?_)
    · refine mw_inr ?_
      exact rj_X0_firstLongest_42 d
    · refine Eq.trans (e_X0_firstLongest_22) ?_
      try simp only [mU_same, mU_mU]
      refine mw_cI (rr_X5_cell_14 (d + 1)) (fun v1 => ?_)
      refine Eq.trans (e_X0_firstLongest_30) ?_
      try simp only [mU_same, mU_mU]
      refine mw_ite (fun h2 => ?_) (fun h2 => ?_)
      · refine mw_inr ?_
        refine Eq.trans (e_X0_firstLongest_34) ?_
        try simp only [mU_same, mU_mU]
        all_goals rfl
      · refine Eq.trans (e_X0_firstLongest_36) ?_
        try simp only [mU_same, mU_mU]
        exact mw_inl rfl
noncomputable def P_X0_firstLongest (c : mC) : (Int32) := (mBd (α := Int32) (P_X0_longestQueue c) (fun v1 => (mWh 0 (B_X0_firstLongest_7 c v1) 0)))
theorem rr_X0_firstLongest (d : Nat) {X : mX} {g : mG} {i : Nat} {c : mC} : mCall mD X (d + 3) 8 [mr i 0] (mU g i c) = (wI g i c) (P_X0_firstLongest c) := by
  refine Eq.trans (mCall_eq (d := d + 2) rfl) ?_
  show mEv X (mCall mD X (d + 2)) 1 t_X0_firstLongest (mDrop t_X0_firstLongest 0) [some (mr i 0), none, none] [] (mU g i c) = _
  refine Eq.trans (e_X0_firstLongest_0) ?_
  try simp only [mU_same, mU_mU]
  refine mw_cI (rr_X0_longestQueue d) (fun v1 => ?_)
  refine Eq.trans (e_X0_firstLongest_4) ?_
  try simp only [mU_same, mU_mU]
  exact rl_X0_firstLongest_7 d
theorem rr_X0_firstLongest_at (d : Nat) {X : mX} {g : mG} {i : Nat} : mCall mD X (d + 3) 8 [mr i 0] g = wN g (P_X0_firstLongest (g i)) := by
  have h := rr_X0_firstLongest (X := X) d (g := g) (c := g i) (i := i)
  rw [mU_self] at h
  exact h.trans (wI_self _ _ _)
theorem e_X0_queueOf_0 {X : mX} {call : Nat → List mV → mG → mR} {g : mG} {x1 : Int32} {i : Nat} : mEv X call 1 t_X0_queueOf (mDrop t_X0_queueOf 0) [some (mr i 0), some (mi x1), none, none] [] g = mEv X call 1 t_X0_queueOf (mDrop t_X0_queueOf 4) [some (mr i 0), some (mi x1), some (mi 0), some (mi 0)] [] g := (mEv_4 _ _ _ _).trans rfl
theorem e_X0_queueOf_4 {X : mX} {call : Nat → List mV → mG → mR} {g : mG} {x1 x2 x3 : Int32} {i : Nat} : mEv X call 1 t_X0_queueOf (mDrop t_X0_queueOf 4) [some (mr i 0), some (mi x1), some (mi x2), some (mi x3)] [] g = if (g i 1 0) ≤ x3 then mEv X call 1 t_X0_queueOf (mDrop t_X0_queueOf 40) [some (mr i 0), some (mi x1), some (mi x2), some (mi x3)] [] g else mEv X call 1 t_X0_queueOf (mDrop t_X0_queueOf 15) [some (mr i 0), some (mi x1), some (mi x2), some (mi x3)] [] g := (mEv_5 _ _ _ _).trans rfl
theorem e_X0_queueOf_40 {X : mX} {call : Nat → List mV → mG → mR} {g : mG} {x1 x2 x3 : Int32} {i : Nat} : mEv X call 1 t_X0_queueOf (mDrop t_X0_queueOf 40) [some (mr i 0), some (mi x1), some (mi x2), some (mi x3)] [] g = some (some (mi x2), g) := (mEv_2 _ _ _ _).trans rfl
theorem e_X0_queueOf_15 {X : mX} {call : Nat → List mV → mG → mR} {g : mG} {x1 x2 x3 : Int32} {i : Nat} : mEv X call 1 t_X0_queueOf (mDrop t_X0_queueOf 15) [some (mr i 0), some (mi x1), some (mi x2), some (mi x3)] [] g = mAns (mEv X call 1 t_X0_queueOf) (mDrop t_X0_queueOf 20) [some (mr i 0), some (mi x1), some (mi x2), some (mi x3)] [] (call 149 [mi x1, mi x3] g) := (mEv_3 _ _ _ _).trans rfl
theorem e_X0_queueOf_20 {X : mX} {call : Nat → List mV → mG → mR} {g : mG} {x1 x2 x3 s0 : Int32} {i : Nat} : mEv X call 1 t_X0_queueOf (mDrop t_X0_queueOf 20) [some (mr i 0), some (mi x1), some (mi x2), some (mi x3)] [mi s0] g = if s0 = 0 then mEv X call 1 t_X0_queueOf (mDrop t_X0_queueOf 34) [some (mr i 0), some (mi x1), some (mi x2), some (mi x3)] [] g else mEv X call 1 t_X0_queueOf (mDrop t_X0_queueOf 23) [some (mr i 0), some (mi x1), some (mi x2), some (mi x3)] [] g := (mEv_1 _ _ _ _).trans rfl
theorem e_X0_queueOf_34 {X : mX} {call : Nat → List mV → mG → mR} {g : mG} {x1 x2 x3 : Int32} {i : Nat} : mEv X call 1 t_X0_queueOf (mDrop t_X0_queueOf 34) [some (mr i 0), some (mi x1), some (mi x2), some (mi x3)] [] g = mEv X call 1 t_X0_queueOf (mDrop t_X0_queueOf 4) [some (mr i 0), some (mi x1), some (mi x2), some (mi (x3 + 1))] [] g := (mEv_2 _ _ _ _).trans rfl
noncomputable def J_X0_queueOf_34 (c : mC) (x1 : Int32) (x2 : Int32) (x3 : Int32) : ((Int32 × Int32) ⊕ (Int32)) := (.inl (x2, (x3 + 1)))
theorem rj_X0_queueOf_34 (d : Nat) {X : mX} {g : mG} {i : Nat} {x1 x2 x3 : Int32} {c : mC} : mEv X (mCall mD X (d + 1)) 1 t_X0_queueOf (mDrop t_X0_queueOf 34) [some (mr i 0), some (mi x1), some (mi x2), some (mi x3)] [] (mU g i c) = (wB (fun s : (Int32 × Int32) => match s with | (x2, x3) => mEv X (mCall mD X (d + 1)) 1 t_X0_queueOf (mDrop t_X0_queueOf 4) [some (mr i 0), some (mi x1), some (mi x2), some (mi x3)] [] (mU g i c)) (wI g i c)) (J_X0_queueOf_34 c x1 x2 x3) := by
  refine Eq.trans (e_X0_queueOf_34) ?_
  try simp only [mU_same, mU_mU]
  exact mw_inl rfl
theorem e_X0_queueOf_23 {X : mX} {call : Nat → List mV → mG → mR} {g : mG} {x1 x2 x3 : Int32} {i : Nat} : mEv X call 1 t_X0_queueOf (mDrop t_X0_queueOf 23) [some (mr i 0), some (mi x1), some (mi x2), some (mi x3)] [] g = mAns (mEv X call 1 t_X0_queueOf) (mDrop t_X0_queueOf 32) [some (mr i 0), some (mi x1), some (mi x2), some (mi x3)] [mi x2] (call 142 [mr i 14, mi x3] g) := (mEv_5 _ _ _ _).trans rfl
theorem e_X0_queueOf_32 {X : mX} {call : Nat → List mV → mG → mR} {g : mG} {x1 x2 x3 s0 s1 : Int32} {i : Nat} : mEv X call 1 t_X0_queueOf (mDrop t_X0_queueOf 32) [some (mr i 0), some (mi x1), some (mi x2), some (mi x3)] [mi s1, mi s0] g = mEv X call 1 t_X0_queueOf (mDrop t_X0_queueOf 34) [some (mr i 0), some (mi x1), some (mi (s0 + s1)), some (mi x3)] [] g := (mEv_2 _ _ _ _).trans rfl
noncomputable def B_X0_queueOf_4 (c : mC) (x1 : Int32) : (Int32 × Int32) → (Int32 × Int32) ⊕ (Int32) := fun s => match s with | (x2, x3) => (if (c 1 0) ≤ x3 then (.inr x2) else (mBd (α := Int32) (P_X5_inSet x1 x3) (fun v1 => (if v1 = 0 then (J_X0_queueOf_34 c x1 x2 x3) else (mBd (α := Int32) (cl 8 (c 14) x3) (fun v2 => (J_X0_queueOf_34 c x1 (x2 + v2) x3)))))))
set_option maxRecDepth 100000 in
theorem tm_X0_queueOf_4 {c : mC} {x1 : Int32} : mTm (B_X0_queueOf_4 c x1) := by
  refine ⟨fun s => match s with | (x2, x3) => (((c 1 0) : Int32).toInt - (x3 : Int32).toInt).toNat, fun s s2 h => ?_⟩
  obtain ⟨x2, x3⟩ := s
  simp only [B_X0_queueOf_4, J_X0_queueOf_34, mBd] at h
  (repeat' split at h) <;> first | (have h2 := Sum.inl.inj h; subst h2; dsimp only; exact mtm_up (by assumption)) | (cases h; done)
theorem rl_X0_queueOf_4 (d : Nat) {X : mX} {g : mG} {i : Nat} {x1 x2 x3 : Int32} {c : mC} : mEv X (mCall mD X (d + 1)) 1 t_X0_queueOf (mDrop t_X0_queueOf 4) [some (mr i 0), some (mi x1), some (mi x2), some (mi x3)] [] (mU g i c) = (wI g i c) (mWh 0 (B_X0_queueOf_4 c x1) (x2, x3)) := by
  refine mWh_ev (B := (B_X0_queueOf_4 c x1)) (ev := fun s : (Int32 × Int32) => match s with | (x2, x3) => mEv X (mCall mD X (d + 1)) 1 t_X0_queueOf (mDrop t_X0_queueOf 4) [some (mr i 0), some (mi x1), some (mi x2), some (mi x3)] [] (mU g i c)) (w := (wI g i c)) (tm_X0_queueOf_4) ?_ (x2, x3)
  rintro ⟨x2, x3⟩
  show mEv X (mCall mD X (d + 1)) 1 t_X0_queueOf (mDrop t_X0_queueOf 4) [some (mr i 0), some (mi x1), some (mi x2), some (mi x3)] [] (mU g i c) = wB (fun s : (Int32 × Int32) => match s with | (x2, x3) => mEv X (mCall mD X (d + 1)) 1 t_X0_queueOf (mDrop t_X0_queueOf 4) [some (mr i 0), some (mi x1), some (mi x2), some (mi x3)] [] (mU g i c)) (wI g i c) (B_X0_queueOf_4 c x1 (x2, x3))
  refine Eq.trans (e_X0_queueOf_4) ?_
  try simp only [mU_same, mU_mU]
  refine mw_ite (fun h4 => ?_) (fun h4 => ?_)
  · refine mw_inr ?_
    refine Eq.trans (e_X0_queueOf_40) ?_
    try simp only [mU_same, mU_mU]
    all_goals rfl
  · refine Eq.trans (e_X0_queueOf_15) ?_
    try simp only [mU_same, mU_mU]
    refine mw_cZ (rr_X5_inSet d) rfl (fun v1 hv1 => ?_)
    refine Eq.trans (e_X0_queueOf_20) ?_
    try simp only [mU_same, mU_mU]
    refine mw_ite (fun h3 => ?_) (fun h3 => ?_)
    · exact rj_X0_queueOf_34 d
    · refine Eq.trans (e_X0_queueOf_23) ?_
      try simp only [mU_same, mU_mU]
      refine mw_cI (rr_X5_cell_14 d) (fun v2 => ?_)
      refine Eq.trans (e_X0_queueOf_32) ?_
      try simp only [mU_same, mU_mU]
      exact rj_X0_queueOf_34 d
noncomputable def P_X0_queueOf (c : mC) (x1 : Int32) : (Int32) := (mWh 0 (B_X0_queueOf_4 c x1) (0, 0))
theorem rr_X0_queueOf (d : Nat) {X : mX} {g : mG} {i : Nat} {x1 : Int32} {c : mC} : mCall mD X (d + 2) 9 [mr i 0, mi x1] (mU g i c) = (wI g i c) (P_X0_queueOf c x1) := by
  refine Eq.trans (mCall_eq (d := d + 1) rfl) ?_
  show mEv X (mCall mD X (d + 1)) 1 t_X0_queueOf (mDrop t_X0_queueOf 0) [some (mr i 0), some (mi x1), none, none] [] (mU g i c) = _
  refine Eq.trans (e_X0_queueOf_0) ?_
  try simp only [mU_same, mU_mU]
  exact rl_X0_queueOf_4 d
theorem rr_X0_queueOf_at (d : Nat) {X : mX} {g : mG} {i : Nat} {x1 : Int32} : mCall mD X (d + 2) 9 [mr i 0, mi x1] g = wN g (P_X0_queueOf (g i) x1) := by
  have h := rr_X0_queueOf (X := X) d (g := g) (c := g i) (x1 := x1) (i := i)
  rw [mU_self] at h
  exact h.trans (wI_self _ _ _)
theorem e_X0_askedSet_0 {X : mX} {call : Nat → List mV → mG → mR} {g : mG} {i : Nat} : mEv X call 1 t_X0_askedSet (mDrop t_X0_askedSet 0) [some (mr i 0)] [] g = mAns (mEv X call 1 t_X0_askedSet) (mDrop t_X0_askedSet 4) [some (mr i 0)] [] (call 10 [mr i 0] g) := (mEv_2 _ _ _ _).trans rfl
theorem e_X0_askedSet_4 {X : mX} {call : Nat → List mV → mG → mR} {g : mG} {s0 : Int32} {i : Nat} : mEv X call 1 t_X0_askedSet (mDrop t_X0_askedSet 4) [some (mr i 0)] [mi s0] g = mAns (mEv X call 1 t_X0_askedSet) (mDrop t_X0_askedSet 8) [some (mr i 0)] [mi s0] (call 11 [mr i 0] g) := (mEv_2 _ _ _ _).trans rfl
theorem e_X0_askedSet_8 {X : mX} {call : Nat → List mV → mG → mR} {g : mG} {s0 s1 : Int32} {i : Nat} : mEv X call 1 t_X0_askedSet (mDrop t_X0_askedSet 8) [some (mr i 0)] [mi s1, mi s0] g = some (some (mi (s0 ||| s1)), g) := (mEv_2 _ _ _ _).trans rfl
noncomputable def P_X0_askedSet (c : mC) : (Int32) := (mBd (α := Int32) (P_X0_calledSet c) (fun v1 => (mBd (α := Int32) (P_X0_onFootSet c) (fun v2 => (v1 ||| v2)))))
theorem rr_X0_askedSet (d : Nat) {X : mX} {g : mG} {i : Nat} {c : mC} : mCall mD X (d + 2) 12 [mr i 0] (mU g i c) = (wI g i c) (P_X0_askedSet c) := by
  refine Eq.trans (mCall_eq (d := d + 1) rfl) ?_
  show mEv X (mCall mD X (d + 1)) 1 t_X0_askedSet (mDrop t_X0_askedSet 0) [some (mr i 0)] [] (mU g i c) = _
  refine Eq.trans (e_X0_askedSet_0) ?_
  try simp only [mU_same, mU_mU]
  refine mw_cI (rr_X0_calledSet d) (fun v1 => ?_)
  refine Eq.trans (e_X0_askedSet_4) ?_
  try simp only [mU_same, mU_mU]
  refine mw_cI (rr_X0_onFootSet d) (fun v2 => ?_)
  refine Eq.trans (e_X0_askedSet_8) ?_
  try simp only [mU_same, mU_mU]
  all_goals rfl
theorem rr_X0_askedSet_at (d : Nat) {X : mX} {g : mG} {i : Nat} : mCall mD X (d + 2) 12 [mr i 0] g = wN g (P_X0_askedSet (g i)) := by
  have h := rr_X0_askedSet (X := X) d (g := g) (c := g i) (i := i)
  rw [mU_self] at h
  exact h.trans (wI_self _ _ _)
theorem e_X0_shownBy_0 {X : mX} {call : Nat → List mV → mG → mR} {g : mG} {i r : Nat} (h_r : r = 8 ∨ r = 9) : mEv X call 1 t_X0_shownBy (mDrop t_X0_shownBy 0) [some (mr i 0), some (mr i r)] [] g = if (g i r 2) = 0 then mEv X call 1 t_X0_shownBy (mDrop t_X0_shownBy 15) [some (mr i 0), some (mr i r)] [] g else mEv X call 1 t_X0_shownBy (mDrop t_X0_shownBy 7) [some (mr i 0), some (mr i r)] [] g := by
  rcases h_r with rfl | rfl <;> exact (mEv_3 _ _ _ _).trans rfl
theorem e_X0_shownBy_15 {X : mX} {call : Nat → List mV → mG → mR} {g : mG} {i r : Nat} (h_r : r = 8 ∨ r = 9) : mEv X call 1 t_X0_shownBy (mDrop t_X0_shownBy 15) [some (mr i 0), some (mr i r)] [] g = mAns (mEv X call 1 t_X0_shownBy) (mDrop t_X0_shownBy 22) [some (mr i 0), some (mr i r)] [] (call 147 [mi (g i r 1)] g) := by
  rcases h_r with rfl | rfl <;> exact (mEv_3 _ _ _ _).trans rfl
theorem e_X0_shownBy_22 {X : mX} {call : Nat → List mV → mG → mR} {g : mG} {s0 : Int32} {i r : Nat} (h_r : r = 8 ∨ r = 9) : mEv X call 1 t_X0_shownBy (mDrop t_X0_shownBy 22) [some (mr i 0), some (mr i r)] [mi s0] g = mEv X call 1 t_X0_shownBy (mDrop t_X0_shownBy 26) [some (mr i 0), some (mr i r)] [mi s0] g := by
  rcases h_r with rfl | rfl <;> exact (mEv_1 _ _ _ _).trans rfl
theorem e_X0_shownBy_26 {X : mX} {call : Nat → List mV → mG → mR} {g : mG} {s0 : Int32} {i r : Nat} (h_r : r = 8 ∨ r = 9) : mEv X call 1 t_X0_shownBy (mDrop t_X0_shownBy 26) [some (mr i 0), some (mr i r)] [mi s0] g = some (some (mi s0), g) := by
  rcases h_r with rfl | rfl <;> exact (mEv_1 _ _ _ _).trans rfl
noncomputable def J_X0_shownBy_15 (r : Nat) (c : mC) : (Int32) := (mBd (α := Int32) (P_X5_bit (c r 1)) (fun v1 => v1))
theorem rj_X0_shownBy_15 (d : Nat) {X : mX} {g : mG} {i r : Nat} (h_r : r = 8 ∨ r = 9) {c : mC} : mEv X (mCall mD X (d + 1)) 1 t_X0_shownBy (mDrop t_X0_shownBy 15) [some (mr i 0), some (mr i r)] [] (mU g i c) = (wI g i c) (J_X0_shownBy_15 r c) := by
  refine Eq.trans (e_X0_shownBy_15 h_r) ?_
  try simp only [mU_same, mU_mU]
  refine mw_cI (rr_X5_bit d) (fun v1 => ?_)
  refine Eq.trans (e_X0_shownBy_22 h_r) ?_
  try simp only [mU_same, mU_mU]
  refine Eq.trans (e_X0_shownBy_26 h_r) ?_
  try simp only [mU_same, mU_mU]
  all_goals rfl
theorem e_X0_shownBy_7 {X : mX} {call : Nat → List mV → mG → mR} {g : mG} {i r : Nat} (h_r : r = 8 ∨ r = 9) : mEv X call 1 t_X0_shownBy (mDrop t_X0_shownBy 7) [some (mr i 0), some (mr i r)] [] g = if (g i r 2) = 1 then mEv X call 1 t_X0_shownBy (mDrop t_X0_shownBy 15) [some (mr i 0), some (mr i r)] [] g else mEv X call 1 t_X0_shownBy (mDrop t_X0_shownBy 25) [some (mr i 0), some (mr i r)] [] g := by
  rcases h_r with rfl | rfl <;> exact (mEv_4 _ _ _ _).trans rfl
theorem e_X0_shownBy_25 {X : mX} {call : Nat → List mV → mG → mR} {g : mG} {i r : Nat} (h_r : r = 8 ∨ r = 9) : mEv X call 1 t_X0_shownBy (mDrop t_X0_shownBy 25) [some (mr i 0), some (mr i r)] [] g = mEv X call 1 t_X0_shownBy (mDrop t_X0_shownBy 26) [some (mr i 0), some (mr i r)] [mi 0] g := by
  rcases h_r with rfl | rfl <;> exact (mEv_1 _ _ _ _).trans rfl
noncomputable def P_X0_shownBy (r : Nat) (c : mC) : (Int32) := (if (c r 2) = 0 then (J_X0_shownBy_15 r c) else (if (c r 2) = 1 then (J_X0_shownBy_15 r c) else 0))
theorem rr_X0_shownBy (d : Nat) {X : mX} {g : mG} {i r : Nat} (h_r : r = 8 ∨ r = 9) {c : mC} : mCall mD X (d + 2) 14 [mr i 0, mr i r] (mU g i c) = (wI g i c) (P_X0_shownBy r c) := by
  refine Eq.trans (mCall_eq (d := d + 1) rfl) ?_
  show mEv X (mCall mD X (d + 1)) 1 t_X0_shownBy (mDrop t_X0_shownBy 0) [some (mr i 0), some (mr i r)] [] (mU g i c) = _
  refine Eq.trans (e_X0_shownBy_0 h_r) ?_
  try simp only [mU_same, mU_mU]
  refine mw_ite (fun h2 => ?_) (fun h2 => ?_)
  · exact rj_X0_shownBy_15 d h_r
  · refine Eq.trans (e_X0_shownBy_7 h_r) ?_
    try simp only [mU_same, mU_mU]
    refine mw_ite (fun h1 => ?_) (fun h1 => ?_)
    · exact rj_X0_shownBy_15 d h_r
    · refine Eq.trans (e_X0_shownBy_25 h_r) ?_
      try simp only [mU_same, mU_mU]
      refine Eq.trans (e_X0_shownBy_26 h_r) ?_
      try simp only [mU_same, mU_mU]
      all_goals rfl
theorem rr_X0_shownBy_at (d : Nat) {X : mX} {g : mG} {i r : Nat} (h_r : r = 8 ∨ r = 9) : mCall mD X (d + 2) 14 [mr i 0, mr i r] g = wN g (P_X0_shownBy r (g i)) := by
  have h := rr_X0_shownBy (X := X) d (g := g) (c := g i) h_r (i := i)
  rw [mU_self] at h
  exact h.trans (wI_self _ _ _)
theorem e_X0_shownSet_0 {X : mX} {call : Nat → List mV → mG → mR} {g : mG} {i : Nat} : mEv X call 1 t_X0_shownSet (mDrop t_X0_shownSet 0) [some (mr i 0)] [] g = mAns (mEv X call 1 t_X0_shownSet) (mDrop t_X0_shownSet 12) [some (mr i 0)] [mi (g i 0 10)] (call 14 [mr i 0, mr i 8] g) := (mEv_6 _ _ _ _).trans rfl
theorem e_X0_shownSet_12 {X : mX} {call : Nat → List mV → mG → mR} {g : mG} {s0 s1 : Int32} {i : Nat} : mEv X call 1 t_X0_shownSet (mDrop t_X0_shownSet 12) [some (mr i 0)] [mi s1, mi s0] g = mAns (mEv X call 1 t_X0_shownSet) (mDrop t_X0_shownSet 21) [some (mr i 0)] [mi (s0 ||| s1)] (call 14 [mr i 0, mr i 9] g) := (mEv_5 _ _ _ _).trans rfl
theorem e_X0_shownSet_21 {X : mX} {call : Nat → List mV → mG → mR} {g : mG} {s0 s1 : Int32} {i : Nat} : mEv X call 1 t_X0_shownSet (mDrop t_X0_shownSet 21) [some (mr i 0)] [mi s1, mi s0] g = some (some (mi (s0 ||| s1)), g) := (mEv_2 _ _ _ _).trans rfl
noncomputable def P_X0_shownSet (c : mC) : (Int32) := (mBd (α := Int32) (P_X0_shownBy 8 c) (fun v1 => (mBd (α := Int32) (P_X0_shownBy 9 c) (fun v2 => (((c 0 10) ||| v1) ||| v2)))))
theorem rr_X0_shownSet (d : Nat) {X : mX} {g : mG} {i : Nat} {c : mC} : mCall mD X (d + 3) 13 [mr i 0] (mU g i c) = (wI g i c) (P_X0_shownSet c) := by
  refine Eq.trans (mCall_eq (d := d + 2) rfl) ?_
  show mEv X (mCall mD X (d + 2)) 1 t_X0_shownSet (mDrop t_X0_shownSet 0) [some (mr i 0)] [] (mU g i c) = _
  refine Eq.trans (e_X0_shownSet_0) ?_
  try simp only [mU_same, mU_mU]
  refine mw_cI (rr_X0_shownBy d (Or.inl rfl)) (fun v1 => ?_)
  refine Eq.trans (e_X0_shownSet_12) ?_
  try simp only [mU_same, mU_mU]
  refine mw_cI (rr_X0_shownBy d (Or.inr rfl)) (fun v2 => ?_)
  refine Eq.trans (e_X0_shownSet_21) ?_
  try simp only [mU_same, mU_mU]
  all_goals rfl
theorem rr_X0_shownSet_at (d : Nat) {X : mX} {g : mG} {i : Nat} : mCall mD X (d + 3) 13 [mr i 0] g = wN g (P_X0_shownSet (g i)) := by
  have h := rr_X0_shownSet (X := X) d (g := g) (c := g i) (i := i)
  rw [mU_self] at h
  exact h.trans (wI_self _ _ _)
theorem e_X0_aheadOfClock_0 {X : mX} {call : Nat → List mV → mG → mR} {g : mG} {i : Nat} : mEv X call 1 t_X0_aheadOfClock (mDrop t_X0_aheadOfClock 0) [some (mr i 0), none, none] [] g = if 0 < (g i 1 1) then mEv X call 1 t_X0_aheadOfClock (mDrop t_X0_aheadOfClock 14) [some (mr i 0), some (mi (g i 1 1)), none] [] g else mEv X call 1 t_X0_aheadOfClock (mDrop t_X0_aheadOfClock 12) [some (mr i 0), some (mi (g i 1 1)), none] [] g := (mEv_6 _ _ _ _).trans rfl
theorem e_X0_aheadOfClock_14 {X : mX} {call : Nat → List mV → mG → mR} {g : mG} {x1 : Int32} {i : Nat} : mEv X call 1 t_X0_aheadOfClock (mDrop t_X0_aheadOfClock 14) [some (mr i 0), some (mi x1), none] [] g = mAns (mEv X call 1 t_X0_aheadOfClock) (mDrop t_X0_aheadOfClock 30) [some (mr i 0), some (mi x1), none] [] (call 276 [mi ((g i 0 12) - (g i 1 2)), mi x1] g) := (mEv_8 _ _ _ _).trans rfl
theorem e_X0_aheadOfClock_30 {X : mX} {call : Nat → List mV → mG → mR} {g : mG} {x1 s0 : Int32} {i : Nat} : mEv X call 1 t_X0_aheadOfClock (mDrop t_X0_aheadOfClock 30) [some (mr i 0), some (mi x1), none] [mi s0] g = mAns (mEv X call 1 t_X0_aheadOfClock) (mDrop t_X0_aheadOfClock 41) [some (mr i 0), some (mi x1), some (mi s0)] [] (call 276 [mi (s0 - (g i 0 13)), mi x1] g) := (mEv_7 _ _ _ _).trans rfl
theorem e_X0_aheadOfClock_41 {X : mX} {call : Nat → List mV → mG → mR} {g : mG} {x1 x2 s0 : Int32} {i : Nat} : mEv X call 1 t_X0_aheadOfClock (mDrop t_X0_aheadOfClock 41) [some (mr i 0), some (mi x1), some (mi x2)] [mi s0] g = some (some (mi s0), g) := (mEv_1 _ _ _ _).trans rfl
theorem e_X0_aheadOfClock_12 {X : mX} {call : Nat → List mV → mG → mR} {g : mG} {x1 : Int32} {i : Nat} : mEv X call 1 t_X0_aheadOfClock (mDrop t_X0_aheadOfClock 12) [some (mr i 0), some (mi x1), none] [] g = some (some (mi 0), g) := (mEv_2 _ _ _ _).trans rfl
noncomputable def P_X0_aheadOfClock (c : mC) : (Int32) := (if 0 < (c 1 1) then (mBd (α := Int32) (mFm ((c 0 12) - (c 1 2)) (c 1 1)) (fun v1 => (mBd (α := Int32) (mFm (v1 - (c 0 13)) (c 1 1)) (fun v2 => v2)))) else 0)
theorem rr_X0_aheadOfClock (d : Nat) {X : mX} {g : mG} {i : Nat} {c : mC} : mCall mD X (d + 2) 24 [mr i 0] (mU g i c) = (wI g i c) (P_X0_aheadOfClock c) := by
  refine Eq.trans (mCall_eq (d := d + 1) rfl) ?_
  show mEv X (mCall mD X (d + 1)) 1 t_X0_aheadOfClock (mDrop t_X0_aheadOfClock 0) [some (mr i 0), none, none] [] (mU g i c) = _
  refine Eq.trans (e_X0_aheadOfClock_0) ?_
  try simp only [mU_same, mU_mU]
  refine mw_ite (fun h3 => ?_) (fun h3 => ?_)
  · refine Eq.trans (e_X0_aheadOfClock_14) ?_
    try simp only [mU_same, mU_mU]
    refine mw_cI (rr_J9_floorMod_7cf53 d (by first | decide | exact mne_pos (by assumption) | exact mne_pos2 (by assumption))) (fun v1 => ?_)
    refine Eq.trans (e_X0_aheadOfClock_30) ?_
    try simp only [mU_same, mU_mU]
    refine mw_cI (rr_J9_floorMod_7cf53 d (by first | decide | exact mne_pos (by assumption) | exact mne_pos2 (by assumption))) (fun v2 => ?_)
    refine Eq.trans (e_X0_aheadOfClock_41) ?_
    try simp only [mU_same, mU_mU]
    all_goals rfl
  · refine Eq.trans (e_X0_aheadOfClock_12) ?_
    try simp only [mU_same, mU_mU]
    all_goals rfl
theorem rr_X0_aheadOfClock_at (d : Nat) {X : mX} {g : mG} {i : Nat} : mCall mD X (d + 2) 24 [mr i 0] g = wN g (P_X0_aheadOfClock (g i)) := by
  have h := rr_X0_aheadOfClock (X := X) d (g := g) (c := g i) (i := i)
  rw [mU_self] at h
  exact h.trans (wI_self _ _ _)
theorem e_X0_hasReached_0 {X : mX} {call : Nat → List mV → mG → mR} {g : mG} {x1 x2 : Int32} {i : Nat} : mEv X call 2 t_X0_hasReached (mDrop t_X0_hasReached 0) [some (mr i 0), some (mi x1), some (mi x2)] [] g = if x1 = 2 then mEv X call 2 t_X0_hasReached (mDrop t_X0_hasReached 28) [some (mr i 0), some (mi x1), some (mi x2)] [] g else (if x1 = 3 then mEv X call 2 t_X0_hasReached (mDrop t_X0_hasReached 44) [some (mr i 0), some (mi x1), some (mi x2)] [] g else (if x1 = 4 then mEv X call 2 t_X0_hasReached (mDrop t_X0_hasReached 57) [some (mr i 0), some (mi x1), some (mi x2)] [] g else (mEv X call 2 t_X0_hasReached (mDrop t_X0_hasReached 87) [some (mr i 0), some (mi x1), some (mi x2)] [] g))) := (mEv_2 _ _ _ _).trans rfl
theorem e_X0_hasReached_87 {X : mX} {call : Nat → List mV → mG → mR} {g : mG} {x1 x2 : Int32} {i : Nat} : mEv X call 2 t_X0_hasReached (mDrop t_X0_hasReached 87) [some (mr i 0), some (mi x1), some (mi x2)] [] g = mAns (mEv X call 2 t_X0_hasReached) (mDrop t_X0_hasReached 92) [some (mr i 0), some (mi x1), some (mi x2)] [] (call 6 [mr i 0, mi x2] g) := (mEv_3 _ _ _ _).trans rfl
theorem e_X0_hasReached_92 {X : mX} {call : Nat → List mV → mG → mR} {g : mG} {x1 x2 s0 : Int32} {i : Nat} : mEv X call 2 t_X0_hasReached (mDrop t_X0_hasReached 92) [some (mr i 0), some (mi x1), some (mi x2)] [mi s0] g = if (s0 : Int32) &&& 1 = s0 then some (some (mi s0), g) else none := (mEv_1 _ _ _ _).trans rfl
theorem e_X0_hasReached_28 {X : mX} {call : Nat → List mV → mG → mR} {g : mG} {x1 x2 : Int32} {i : Nat} : mEv X call 2 t_X0_hasReached (mDrop t_X0_hasReached 28) [some (mr i 0), some (mi x1), some (mi x2)] [] g = mAns (mEv X call 2 t_X0_hasReached) (mDrop t_X0_hasReached 35) [some (mr i 0), some (mi x1), some (mi x2)] [] (call 146 [mr i 14] g) := (mEv_3 _ _ _ _).trans rfl
theorem e_X0_hasReached_35 {X : mX} {call : Nat → List mV → mG → mR} {g : mG} {x1 x2 s0 : Int32} {i : Nat} : mEv X call 2 t_X0_hasReached (mDrop t_X0_hasReached 35) [some (mr i 0), some (mi x1), some (mi x2)] [mi s0] g = if s0 = 0 then mEv X call 2 t_X0_hasReached (mDrop t_X0_hasReached 38) [some (mr i 0), some (mi x1), some (mi x2)] [] g else mEv X call 2 t_X0_hasReached (mDrop t_X0_hasReached 42) [some (mr i 0), some (mi x1), some (mi x2)] [] g := (mEv_1 _ _ _ _).trans rfl
theorem e_X0_hasReached_38 {X : mX} {call : Nat → List mV → mG → mR} {g : mG} {x1 x2 : Int32} {i : Nat} : mEv X call 2 t_X0_hasReached (mDrop t_X0_hasReached 38) [some (mr i 0), some (mi x1), some (mi x2)] [] g = mEv X call 2 t_X0_hasReached (mDrop t_X0_hasReached 43) [some (mr i 0), some (mi x1), some (mi x2)] [mi 1] g := (mEv_2 _ _ _ _).trans rfl
theorem e_X0_hasReached_43 {X : mX} {call : Nat → List mV → mG → mR} {g : mG} {x1 x2 s0 : Int32} {i : Nat} : mEv X call 2 t_X0_hasReached (mDrop t_X0_hasReached 43) [some (mr i 0), some (mi x1), some (mi x2)] [mi s0] g = if (s0 : Int32) &&& 1 = s0 then some (some (mi s0), g) else none := (mEv_1 _ _ _ _).trans rfl
theorem e_X0_hasReached_42 {X : mX} {call : Nat → List mV → mG → mR} {g : mG} {x1 x2 : Int32} {i : Nat} : mEv X call 2 t_X0_hasReached (mDrop t_X0_hasReached 42) [some (mr i 0), some (mi x1), some (mi x2)] [] g = mEv X call 2 t_X0_hasReached (mDrop t_X0_hasReached 43) [some (mr i 0), some (mi x1), some (mi x2)] [mi 0] g := (mEv_1 _ _ _ _).trans rfl
theorem e_X0_hasReached_44 {X : mX} {call : Nat → List mV → mG → mR} {g : mG} {x1 x2 : Int32} {i : Nat} : mEv X call 2 t_X0_hasReached (mDrop t_X0_hasReached 44) [some (mr i 0), some (mi x1), some (mi x2)] [] g = mAns (mEv X call 2 t_X0_hasReached) (mDrop t_X0_hasReached 48) [some (mr i 0), some (mi x1), some (mi x2)] [] (call 24 [mr i 0] g) := (mEv_2 _ _ _ _).trans rfl
theorem e_X0_hasReached_48 {X : mX} {call : Nat → List mV → mG → mR} {g : mG} {x1 x2 s0 : Int32} {i : Nat} : mEv X call 2 t_X0_hasReached (mDrop t_X0_hasReached 48) [some (mr i 0), some (mi x1), some (mi x2)] [mi s0] g = if s0 = 0 then mEv X call 2 t_X0_hasReached (mDrop t_X0_hasReached 51) [some (mr i 0), some (mi x1), some (mi x2)] [] g else mEv X call 2 t_X0_hasReached (mDrop t_X0_hasReached 55) [some (mr i 0), some (mi x1), some (mi x2)] [] g := (mEv_1 _ _ _ _).trans rfl
theorem e_X0_hasReached_51 {X : mX} {call : Nat → List mV → mG → mR} {g : mG} {x1 x2 : Int32} {i : Nat} : mEv X call 2 t_X0_hasReached (mDrop t_X0_hasReached 51) [some (mr i 0), some (mi x1), some (mi x2)] [] g = mEv X call 2 t_X0_hasReached (mDrop t_X0_hasReached 56) [some (mr i 0), some (mi x1), some (mi x2)] [mi 1] g := (mEv_2 _ _ _ _).trans rfl
theorem e_X0_hasReached_56 {X : mX} {call : Nat → List mV → mG → mR} {g : mG} {x1 x2 s0 : Int32} {i : Nat} : mEv X call 2 t_X0_hasReached (mDrop t_X0_hasReached 56) [some (mr i 0), some (mi x1), some (mi x2)] [mi s0] g = if (s0 : Int32) &&& 1 = s0 then some (some (mi s0), g) else none := (mEv_1 _ _ _ _).trans rfl
theorem e_X0_hasReached_55 {X : mX} {call : Nat → List mV → mG → mR} {g : mG} {x1 x2 : Int32} {i : Nat} : mEv X call 2 t_X0_hasReached (mDrop t_X0_hasReached 55) [some (mr i 0), some (mi x1), some (mi x2)] [] g = mEv X call 2 t_X0_hasReached (mDrop t_X0_hasReached 56) [some (mr i 0), some (mi x1), some (mi x2)] [mi 0] g := (mEv_1 _ _ _ _).trans rfl
theorem e_X0_hasReached_57 {X : mX} {call : Nat → List mV → mG → mR} {g : mG} {x1 x2 : Int32} {i : Nat} : mEv X call 2 t_X0_hasReached (mDrop t_X0_hasReached 57) [some (mr i 0), some (mi x1), some (mi x2)] [] g = if (g i 0 16) = x2 then mEv X call 2 t_X0_hasReached (mDrop t_X0_hasReached 65) [some (mr i 0), some (mi x1), some (mi x2)] [] g else mEv X call 2 t_X0_hasReached (mDrop t_X0_hasReached 85) [some (mr i 0), some (mi x1), some (mi x2)] [] g := (mEv_4 _ _ _ _).trans rfl
theorem e_X0_hasReached_65 {X : mX} {call : Nat → List mV → mG → mR} {g : mG} {x1 x2 : Int32} {i : Nat} : mEv X call 2 t_X0_hasReached (mDrop t_X0_hasReached 65) [some (mr i 0), some (mi x1), some (mi x2)] [] g = if (g i 0 17) = 2 then mEv X call 2 t_X0_hasReached (mDrop t_X0_hasReached 81) [some (mr i 0), some (mi x1), some (mi x2)] [] g else mEv X call 2 t_X0_hasReached (mDrop t_X0_hasReached 73) [some (mr i 0), some (mi x1), some (mi x2)] [] g := (mEv_4 _ _ _ _).trans rfl
theorem e_X0_hasReached_81 {X : mX} {call : Nat → List mV → mG → mR} {g : mG} {x1 x2 : Int32} {i : Nat} : mEv X call 2 t_X0_hasReached (mDrop t_X0_hasReached 81) [some (mr i 0), some (mi x1), some (mi x2)] [] g = mEv X call 2 t_X0_hasReached (mDrop t_X0_hasReached 86) [some (mr i 0), some (mi x1), some (mi x2)] [mi 1] g := (mEv_2 _ _ _ _).trans rfl
theorem e_X0_hasReached_86 {X : mX} {call : Nat → List mV → mG → mR} {g : mG} {x1 x2 s0 : Int32} {i : Nat} : mEv X call 2 t_X0_hasReached (mDrop t_X0_hasReached 86) [some (mr i 0), some (mi x1), some (mi x2)] [mi s0] g = if (s0 : Int32) &&& 1 = s0 then some (some (mi s0), g) else none := (mEv_1 _ _ _ _).trans rfl
noncomputable def J_X0_hasReached_81 (c : mC) : (Int32) := 1
theorem rj_X0_hasReached_81 (d : Nat) {X : mX} {g : mG} {i : Nat} {x1 x2 : Int32} {c : mC} : mEv X (mCall mD X (d + 2)) 2 t_X0_hasReached (mDrop t_X0_hasReached 81) [some (mr i 0), some (mi x1), some (mi x2)] [] (mU g i c) = (wI g i c) (J_X0_hasReached_81 c) := by
  refine Eq.trans (e_X0_hasReached_81) ?_
  try simp only [mU_same, mU_mU]
  refine Eq.trans (e_X0_hasReached_86) ?_
  try simp only [mU_same, mU_mU]
  exact if_pos (by decide)
theorem e_X0_hasReached_73 {X : mX} {call : Nat → List mV → mG → mR} {g : mG} {x1 x2 : Int32} {i : Nat} : mEv X call 2 t_X0_hasReached (mDrop t_X0_hasReached 73) [some (mr i 0), some (mi x1), some (mi x2)] [] g = if (g i 0 17) = 4 then mEv X call 2 t_X0_hasReached (mDrop t_X0_hasReached 81) [some (mr i 0), some (mi x1), some (mi x2)] [] g else mEv X call 2 t_X0_hasReached (mDrop t_X0_hasReached 85) [some (mr i 0), some (mi x1), some (mi x2)] [] g := (mEv_4 _ _ _ _).trans rfl
theorem e_X0_hasReached_85 {X : mX} {call : Nat → List mV → mG → mR} {g : mG} {x1 x2 : Int32} {i : Nat} : mEv X call 2 t_X0_hasReached (mDrop t_X0_hasReached 85) [some (mr i 0), some (mi x1), some (mi x2)] [] g = mEv X call 2 t_X0_hasReached (mDrop t_X0_hasReached 86) [some (mr i 0), some (mi x1), some (mi x2)] [mi 0] g := (mEv_1 _ _ _ _).trans rfl
noncomputable def J_X0_hasReached_85 (c : mC) : (Int32) := 0
theorem rj_X0_hasReached_85 (d : Nat) {X : mX} {g : mG} {i : Nat} {x1 x2 : Int32} {c : mC} : mEv X (mCall mD X (d + 2)) 2 t_X0_hasReached (mDrop t_X0_hasReached 85) [some (mr i 0), some (mi x1), some (mi x2)] [] (mU g i c) = (wI g i c) (J_X0_hasReached_85 c) := by
  refine Eq.trans (e_X0_hasReached_85) ?_
  try simp only [mU_same, mU_mU]
  refine Eq.trans (e_X0_hasReached_86) ?_
  try simp only [mU_same, mU_mU]
  exact if_pos (by decide)
noncomputable def P_X0_hasReached (c : mC) (x1 : Int32) (x2 : Int32) : (Int32) := (if x1 = 2 then (mBd (α := Int32) (mTt 8 (c 14)) (fun v2 => (if v2 = 0 then 1 else 0))) else (if x1 = 3 then (mBd (α := Int32) (P_X0_aheadOfClock c) (fun v4 => (if v4 = 0 then 1 else 0))) else (if x1 = 4 then (if (c 0 16) = x2 then (if (c 0 17) = 2 then (J_X0_hasReached_81 c) else (if (c 0 17) = 4 then (J_X0_hasReached_81 c) else (J_X0_hasReached_85 c))) else (J_X0_hasReached_85 c)) else (mBd (α := Int32) (P_X0_isGreenAt c x2) (fun v1 => v1)))))
theorem rr_X0_hasReached (d : Nat) {X : mX} {g : mG} {i : Nat} {x1 x2 : Int32} {c : mC} : mCall mD X (d + 3) 15 [mr i 0, mi x1, mi x2] (mU g i c) = (wI g i c) (P_X0_hasReached c x1 x2) := by
  refine Eq.trans (mCall_eq (d := d + 2) rfl) ?_
  show mEv X (mCall mD X (d + 2)) 2 t_X0_hasReached (mDrop t_X0_hasReached 0) [some (mr i 0), some (mi x1), some (mi x2)] [] (mU g i c) = _
  refine Eq.trans (e_X0_hasReached_0) ?_
  try simp only [mU_same, mU_mU]
  refine mw_ite (fun _ => ?_) (fun _ => ?_)
  · refine Eq.trans (e_X0_hasReached_28) ?_
    try simp only [mU_same, mU_mU]
    refine mw_cI (rr_X5_total_14 (d + 1)) (fun v2 => ?_)
    refine Eq.trans (e_X0_hasReached_35) ?_
    try simp only [mU_same, mU_mU]
    refine mw_ite (fun h3 => ?_) (fun h3 => ?_)
    · refine Eq.trans (e_X0_hasReached_38) ?_
      try simp only [mU_same, mU_mU]
      refine Eq.trans (e_X0_hasReached_43) ?_
      try simp only [mU_same, mU_mU]
      exact if_pos (by decide)
    · refine Eq.trans (e_X0_hasReached_42) ?_
      try simp only [mU_same, mU_mU]
      refine Eq.trans (e_X0_hasReached_43) ?_
      try simp only [mU_same, mU_mU]
      exact if_pos (by decide)
  · refine mw_ite (fun _ => ?_) (fun _ => ?_)
    · refine Eq.trans (e_X0_hasReached_44) ?_
      try simp only [mU_same, mU_mU]
      refine mw_cI (rr_X0_aheadOfClock d) (fun v4 => ?_)
      refine Eq.trans (e_X0_hasReached_48) ?_
      try simp only [mU_same, mU_mU]
      refine mw_ite (fun h5 => ?_) (fun h5 => ?_)
      · refine Eq.trans (e_X0_hasReached_51) ?_
        try simp only [mU_same, mU_mU]
        refine Eq.trans (e_X0_hasReached_56) ?_
        try simp only [mU_same, mU_mU]
        exact if_pos (by decide)
      · refine Eq.trans (e_X0_hasReached_55) ?_
        try simp only [mU_same, mU_mU]
        refine Eq.trans (e_X0_hasReached_56) ?_
        try simp only [mU_same, mU_mU]
        exact if_pos (by decide)
    · refine mw_ite (fun _ => ?_) (fun _ => ?_)
      · refine Eq.trans (e_X0_hasReached_57) ?_
        try simp only [mU_same, mU_mU]
        refine mw_ite (fun h8 => ?_) (fun h8 => ?_)
        · refine Eq.trans (e_X0_hasReached_65) ?_
          try simp only [mU_same, mU_mU]
          refine mw_ite (fun h7 => ?_) (fun h7 => ?_)
          · exact rj_X0_hasReached_81 d
          · refine Eq.trans (e_X0_hasReached_73) ?_
            try simp only [mU_same, mU_mU]
            refine mw_ite (fun h6 => ?_) (fun h6 => ?_)
            · exact rj_X0_hasReached_81 d
            · exact rj_X0_hasReached_85 d
        · exact rj_X0_hasReached_85 d
      · refine Eq.trans (e_X0_hasReached_87) ?_
        try simp only [mU_same, mU_mU]
        refine mw_cZ (rr_X0_isGreenAt d) rfl (fun v1 hv1 => ?_)
        refine Eq.trans (e_X0_hasReached_92) ?_
        try simp only [mU_same, mU_mU]
        exact if_pos hv1
theorem rr_X0_hasReached_at (d : Nat) {X : mX} {g : mG} {i : Nat} {x1 x2 : Int32} : mCall mD X (d + 3) 15 [mr i 0, mi x1, mi x2] g = wN g (P_X0_hasReached (g i) x1 x2) := by
  have h := rr_X0_hasReached (X := X) d (g := g) (c := g i) (x1 := x1) (x2 := x2) (i := i)
  rw [mU_self] at h
  exact h.trans (wI_self _ _ _)
theorem e_X0_putQueue_0 {X : mX} {call : Nat → List mV → mG → mR} {g : mG} {x1 x2 : Int32} {i : Nat} : mEv X call 0 t_X0_putQueue (mDrop t_X0_putQueue 0) [some (mr i 0), some (mi x1), some (mi x2)] [] g = mAns (mEv X call 0 t_X0_putQueue) (mDrop t_X0_putQueue 9) [some (mr i 0), some (mi x1), some (mi x2)] [] (call 143 [mr i 14, mi x1, mi x2] g) := (mEv_5 _ _ _ _).trans rfl
theorem e_X0_putQueue_9 {X : mX} {call : Nat → List mV → mG → mR} {g : mG} {x1 x2 : Int32} {i : Nat} : mEv X call 0 t_X0_putQueue (mDrop t_X0_putQueue 9) [some (mr i 0), some (mi x1), some (mi x2)] [] g = if x2 ≤ 0 then mEv X call 0 t_X0_putQueue (mDrop t_X0_putQueue 23) [some (mr i 0), some (mi x1), some (mi x2)] [mi x1, mi (g i 0 6), mr i 0] g else mEv X call 0 t_X0_putQueue (mDrop t_X0_putQueue 19) [some (mr i 0), some (mi x1), some (mi x2)] [mi x1, mi (g i 0 6), mr i 0] g := (mEv_6 _ _ _ _).trans rfl
theorem e_X0_putQueue_23 {X : mX} {call : Nat → List mV → mG → mR} {g : mG} {x1 x2 s1 s2 : Int32} {i : Nat} : mEv X call 0 t_X0_putQueue (mDrop t_X0_putQueue 23) [some (mr i 0), some (mi x1), some (mi x2)] [mi s2, mi s1, mr i 0] g = mEv X call 0 t_X0_putQueue (mDrop t_X0_putQueue 24) [some (mr i 0), some (mi x1), some (mi x2)] [mi 0, mi s2, mi s1, mr i 0] g := (mEv_1 _ _ _ _).trans rfl
theorem e_X0_putQueue_24 {X : mX} {call : Nat → List mV → mG → mR} {g : mG} {x1 x2 s1 s2 s3 : Int32} {i : Nat} : mEv X call 0 t_X0_putQueue (mDrop t_X0_putQueue 24) [some (mr i 0), some (mi x1), some (mi x2)] [mi s3, mi s2, mi s1, mr i 0] g = mAns (mEv X call 0 t_X0_putQueue) (mDrop t_X0_putQueue 27) [some (mr i 0), some (mi x1), some (mi x2)] [mr i 0] (call 148 [mi s1, mi s2, mi s3] g) := (mEv_1 _ _ _ _).trans rfl
theorem e_X0_putQueue_27 {X : mX} {call : Nat → List mV → mG → mR} {g : mG} {x1 x2 s1 : Int32} {i : Nat} : mEv X call 0 t_X0_putQueue (mDrop t_X0_putQueue 27) [some (mr i 0), some (mi x1), some (mi x2)] [mi s1, mr i 0] g = mEv X call 0 t_X0_putQueue (mDrop t_X0_putQueue 30) [some (mr i 0), some (mi x1), some (mi x2)] [] (mU g i (mP (g i) 0 6 s1)) := (mEv_1 _ _ _ _).trans rfl
theorem e_X0_putQueue_30 {X : mX} {call : Nat → List mV → mG → mR} {g : mG} {x1 x2 : Int32} {i : Nat} : mEv X call 0 t_X0_putQueue (mDrop t_X0_putQueue 30) [some (mr i 0), some (mi x1), some (mi x2)] [] g = some (none, g) := (mEv_1 _ _ _ _).trans rfl
noncomputable def J_X0_putQueue_24 (c : mC) (s1 : Int32) (s2 : Int32) (s3 : Int32) : (mC) := (mBd (α := Int32) (P_X5_withBit s1 s2 s3) (fun v1 => (mP c 0 6 v1)))
theorem rj_X0_putQueue_24 (d : Nat) {X : mX} {g : mG} {i : Nat} {x1 x2 s1 s2 s3 : Int32} {c : mC} : mEv X (mCall mD X (d + 2)) 0 t_X0_putQueue (mDrop t_X0_putQueue 24) [some (mr i 0), some (mi x1), some (mi x2)] [mi s3, mi s2, mi s1, mr i 0] (mU g i c) = (wV g i) (J_X0_putQueue_24 c s1 s2 s3) := by
  refine Eq.trans (e_X0_putQueue_24) ?_
  try simp only [mU_same, mU_mU]
  refine mw_cI (rr_X5_withBit d) (fun v1 => ?_)
  refine Eq.trans (e_X0_putQueue_27) ?_
  try simp only [mU_same, mU_mU]
  refine Eq.trans (e_X0_putQueue_30) ?_
  try simp only [mU_same, mU_mU]
  all_goals rfl
theorem e_X0_putQueue_19 {X : mX} {call : Nat → List mV → mG → mR} {g : mG} {x1 x2 s1 s2 : Int32} {i : Nat} : mEv X call 0 t_X0_putQueue (mDrop t_X0_putQueue 19) [some (mr i 0), some (mi x1), some (mi x2)] [mi s2, mi s1, mr i 0] g = mEv X call 0 t_X0_putQueue (mDrop t_X0_putQueue 24) [some (mr i 0), some (mi x1), some (mi x2)] [mi 1, mi s2, mi s1, mr i 0] g := (mEv_2 _ _ _ _).trans rfl
noncomputable def P_X0_putQueue (c : mC) (x1 : Int32) (x2 : Int32) : (mC) := (mBd (α := mC) (pt 8 c 14 x1 x2) (fun c1 => (if x2 ≤ 0 then (J_X0_putQueue_24 c1 (c1 0 6) x1 0) else (J_X0_putQueue_24 c1 (c1 0 6) x1 1))))
theorem rr_X0_putQueue (d : Nat) {X : mX} {g : mG} {i : Nat} {x1 x2 : Int32} {c : mC} : mCall mD X (d + 3) 16 [mr i 0, mi x1, mi x2] (mU g i c) = (wV g i) (P_X0_putQueue c x1 x2) := by
  refine Eq.trans (mCall_eq (d := d + 2) rfl) ?_
  show mEv X (mCall mD X (d + 2)) 0 t_X0_putQueue (mDrop t_X0_putQueue 0) [some (mr i 0), some (mi x1), some (mi x2)] [] (mU g i c) = _
  refine Eq.trans (e_X0_putQueue_0) ?_
  try simp only [mU_same, mU_mU]
  refine mw_cV (rr_X5_put_14 (d + 1)) (fun c1 => ?_)
  refine Eq.trans (e_X0_putQueue_9) ?_
  try simp only [mU_same, mU_mU]
  refine mw_ite (fun h2 => ?_) (fun h2 => ?_)
  · refine Eq.trans (e_X0_putQueue_23) ?_
    try simp only [mU_same, mU_mU]
    exact rj_X0_putQueue_24 d
  · refine Eq.trans (e_X0_putQueue_19) ?_
    try simp only [mU_same, mU_mU]
    exact rj_X0_putQueue_24 d
theorem rr_X0_putQueue_at (d : Nat) {X : mX} {g : mG} {i : Nat} {x1 x2 : Int32} : mCall mD X (d + 3) 16 [mr i 0, mi x1, mi x2] g = some (none, mU g i (P_X0_putQueue (g i) x1 x2)) := by
  have h := rr_X0_putQueue (X := X) d (g := g) (c := g i) (x1 := x1) (x2 := x2) (i := i)
  rw [mU_self] at h
  exact h
theorem e_X0_takeCall_0 {X : mX} {call : Nat → List mV → mG → mR} {g : mG} {x1 : Int32} {i : Nat} : mEv X call 0 t_X0_takeCall (mDrop t_X0_takeCall 0) [some (mr i 0), some (mi x1)] [] g = mAns (mEv X call 0 t_X0_takeCall) (mDrop t_X0_takeCall 5) [some (mr i 0), some (mi x1)] [] (call 6 [mr i 0, mi x1] g) := (mEv_3 _ _ _ _).trans rfl
theorem e_X0_takeCall_5 {X : mX} {call : Nat → List mV → mG → mR} {g : mG} {x1 s0 : Int32} {i : Nat} : mEv X call 0 t_X0_takeCall (mDrop t_X0_takeCall 5) [some (mr i 0), some (mi x1)] [mi s0] g = if s0 = 0 then mEv X call 0 t_X0_takeCall (mDrop t_X0_takeCall 24) [some (mr i 0), some (mi x1)] [] g else mEv X call 0 t_X0_takeCall (mDrop t_X0_takeCall 8) [some (mr i 0), some (mi x1)] [] g := (mEv_1 _ _ _ _).trans rfl
theorem e_X0_takeCall_24 {X : mX} {call : Nat → List mV → mG → mR} {g : mG} {x1 : Int32} {i : Nat} : mEv X call 0 t_X0_takeCall (mDrop t_X0_takeCall 24) [some (mr i 0), some (mi x1)] [] g = mAns (mEv X call 0 t_X0_takeCall) (mDrop t_X0_takeCall 33) [some (mr i 0), some (mi x1)] [mi (g i 0 7), mr i 0] (call 147 [mi x1] g) := (mEv_5 _ _ _ _).trans rfl
theorem e_X0_takeCall_33 {X : mX} {call : Nat → List mV → mG → mR} {g : mG} {x1 s1 s2 : Int32} {i : Nat} : mEv X call 0 t_X0_takeCall (mDrop t_X0_takeCall 33) [some (mr i 0), some (mi x1)] [mi s2, mi s1, mr i 0] g = mEv X call 0 t_X0_takeCall (mDrop t_X0_takeCall 37) [some (mr i 0), some (mi x1)] [] (mU g i (mP (g i) 0 7 (s1 ||| s2))) := (mEv_2 _ _ _ _).trans rfl
theorem e_X0_takeCall_37 {X : mX} {call : Nat → List mV → mG → mR} {g : mG} {x1 : Int32} {i : Nat} : mEv X call 0 t_X0_takeCall (mDrop t_X0_takeCall 37) [some (mr i 0), some (mi x1)] [] g = some (none, g) := (mEv_1 _ _ _ _).trans rfl
theorem e_X0_takeCall_8 {X : mX} {call : Nat → List mV → mG → mR} {g : mG} {x1 : Int32} {i : Nat} : mEv X call 0 t_X0_takeCall (mDrop t_X0_takeCall 8) [some (mr i 0), some (mi x1)] [] g = mAns (mEv X call 0 t_X0_takeCall) (mDrop t_X0_takeCall 17) [some (mr i 0), some (mi x1)] [mi (g i 0 9), mr i 0] (call 147 [mi x1] g) := (mEv_5 _ _ _ _).trans rfl
theorem e_X0_takeCall_17 {X : mX} {call : Nat → List mV → mG → mR} {g : mG} {x1 s1 s2 : Int32} {i : Nat} : mEv X call 0 t_X0_takeCall (mDrop t_X0_takeCall 17) [some (mr i 0), some (mi x1)] [mi s2, mi s1, mr i 0] g = mEv X call 0 t_X0_takeCall (mDrop t_X0_takeCall 21) [some (mr i 0), some (mi x1)] [] (mU g i (mP (g i) 0 9 (s1 ||| s2))) := (mEv_2 _ _ _ _).trans rfl
theorem e_X0_takeCall_21 {X : mX} {call : Nat → List mV → mG → mR} {g : mG} {x1 : Int32} {i : Nat} : mEv X call 0 t_X0_takeCall (mDrop t_X0_takeCall 21) [some (mr i 0), some (mi x1)] [] g = mEv X call 0 t_X0_takeCall (mDrop t_X0_takeCall 37) [some (mr i 0), some (mi x1)] [] g := (mEv_1 _ _ _ _).trans rfl
noncomputable def P_X0_takeCall (c : mC) (x1 : Int32) : (mC) := (mBd (α := Int32) (P_X0_isGreenAt c x1) (fun v1 => (if v1 = 0 then (mBd (α := Int32) (P_X5_bit x1) (fun v2 => (mP c 0 7 ((c 0 7) ||| v2)))) else (mBd (α := Int32) (P_X5_bit x1) (fun v3 => (mP c 0 9 ((c 0 9) ||| v3)))))))
theorem rr_X0_takeCall (d : Nat) {X : mX} {g : mG} {i : Nat} {x1 : Int32} {c : mC} : mCall mD X (d + 3) 17 [mr i 0, mi x1] (mU g i c) = (wV g i) (P_X0_takeCall c x1) := by
  refine Eq.trans (mCall_eq (d := d + 2) rfl) ?_
  show mEv X (mCall mD X (d + 2)) 0 t_X0_takeCall (mDrop t_X0_takeCall 0) [some (mr i 0), some (mi x1)] [] (mU g i c) = _
  refine Eq.trans (e_X0_takeCall_0) ?_
  try simp only [mU_same, mU_mU]
  refine mw_cZ (rr_X0_isGreenAt d) rfl (fun v1 hv1 => ?_)
  refine Eq.trans (e_X0_takeCall_5) ?_
  try simp only [mU_same, mU_mU]
  refine mw_ite (fun h4 => ?_) (fun h4 => ?_)
  · refine Eq.trans (e_X0_takeCall_24) ?_
    try simp only [mU_same, mU_mU]
    refine mw_cI (rr_X5_bit (d + 1)) (fun v2 => ?_)
    refine Eq.trans (e_X0_takeCall_33) ?_
    try simp only [mU_same, mU_mU]
    refine Eq.trans (e_X0_takeCall_37) ?_
    try simp only [mU_same, mU_mU]
    all_goals rfl
  · refine Eq.trans (e_X0_takeCall_8) ?_
    try simp only [mU_same, mU_mU]
    refine mw_cI (rr_X5_bit (d + 1)) (fun v3 => ?_)
    refine Eq.trans (e_X0_takeCall_17) ?_
    try simp only [mU_same, mU_mU]
    refine Eq.trans (e_X0_takeCall_21) ?_
    try simp only [mU_same, mU_mU]
    refine Eq.trans (e_X0_takeCall_37) ?_
    try simp only [mU_same, mU_mU]
    all_goals rfl
theorem rr_X0_takeCall_at (d : Nat) {X : mX} {g : mG} {i : Nat} {x1 : Int32} : mCall mD X (d + 3) 17 [mr i 0, mi x1] g = some (none, mU g i (P_X0_takeCall (g i) x1)) := by
  have h := rr_X0_takeCall (X := X) d (g := g) (c := g i) (x1 := x1) (i := i)
  rw [mU_self] at h
  exact h
theorem e_X0_callOthers_0 {X : mX} {call : Nat → List mV → mG → mR} {g : mG} {x1 : Int32} {i : Nat} : mEv X call 0 t_X0_callOthers (mDrop t_X0_callOthers 0) [some (mr i 0), some (mi x1), none] [] g = mEv X call 0 t_X0_callOthers (mDrop t_X0_callOthers 2) [some (mr i 0), some (mi x1), some (mi 0)] [] g := (mEv_2 _ _ _ _).trans rfl
theorem e_X0_callOthers_2 {X : mX} {call : Nat → List mV → mG → mR} {g : mG} {x1 x2 : Int32} {i : Nat} : mEv X call 0 t_X0_callOthers (mDrop t_X0_callOthers 2) [some (mr i 0), some (mi x1), some (mi x2)] [] g = if (g i 1 0) ≤ x2 then mEv X call 0 t_X0_callOthers (mDrop t_X0_callOthers 29) [some (mr i 0), some (mi x1), some (mi x2)] [] g else mEv X call 0 t_X0_callOthers (mDrop t_X0_callOthers 13) [some (mr i 0), some (mi x1), some (mi x2)] [] g := (mEv_5 _ _ _ _).trans rfl
theorem e_X0_callOthers_29 {X : mX} {call : Nat → List mV → mG → mR} {g : mG} {x1 x2 : Int32} {i : Nat} : mEv X call 0 t_X0_callOthers (mDrop t_X0_callOthers 29) [some (mr i 0), some (mi x1), some (mi x2)] [] g = some (none, g) := (mEv_1 _ _ _ _).trans rfl
theorem e_X0_callOthers_13 {X : mX} {call : Nat → List mV → mG → mR} {g : mG} {x1 x2 : Int32} {i : Nat} : mEv X call 0 t_X0_callOthers (mDrop t_X0_callOthers 13) [some (mr i 0), some (mi x1), some (mi x2)] [] g = if x2 = x1 then mEv X call 0 t_X0_callOthers (mDrop t_X0_callOthers 23) [some (mr i 0), some (mi x1), some (mi x2)] [] g else mEv X call 0 t_X0_callOthers (mDrop t_X0_callOthers 18) [some (mr i 0), some (mi x1), some (mi x2)] [] g := (mEv_3 _ _ _ _).trans rfl
theorem e_X0_callOthers_23 {X : mX} {call : Nat → List mV → mG → mR} {g : mG} {x1 x2 : Int32} {i : Nat} : mEv X call 0 t_X0_callOthers (mDrop t_X0_callOthers 23) [some (mr i 0), some (mi x1), some (mi x2)] [] g = mEv X call 0 t_X0_callOthers (mDrop t_X0_callOthers 2) [some (mr i 0), some (mi x1), some (mi (x2 + 1))] [] g := (mEv_2 _ _ _ _).trans rfl
noncomputable def J_X0_callOthers_23 (c : mC) (x1 : Int32) (x2 : Int32) : ((Int32 × mC) ⊕ (mC)) := (.inl ((x2 + 1), c))
theorem rj_X0_callOthers_23 (d : Nat) {X : mX} {g : mG} {i : Nat} {x1 x2 : Int32} {c : mC} : mEv X (mCall mD X (d + 3)) 0 t_X0_callOthers (mDrop t_X0_callOthers 23) [some (mr i 0), some (mi x1), some (mi x2)] [] (mU g i c) = (wB (fun s : (Int32 × mC) => match s with | (x2, c) => mEv X (mCall mD X (d + 3)) 0 t_X0_callOthers (mDrop t_X0_callOthers 2) [some (mr i 0), some (mi x1), some (mi x2)] [] (mU g i c)) (wV g i)) (J_X0_callOthers_23 c x1 x2) := by
  refine Eq.trans (e_X0_callOthers_23) ?_
  try simp only [mU_same, mU_mU]
  exact mw_inl rfl
theorem e_X0_callOthers_18 {X : mX} {call : Nat → List mV → mG → mR} {g : mG} {x1 x2 : Int32} {i : Nat} : mEv X call 0 t_X0_callOthers (mDrop t_X0_callOthers 18) [some (mr i 0), some (mi x1), some (mi x2)] [] g = mAns (mEv X call 0 t_X0_callOthers) (mDrop t_X0_callOthers 23) [some (mr i 0), some (mi x1), some (mi x2)] [] (call 17 [mr i 0, mi x2] g) := (mEv_3 _ _ _ _).trans rfl
noncomputable def B_X0_callOthers_2 (x1 : Int32) : (Int32 × mC) → (Int32 × mC) ⊕ (mC) := fun s => match s with | (x2, c) => (if (c 1 0) ≤ x2 then (.inr c) else (if x2 = x1 then (J_X0_callOthers_23 c x1 x2) else (mBd (α := mC) (P_X0_takeCall c x2) (fun c1 => (J_X0_callOthers_23 c1 x1 x2)))))
set_option maxRecDepth 100000 in
theorem tm_X0_callOthers_2 {x1 : Int32} : mTm (B_X0_callOthers_2 x1) := by
  refine ⟨fun s => match s with | (x2, c) => (((c 1 0) : Int32).toInt - (x2 : Int32).toInt).toNat, fun s s2 h => ?_⟩
  obtain ⟨x2, c⟩ := s
  have pk : ∀ x : Int32, P_X0_takeCall c x 1 0 = c 1 0 := by
    intro x
    simp only [P_X0_takeCall, mBd]
    split <;> rfl
  simp only [B_X0_callOthers_2, mBd] at h
  (repeat' split at h) <;> first | (have h2 := Sum.inl.inj h; subst h2; dsimp only; (try rw [pk]); exact mtm_up (by assumption)) | (cases h; done)
theorem rl_X0_callOthers_2 (d : Nat) {X : mX} {g : mG} {i : Nat} {x1 x2 : Int32} {c : mC} : mEv X (mCall mD X (d + 3)) 0 t_X0_callOthers (mDrop t_X0_callOthers 2) [some (mr i 0), some (mi x1), some (mi x2)] [] (mU g i c) = (wV g i) (mWh (fun _ _ => 0) (B_X0_callOthers_2 x1) (x2, c)) := by
  refine mWh_ev (B := (B_X0_callOthers_2 x1)) (ev := fun s : (Int32 × mC) => match s with | (x2, c) => mEv X (mCall mD X (d + 3)) 0 t_X0_callOthers (mDrop t_X0_callOthers 2) [some (mr i 0), some (mi x1), some (mi x2)] [] (mU g i c)) (w := (wV g i)) (tm_X0_callOthers_2) ?_ (x2, c)
  rintro ⟨x2, c⟩
  show mEv X (mCall mD X (d + 3)) 0 t_X0_callOthers (mDrop t_X0_callOthers 2) [some (mr i 0), some (mi x1), some (mi x2)] [] (mU g i c) = wB (fun s : (Int32 × mC) => match s with | (x2, c) => mEv X (mCall mD X (d + 3)) 0 t_X0_callOthers (mDrop t_X0_callOthers 2) [some (mr i 0), some (mi x1), some (mi x2)] [] (mU g i c)) (wV g i) (B_X0_callOthers_2 x1 (x2, c))
  refine Eq.trans (e_X0_callOthers_2) ?_
  try simp only [mU_same, mU_mU]
  refine mw_ite (fun h3 => ?_) (fun h3 => ?_)
  · refine mw_inr ?_
    refine Eq.trans (e_X0_callOthers_29) ?_
    try simp only [mU_same, mU_mU]
    all_goals rfl
  · refine Eq.trans (e_X0_callOthers_13) ?_
    try simp only [mU_same, mU_mU]
    refine mw_ite (fun h2 => ?_) (fun h2 => ?_)
    · exact rj_X0_callOthers_23 d
    · refine Eq.trans (e_X0_callOthers_18) ?_
      try simp only [mU_same, mU_mU]
      refine mw_cV (rr_X0_takeCall d) (fun c1 => ?_)
      exact rj_X0_callOthers_23 d
noncomputable def P_X0_callOthers (c : mC) (x1 : Int32) : (mC) := (mWh (fun _ _ => 0) (B_X0_callOthers_2 x1) (0, c))
theorem rr_X0_callOthers (d : Nat) {X : mX} {g : mG} {i : Nat} {x1 : Int32} {c : mC} : mCall mD X (d + 4) 18 [mr i 0, mi x1] (mU g i c) = (wV g i) (P_X0_callOthers c x1) := by
  refine Eq.trans (mCall_eq (d := d + 3) rfl) ?_
  show mEv X (mCall mD X (d + 3)) 0 t_X0_callOthers (mDrop t_X0_callOthers 0) [some (mr i 0), some (mi x1), none] [] (mU g i c) = _
  refine Eq.trans (e_X0_callOthers_0) ?_
  try simp only [mU_same, mU_mU]
  exact rl_X0_callOthers_2 d
theorem rr_X0_callOthers_at (d : Nat) {X : mX} {g : mG} {i : Nat} {x1 : Int32} : mCall mD X (d + 4) 18 [mr i 0, mi x1] g = some (none, mU g i (P_X0_callOthers (g i) x1)) := by
  have h := rr_X0_callOthers (X := X) d (g := g) (c := g i) (x1 := x1) (i := i)
  rw [mU_self] at h
  exact h
theorem e_X0_takeCycle_0 {X : mX} {call : Nat → List mV → mG → mR} {g : mG} {x1 : Int32} {i : Nat} : mEv X call 0 t_X0_takeCycle (mDrop t_X0_takeCycle 0) [some (mr i 0), some (mi x1)] [] g = mEv X call 0 t_X0_takeCycle (mDrop t_X0_takeCycle 8) [some (mr i 0), some (mi x1)] [] (mU g i (mP (g i) 1 1 x1)) := (mEv_4 _ _ _ _).trans rfl
theorem e_X0_takeCycle_8 {X : mX} {call : Nat → List mV → mG → mR} {g : mG} {x1 : Int32} {i : Nat} : mEv X call 0 t_X0_takeCycle (mDrop t_X0_takeCycle 8) [some (mr i 0), some (mi x1)] [] g = if x1 ≤ 0 then mEv X call 0 t_X0_takeCycle (mDrop t_X0_takeCycle 24) [some (mr i 0), some (mi x1)] [mr i 0] g else mEv X call 0 t_X0_takeCycle (mDrop t_X0_takeCycle 13) [some (mr i 0), some (mi x1)] [mr i 0] g := (mEv_3 _ _ _ _).trans rfl
theorem e_X0_takeCycle_24 {X : mX} {call : Nat → List mV → mG → mR} {g : mG} {x1 : Int32} {i : Nat} : mEv X call 0 t_X0_takeCycle (mDrop t_X0_takeCycle 24) [some (mr i 0), some (mi x1)] [mr i 0] g = mEv X call 0 t_X0_takeCycle (mDrop t_X0_takeCycle 25) [some (mr i 0), some (mi x1)] [mi 0, mr i 0] g := (mEv_1 _ _ _ _).trans rfl
theorem e_X0_takeCycle_25 {X : mX} {call : Nat → List mV → mG → mR} {g : mG} {x1 s1 : Int32} {i : Nat} : mEv X call 0 t_X0_takeCycle (mDrop t_X0_takeCycle 25) [some (mr i 0), some (mi x1)] [mi s1, mr i 0] g = mEv X call 0 t_X0_takeCycle (mDrop t_X0_takeCycle 28) [some (mr i 0), some (mi x1)] [] (mU g i (mP (g i) 0 13 s1)) := (mEv_1 _ _ _ _).trans rfl
theorem e_X0_takeCycle_28 {X : mX} {call : Nat → List mV → mG → mR} {g : mG} {x1 : Int32} {i : Nat} : mEv X call 0 t_X0_takeCycle (mDrop t_X0_takeCycle 28) [some (mr i 0), some (mi x1)] [] g = some (none, g) := (mEv_1 _ _ _ _).trans rfl
noncomputable def J_X0_takeCycle_25 (c : mC) (s1 : Int32) : (mC) := (mP c 0 13 s1)
theorem rj_X0_takeCycle_25 (d : Nat) {X : mX} {g : mG} {i : Nat} {x1 s1 : Int32} {c : mC} : mEv X (mCall mD X (d + 1)) 0 t_X0_takeCycle (mDrop t_X0_takeCycle 25) [some (mr i 0), some (mi x1)] [mi s1, mr i 0] (mU g i c) = (wV g i) (J_X0_takeCycle_25 c s1) := by
  refine Eq.trans (e_X0_takeCycle_25) ?_
  try simp only [mU_same, mU_mU]
  refine Eq.trans (e_X0_takeCycle_28) ?_
  try simp only [mU_same, mU_mU]
  all_goals rfl
theorem e_X0_takeCycle_13 {X : mX} {call : Nat → List mV → mG → mR} {g : mG} {x1 : Int32} {i : Nat} : mEv X call 0 t_X0_takeCycle (mDrop t_X0_takeCycle 13) [some (mr i 0), some (mi x1)] [mr i 0] g = mAns (mEv X call 0 t_X0_takeCycle) (mDrop t_X0_takeCycle 21) [some (mr i 0), some (mi x1)] [mr i 0] (call 276 [mi (g i 0 13), mi x1] g) := (mEv_4 _ _ _ _).trans rfl
theorem e_X0_takeCycle_21 {X : mX} {call : Nat → List mV → mG → mR} {g : mG} {x1 s1 : Int32} {i : Nat} : mEv X call 0 t_X0_takeCycle (mDrop t_X0_takeCycle 21) [some (mr i 0), some (mi x1)] [mi s1, mr i 0] g = mEv X call 0 t_X0_takeCycle (mDrop t_X0_takeCycle 25) [some (mr i 0), some (mi x1)] [mi s1, mr i 0] g := (mEv_1 _ _ _ _).trans rfl
noncomputable def P_X0_takeCycle (c : mC) (x1 : Int32) : (mC) := (if x1 ≤ 0 then (J_X0_takeCycle_25 (mP c 1 1 x1) 0) else (mBd (α := Int32) (mFm ((mP c 1 1 x1) 0 13) x1) (fun v1 => (J_X0_takeCycle_25 (mP c 1 1 x1) v1))))
theorem rr_X0_takeCycle (d : Nat) {X : mX} {g : mG} {i : Nat} {x1 : Int32} {c : mC} : mCall mD X (d + 2) 19 [mr i 0, mi x1] (mU g i c) = (wV g i) (P_X0_takeCycle c x1) := by
  refine Eq.trans (mCall_eq (d := d + 1) rfl) ?_
  show mEv X (mCall mD X (d + 1)) 0 t_X0_takeCycle (mDrop t_X0_takeCycle 0) [some (mr i 0), some (mi x1)] [] (mU g i c) = _
  refine Eq.trans (e_X0_takeCycle_0) ?_
  try simp only [mU_same, mU_mU]
  refine Eq.trans (e_X0_takeCycle_8) ?_
  try simp only [mU_same, mU_mU]
  refine mw_ite (fun h2 => ?_) (fun h2 => ?_)
  · refine Eq.trans (e_X0_takeCycle_24) ?_
    try simp only [mU_same, mU_mU]
    exact rj_X0_takeCycle_25 d
  · refine Eq.trans (e_X0_takeCycle_13) ?_
    try simp only [mU_same, mU_mU]
    refine mw_cI (rr_J9_floorMod_7cf53 d (by first | decide | exact mne_pos (by assumption) | exact mne_pos2 (by assumption))) (fun v1 => ?_)
    refine Eq.trans (e_X0_takeCycle_21) ?_
    try simp only [mU_same, mU_mU]
    exact rj_X0_takeCycle_25 d
theorem rr_X0_takeCycle_at (d : Nat) {X : mX} {g : mG} {i : Nat} {x1 : Int32} : mCall mD X (d + 2) 19 [mr i 0, mi x1] g = some (none, mU g i (P_X0_takeCycle (g i) x1)) := by
  have h := rr_X0_takeCycle (X := X) d (g := g) (c := g i) (x1 := x1) (i := i)
  rw [mU_self] at h
  exact h
theorem e_X0_takeComers_0 {X : mX} {call : Nat → List mV → mG → mR} {g : mG} {x1 : Int32} {i : Nat} : mEv X call 1 t_X0_takeComers (mDrop t_X0_takeComers 0) [some (mr i 0), some (mi x1), none, none, none, none] [] g = mEv X call 1 t_X0_takeComers (mDrop t_X0_takeComers 6) [some (mr i 0), some (mi x1), some (ml (x1).toInt64), none, some (mi 0), none] [] g := (mEv_5 _ _ _ _).trans rfl
theorem hk_X0_takeComers_6 {X : mX} {call : Nat → List mV → mG → mR} {g : mG} {x1 x4 : Int32} {x2 : Int64} {k5 : Option mV} {i : Nat} : mEv X call 1 t_X0_takeComers (mDrop t_X0_takeComers 6) [some (mr i 0), some (mi x1), some (ml x2), none, some (mi x4), k5] [] g = mEv X call 1 t_X0_takeComers (mDrop t_X0_takeComers 6) [some (mr i 0), some (mi x1), some (ml x2), none, some (mi x4), none] [] g := Eq.trans (mEv_1 _ _ _ _) (Eq.symm (Eq.trans (mEv_1 _ _ _ _) rfl))
theorem e_X0_takeComers_6 {X : mX} {call : Nat → List mV → mG → mR} {g : mG} {x1 x4 : Int32} {x2 : Int64} {u5 : Option mV} {i : Nat} : mEv X call 1 t_X0_takeComers (mDrop t_X0_takeComers 6) [some (mr i 0), some (mi x1), some (ml x2), none, some (mi x4), u5] [] g = if (g i 1 0) ≤ x4 then mEv X call 1 t_X0_takeComers (mDrop t_X0_takeComers 91) [some (mr i 0), some (mi x1), some (ml x2), none, some (mi x4), none] [] g else mEv X call 1 t_X0_takeComers (mDrop t_X0_takeComers 18) [some (mr i 0), some (mi x1), some (ml x2), none, some (mi x4), none] [] g := (mEv_5 _ _ _ _).trans rfl
theorem e_X0_takeComers_91 {X : mX} {call : Nat → List mV → mG → mR} {g : mG} {x1 x4 : Int32} {x2 : Int64} {u5 : Option mV} {i : Nat} : mEv X call 1 t_X0_takeComers (mDrop t_X0_takeComers 91) [some (mr i 0), some (mi x1), some (ml x2), none, some (mi x4), u5] [] g = some (some (mi (x2).toInt32), g) := (mEv_3 _ _ _ _).trans rfl
theorem e_X0_takeComers_18 {X : mX} {call : Nat → List mV → mG → mR} {g : mG} {x1 x4 : Int32} {x2 : Int64} {u5 : Option mV} {i : Nat} : mEv X call 1 t_X0_takeComers (mDrop t_X0_takeComers 18) [some (mr i 0), some (mi x1), some (ml x2), none, some (mi x4), u5] [] g = if (233280 : Int64) = 0 then none else mEv X call 1 t_X0_takeComers (mDrop t_X0_takeComers 31) [some (mr i 0), some (mi x1), some (ml x2), none, some (mi x4), u5] [ml (((x2 * 9301) + 49297) - ((x2 * 9301) + 49297) / 233280 * 233280)] g := (mEv_7 _ _ _ _).trans rfl
theorem e_X0_takeComers_31 {X : mX} {call : Nat → List mV → mG → mR} {g : mG} {x1 x4 : Int32} {x2 s0 : Int64} {u5 : Option mV} {i : Nat} : mEv X call 1 t_X0_takeComers (mDrop t_X0_takeComers 31) [some (mr i 0), some (mi x1), some (ml x2), none, some (mi x4), u5] [ml s0] g = mAns (mEv X call 1 t_X0_takeComers) (mDrop t_X0_takeComers 41) [some (mr i 0), some (mi x1), some (ml s0), none, some (mi x4), u5] [] (call 142 [mr i 14, mi x4] g) := (mEv_5 _ _ _ _).trans rfl
theorem e_X0_takeComers_41 {X : mX} {call : Nat → List mV → mG → mR} {g : mG} {x1 x4 s0 : Int32} {x2 : Int64} {u5 : Option mV} {i : Nat} : mEv X call 1 t_X0_takeComers (mDrop t_X0_takeComers 41) [some (mr i 0), some (mi x1), some (ml x2), none, some (mi x4), u5] [mi s0] g = if (233280 : Int64) = 0 then none else mEv X call 1 t_X0_takeComers (mDrop t_X0_takeComers 52) [some (mr i 0), some (mi x1), some (ml x2), none, some (mi x4), some (mi s0)] [ml ((x2 * 60) / 233280)] g := (mEv_6 _ _ _ _).trans rfl
theorem e_X0_takeComers_52 {X : mX} {call : Nat → List mV → mG → mR} {g : mG} {x1 x4 x5 : Int32} {x2 s0 : Int64} {i : Nat} : mEv X call 1 t_X0_takeComers (mDrop t_X0_takeComers 52) [some (mr i 0), some (mi x1), some (ml x2), none, some (mi x4), some (mi x5)] [ml s0] g = mAns (mEv X call 1 t_X0_takeComers) (mDrop t_X0_takeComers 63) [some (mr i 0), some (mi x1), some (ml x2), none, some (mi x4), some (mi x5)] [ml s0] (call 57 [mr i 1, mi x4, mi 9] g) := (mEv_5 _ _ _ _).trans rfl
theorem e_X0_takeComers_63 {X : mX} {call : Nat → List mV → mG → mR} {g : mG} {x1 x4 x5 s1 : Int32} {x2 s0 : Int64} {i : Nat} : mEv X call 1 t_X0_takeComers (mDrop t_X0_takeComers 63) [some (mr i 0), some (mi x1), some (ml x2), none, some (mi x4), some (mi x5)] [mi s1, ml s0] g = if 0 ≤ (lg_cmp s0 (s1).toInt64) then mEv X call 1 t_X0_takeComers (mDrop t_X0_takeComers 85) [some (mr i 0), some (mi x1), some (ml x2), none, some (mi x4), some (mi x5)] [] g else mEv X call 1 t_X0_takeComers (mDrop t_X0_takeComers 68) [some (mr i 0), some (mi x1), some (ml x2), none, some (mi x4), some (mi x5)] [] g := (mEv_3 _ _ _ _).trans rfl
theorem e_X0_takeComers_85 {X : mX} {call : Nat → List mV → mG → mR} {g : mG} {x1 x4 x5 : Int32} {x2 : Int64} {i : Nat} : mEv X call 1 t_X0_takeComers (mDrop t_X0_takeComers 85) [some (mr i 0), some (mi x1), some (ml x2), none, some (mi x4), some (mi x5)] [] g = mEv X call 1 t_X0_takeComers (mDrop t_X0_takeComers 6) [some (mr i 0), some (mi x1), some (ml x2), none, some (mi (x4 + 1)), some (mi x5)] [] g := (mEv_2 _ _ _ _).trans rfl
noncomputable def J_X0_takeComers_85 (c : mC) (x4 : Int32) (x2 : Int64) : ((Int64 × Int32 × mC) ⊕ (Int32 × mC)) := (.inl (x2, (x4 + 1), c))
theorem rj_X0_takeComers_85 (d : Nat) {X : mX} {g : mG} {i : Nat} {x1 x4 x5 : Int32} {x2 : Int64} {c : mC} : mEv X (mCall mD X (d + 3)) 1 t_X0_takeComers (mDrop t_X0_takeComers 85) [some (mr i 0), some (mi x1), some (ml x2), none, some (mi x4), some (mi x5)] [] (mU g i c) = (wB (fun s : (Int64 × Int32 × mC) => match s with | (x2, x4, c) => mEv X (mCall mD X (d + 3)) 1 t_X0_takeComers (mDrop t_X0_takeComers 6) [some (mr i 0), some (mi x1), some (ml x2), none, some (mi x4), none] [] (mU g i c)) (wW g i)) (J_X0_takeComers_85 c x4 x2) := by
  refine Eq.trans (e_X0_takeComers_85) ?_
  try simp only [mU_same, mU_mU]
  exact mw_inl hk_X0_takeComers_6
theorem e_X0_takeComers_68 {X : mX} {call : Nat → List mV → mG → mR} {g : mG} {x1 x4 x5 : Int32} {x2 : Int64} {i : Nat} : mEv X call 1 t_X0_takeComers (mDrop t_X0_takeComers 68) [some (mr i 0), some (mi x1), some (ml x2), none, some (mi x4), some (mi x5)] [] g = if 99 ≤ x5 then mEv X call 1 t_X0_takeComers (mDrop t_X0_takeComers 85) [some (mr i 0), some (mi x1), some (ml x2), none, some (mi x4), some (mi x5)] [] g else mEv X call 1 t_X0_takeComers (mDrop t_X0_takeComers 75) [some (mr i 0), some (mi x1), some (ml x2), none, some (mi x4), some (mi x5)] [] g := (mEv_3 _ _ _ _).trans rfl
theorem e_X0_takeComers_75 {X : mX} {call : Nat → List mV → mG → mR} {g : mG} {x1 x4 x5 : Int32} {x2 : Int64} {i : Nat} : mEv X call 1 t_X0_takeComers (mDrop t_X0_takeComers 75) [some (mr i 0), some (mi x1), some (ml x2), none, some (mi x4), some (mi x5)] [] g = mAns (mEv X call 1 t_X0_takeComers) (mDrop t_X0_takeComers 85) [some (mr i 0), some (mi x1), some (ml x2), none, some (mi x4), some (mi x5)] [] (call 16 [mr i 0, mi x4, mi (x5 + 1)] g) := (mEv_6 _ _ _ _).trans rfl
noncomputable def B_X0_takeComers_6  : (Int64 × Int32 × mC) → (Int64 × Int32 × mC) ⊕ (Int32 × mC) := fun s => match s with | (x2, x4, c) => (if (c 1 0) ≤ x4 then (.inr ((x2).toInt32, c)) else (mBd (α := Int32) (cl 8 (c 14) x4) (fun v1 => (mBd (α := Int32) (P_X2_markOf c x4 9) (fun v2 => (if 0 ≤ (lg_cmp (((((x2 * 9301) + 49297) - ((x2 * 9301) + 49297) / 233280 * 233280) * 60) / 233280) (v2).toInt64) then (J_X0_takeComers_85 c x4 (((x2 * 9301) + 49297) - ((x2 * 9301) + 49297) / 233280 * 233280)) else (if 99 ≤ v1 then (J_X0_takeComers_85 c x4 (((x2 * 9301) + 49297) - ((x2 * 9301) + 49297) / 233280 * 233280)) else (mBd (α := mC) (P_X0_putQueue c x4 (v1 + 1)) (fun c3 => (J_X0_takeComers_85 c3 x4 (((x2 * 9301) + 49297) - ((x2 * 9301) + 49297) / 233280 * 233280)))))))))))
set_option maxRecDepth 100000 in
theorem tm_X0_takeComers_6  : mTm (B_X0_takeComers_6 ) := by
  refine ⟨fun s => match s with | (x2, x4, c) => (((c 1 0) : Int32).toInt - (x4 : Int32).toInt).toNat, fun s s2 h => ?_⟩
  obtain ⟨x2, x4, c⟩ := s
  have pk : ∀ x y : Int32, P_X0_putQueue c x y 1 0 = c 1 0 := by
    intro x y
    simp only [P_X0_putQueue, J_X0_putQueue_24, mBd]
    split <;> rw [mP_o (by decide), pt_o (by decide)]
  simp only [B_X0_takeComers_6, J_X0_takeComers_85, mBd] at h
  generalize x2 * 9301 + 49297 - (x2 * 9301 + 49297) / 233280 * 233280 = t at h
  (repeat' split at h) <;> first | (have h2 := Sum.inl.inj h; subst h2; dsimp only; (try rw [pk]); exact mtm_up (by assumption)) | (cases h; done)
theorem rl_X0_takeComers_6 (d : Nat) {X : mX} {g : mG} {i : Nat} {x1 x4 : Int32} {x2 : Int64} {c : mC} : mEv X (mCall mD X (d + 3)) 1 t_X0_takeComers (mDrop t_X0_takeComers 6) [some (mr i 0), some (mi x1), some (ml x2), none, some (mi x4), none] [] (mU g i c) = (wW g i) (mWh (0, fun _ _ => 0) B_X0_takeComers_6 (x2, x4, c)) := by
  refine mWh_ev (B := B_X0_takeComers_6) (ev := fun s : (Int64 × Int32 × mC) => match s with | (x2, x4, c) => mEv X (mCall mD X (d + 3)) 1 t_X0_takeComers (mDrop t_X0_takeComers 6) [some (mr i 0), some (mi x1), some (ml x2), none, some (mi x4), none] [] (mU g i c)) (w := (wW g i)) (tm_X0_takeComers_6) ?_ (x2, x4, c)
  rintro ⟨x2, x4, c⟩
  show mEv X (mCall mD X (d + 3)) 1 t_X0_takeComers (mDrop t_X0_takeComers 6) [some (mr i 0), some (mi x1), some (ml x2), none, some (mi x4), none] [] (mU g i c) = wB (fun s : (Int64 × Int32 × mC) => match s with | (x2, x4, c) => mEv X (mCall mD X (d + 3)) 1 t_X0_takeComers (mDrop t_X0_takeComers 6) [some (mr i 0), some (mi x1), some (ml x2), none, some (mi x4), none] [] (mU g i c)) (wW g i) (B_X0_takeComers_6  (x2, x4, c))
  refine Eq.trans (e_X0_takeComers_6) ?_
  try simp only [mU_same, mU_mU]
  refine mw_ite (fun h6 => ?_) (fun h6 => ?_)
  · refine mw_inr ?_
    refine Eq.trans (e_X0_takeComers_91) ?_
    try simp only [mU_same, mU_mU]
    all_goals rfl
  · refine Eq.trans (e_X0_takeComers_18) ?_
    try simp only [mU_same, mU_mU]
    refine Eq.trans (if_neg (by decide)) ?_
    refine Eq.trans (e_X0_takeComers_31) ?_
    try simp only [mU_same, mU_mU]
    refine mw_cI (rr_X5_cell_14 (d + 2)) (fun v1 => ?_)
    refine Eq.trans (e_X0_takeComers_41) ?_
    try simp only [mU_same, mU_mU]
    refine Eq.trans (if_neg (by decide)) ?_
    refine Eq.trans (e_X0_takeComers_52) ?_
    try simp only [mU_same, mU_mU]
    refine mw_cI (rr_X2_markOf (d + 2)) (fun v2 => ?_)
    refine Eq.trans (e_X0_takeComers_63) ?_
    try simp only [mU_same, mU_mU]
    refine mw_ite (fun h5 => ?_) (fun h5 => ?_)
    · exact rj_X0_takeComers_85 d
    · refine Eq.trans (e_X0_takeComers_68) ?_
      try simp only [mU_same, mU_mU]
      refine mw_ite (fun h4 => ?_) (fun h4 => ?_)
      · exact rj_X0_takeComers_85 d
      · refine Eq.trans (e_X0_takeComers_75) ?_
        try simp only [mU_same, mU_mU]
        refine mw_cV (rr_X0_putQueue d) (fun c3 => ?_)
        exact rj_X0_takeComers_85 d
noncomputable def P_X0_takeComers (c : mC) (x1 : Int32) : (Int32 × mC) := (mWh (0, fun _ _ => 0) B_X0_takeComers_6 ((x1).toInt64, 0, c))
theorem rr_X0_takeComers (d : Nat) {X : mX} {g : mG} {i : Nat} {x1 : Int32} {c : mC} : mCall mD X (d + 4) 20 [mr i 0, mi x1] (mU g i c) = (wW g i) (P_X0_takeComers c x1) := by
  refine Eq.trans (mCall_eq (d := d + 3) rfl) ?_
  show mEv X (mCall mD X (d + 3)) 1 t_X0_takeComers (mDrop t_X0_takeComers 0) [some (mr i 0), some (mi x1), none, none, none, none] [] (mU g i c) = _
  refine Eq.trans (e_X0_takeComers_0) ?_
  try simp only [mU_same, mU_mU]
  exact Eq.trans hk_X0_takeComers_6 (rl_X0_takeComers_6 d)
theorem rr_X0_takeComers_at (d : Nat) {X : mX} {g : mG} {i : Nat} {x1 : Int32} : mCall mD X (d + 4) 20 [mr i 0, mi x1] g = wW g i (P_X0_takeComers (g i) x1) := by
  have h := rr_X0_takeComers (X := X) d (g := g) (c := g i) (x1 := x1) (i := i)
  rw [mU_self] at h
  exact h
theorem e_X0_moveClock_0 {X : mX} {call : Nat → List mV → mG → mR} {g : mG} {i : Nat} : mEv X call 0 t_X0_moveClock (mDrop t_X0_moveClock 0) [some (mr i 0), none, none] [] g = if 0 < (g i 1 1) then mEv X call 0 t_X0_moveClock (mDrop t_X0_moveClock 13) [some (mr i 0), some (mi (g i 1 1)), none] [] g else mEv X call 0 t_X0_moveClock (mDrop t_X0_moveClock 12) [some (mr i 0), some (mi (g i 1 1)), none] [] g := (mEv_6 _ _ _ _).trans rfl
theorem e_X0_moveClock_13 {X : mX} {call : Nat → List mV → mG → mR} {g : mG} {x1 : Int32} {i : Nat} : mEv X call 0 t_X0_moveClock (mDrop t_X0_moveClock 13) [some (mr i 0), some (mi x1), none] [] g = mAns (mEv X call 0 t_X0_moveClock) (mDrop t_X0_moveClock 24) [some (mr i 0), some (mi x1), none] [mr i 0] (call 276 [mi ((g i 0 13) + 1), mi x1] g) := (mEv_7 _ _ _ _).trans rfl
theorem e_X0_moveClock_24 {X : mX} {call : Nat → List mV → mG → mR} {g : mG} {x1 s1 : Int32} {i : Nat} : mEv X call 0 t_X0_moveClock (mDrop t_X0_moveClock 24) [some (mr i 0), some (mi x1), none] [mi s1, mr i 0] g = mEv X call 0 t_X0_moveClock (mDrop t_X0_moveClock 27) [some (mr i 0), some (mi x1), none] [] (mU g i (mP (g i) 0 13 s1)) := (mEv_1 _ _ _ _).trans rfl
theorem e_X0_moveClock_27 {X : mX} {call : Nat → List mV → mG → mR} {g : mG} {x1 : Int32} {i : Nat} : mEv X call 0 t_X0_moveClock (mDrop t_X0_moveClock 27) [some (mr i 0), some (mi x1), none] [] g = mAns (mEv X call 0 t_X0_moveClock) (mDrop t_X0_moveClock 31) [some (mr i 0), some (mi x1), none] [] (call 24 [mr i 0] g) := (mEv_2 _ _ _ _).trans rfl
theorem e_X0_moveClock_31 {X : mX} {call : Nat → List mV → mG → mR} {g : mG} {x1 s0 : Int32} {i : Nat} : mEv X call 0 t_X0_moveClock (mDrop t_X0_moveClock 31) [some (mr i 0), some (mi x1), none] [mi s0] g = if s0 = 0 then mEv X call 0 t_X0_moveClock (mDrop t_X0_moveClock 75) [some (mr i 0), some (mi x1), some (mi s0)] [] g else mEv X call 0 t_X0_moveClock (mDrop t_X0_moveClock 36) [some (mr i 0), some (mi x1), some (mi s0)] [] g := (mEv_3 _ _ _ _).trans rfl
theorem e_X0_moveClock_75 {X : mX} {call : Nat → List mV → mG → mR} {g : mG} {x1 x2 : Int32} {i : Nat} : mEv X call 0 t_X0_moveClock (mDrop t_X0_moveClock 75) [some (mr i 0), some (mi x1), some (mi x2)] [] g = some (none, g) := (mEv_1 _ _ _ _).trans rfl
theorem e_X0_moveClock_36 {X : mX} {call : Nat → List mV → mG → mR} {g : mG} {x1 x2 : Int32} {i : Nat} : mEv X call 0 t_X0_moveClock (mDrop t_X0_moveClock 36) [some (mr i 0), some (mi x1), some (mi x2)] [] g = if (4 : Int32) = 0 then none else mEv X call 0 t_X0_moveClock (mDrop t_X0_moveClock 42) [some (mr i 0), some (mi x1), some (mi x2)] [mi ((g i 0 12) - (g i 0 12) / 4 * 4)] g := (mEv_4 _ _ _ _).trans rfl
theorem e_X0_moveClock_42 {X : mX} {call : Nat → List mV → mG → mR} {g : mG} {x1 x2 s0 : Int32} {i : Nat} : mEv X call 0 t_X0_moveClock (mDrop t_X0_moveClock 42) [some (mr i 0), some (mi x1), some (mi x2)] [mi s0] g = if s0 = 0 then mEv X call 0 t_X0_moveClock (mDrop t_X0_moveClock 45) [some (mr i 0), some (mi x1), some (mi x2)] [] g else mEv X call 0 t_X0_moveClock (mDrop t_X0_moveClock 75) [some (mr i 0), some (mi x1), some (mi x2)] [] g := (mEv_1 _ _ _ _).trans rfl
theorem e_X0_moveClock_45 {X : mX} {call : Nat → List mV → mG → mR} {g : mG} {x1 x2 : Int32} {i : Nat} : mEv X call 0 t_X0_moveClock (mDrop t_X0_moveClock 45) [some (mr i 0), some (mi x1), some (mi x2)] [] g = if (2 : Int32) = 0 then none else mEv X call 0 t_X0_moveClock (mDrop t_X0_moveClock 50) [some (mr i 0), some (mi x1), some (mi x2)] [mi (x1 / 2), mi x2, mr i 0] g := (mEv_5 _ _ _ _).trans rfl
theorem e_X0_moveClock_50 {X : mX} {call : Nat → List mV → mG → mR} {g : mG} {x1 x2 s1 s2 : Int32} {i : Nat} : mEv X call 0 t_X0_moveClock (mDrop t_X0_moveClock 50) [some (mr i 0), some (mi x1), some (mi x2)] [mi s2, mi s1, mr i 0] g = if s2 < s1 then mEv X call 0 t_X0_moveClock (mDrop t_X0_moveClock 62) [some (mr i 0), some (mi x1), some (mi x2)] [mr i 0] g else mEv X call 0 t_X0_moveClock (mDrop t_X0_moveClock 53) [some (mr i 0), some (mi x1), some (mi x2)] [mr i 0] g := (mEv_1 _ _ _ _).trans rfl
theorem e_X0_moveClock_62 {X : mX} {call : Nat → List mV → mG → mR} {g : mG} {x1 x2 : Int32} {i : Nat} : mEv X call 0 t_X0_moveClock (mDrop t_X0_moveClock 62) [some (mr i 0), some (mi x1), some (mi x2)] [mr i 0] g = mEv X call 0 t_X0_moveClock (mDrop t_X0_moveClock 68) [some (mr i 0), some (mi x1), some (mi x2)] [mi ((g i 0 13) - 1), mr i 0] g := (mEv_4 _ _ _ _).trans rfl
theorem e_X0_moveClock_68 {X : mX} {call : Nat → List mV → mG → mR} {g : mG} {x1 x2 s1 : Int32} {i : Nat} : mEv X call 0 t_X0_moveClock (mDrop t_X0_moveClock 68) [some (mr i 0), some (mi x1), some (mi x2)] [mi s1, mr i 0] g = mAns (mEv X call 0 t_X0_moveClock) (mDrop t_X0_moveClock 72) [some (mr i 0), some (mi x1), some (mi x2)] [mr i 0] (call 276 [mi s1, mi x1] g) := (mEv_2 _ _ _ _).trans rfl
theorem e_X0_moveClock_72 {X : mX} {call : Nat → List mV → mG → mR} {g : mG} {x1 x2 s1 : Int32} {i : Nat} : mEv X call 0 t_X0_moveClock (mDrop t_X0_moveClock 72) [some (mr i 0), some (mi x1), some (mi x2)] [mi s1, mr i 0] g = mEv X call 0 t_X0_moveClock (mDrop t_X0_moveClock 75) [some (mr i 0), some (mi x1), some (mi x2)] [] (mU g i (mP (g i) 0 13 s1)) := (mEv_1 _ _ _ _).trans rfl
theorem e_X0_moveClock_53 {X : mX} {call : Nat → List mV → mG → mR} {g : mG} {x1 x2 : Int32} {i : Nat} : mEv X call 0 t_X0_moveClock (mDrop t_X0_moveClock 53) [some (mr i 0), some (mi x1), some (mi x2)] [mr i 0] g = mEv X call 0 t_X0_moveClock (mDrop t_X0_moveClock 68) [some (mr i 0), some (mi x1), some (mi x2)] [mi ((g i 0 13) + 1), mr i 0] g := (mEv_5 _ _ _ _).trans rfl
theorem e_X0_moveClock_12 {X : mX} {call : Nat → List mV → mG → mR} {g : mG} {x1 : Int32} {i : Nat} : mEv X call 0 t_X0_moveClock (mDrop t_X0_moveClock 12) [some (mr i 0), some (mi x1), none] [] g = some (none, g) := (mEv_1 _ _ _ _).trans rfl
noncomputable def P_X0_moveClock (c : mC) : (mC) := (if 0 < (c 1 1) then (mBd (α := Int32) (mFm ((c 0 13) + 1) (c 1 1)) (fun v1 => (mBd (α := Int32) (P_X0_aheadOfClock (mP c 0 13 v1)) (fun v2 => (if v2 = 0 then (mP c 0 13 v1) else (if (((mP c 0 13 v1) 0 12) - ((mP c 0 13 v1) 0 12) / 4 * 4) = 0 then (if ((c 1 1) / 2) < v2 then (mBd (α := Int32) (mFm (((mP c 0 13 v1) 0 13) - 1) (c 1 1)) (fun v3 => (mP (mP c 0 13 v1) 0 13 v3))) else (mBd (α := Int32) (mFm (((mP c 0 13 v1) 0 13) + 1) (c 1 1)) (fun v4 => (mP (mP c 0 13 v1) 0 13 v4)))) else (mP c 0 13 v1))))))) else c)
theorem rr_X0_moveClock (d : Nat) {X : mX} {g : mG} {i : Nat} {c : mC} : mCall mD X (d + 3) 23 [mr i 0] (mU g i c) = (wV g i) (P_X0_moveClock c) := by
  refine Eq.trans (mCall_eq (d := d + 2) rfl) ?_
  show mEv X (mCall mD X (d + 2)) 0 t_X0_moveClock (mDrop t_X0_moveClock 0) [some (mr i 0), none, none] [] (mU g i c) = _
  refine Eq.trans (e_X0_moveClock_0) ?_
  try simp only [mU_same, mU_mU]
  refine mw_ite (fun h8 => ?_) (fun h8 => ?_)
  · refine Eq.trans (e_X0_moveClock_13) ?_
    try simp only [mU_same, mU_mU]
    refine mw_cI (rr_J9_floorMod_7cf53 (d + 1) (by first | decide | exact mne_pos (by assumption) | exact mne_pos2 (by assumption))) (fun v1 => ?_)
    refine Eq.trans (e_X0_moveClock_24) ?_
    try simp only [mU_same, mU_mU]
    refine Eq.trans (e_X0_moveClock_27) ?_
    try simp only [mU_same, mU_mU]
    refine mw_cI (rr_X0_aheadOfClock d) (fun v2 => ?_)
    refine Eq.trans (e_X0_moveClock_31) ?_
    try simp only [mU_same, mU_mU]
    refine mw_ite (fun h7 => ?_) (fun h7 => ?_)
    · refine Eq.trans (e_X0_moveClock_75) ?_
      try simp only [mU_same, mU_mU]
      all_goals rfl
    · refine Eq.trans (e_X0_moveClock_36) ?_
      try simp only [mU_same, mU_mU]
      refine Eq.trans (if_neg (by decide)) ?_
      refine Eq.trans (e_X0_moveClock_42) ?_
      try simp only [mU_same, mU_mU]
      refine mw_ite (fun h6 => ?_) (fun h6 => ?_)
      · refine Eq.trans (e_X0_moveClock_45) ?_
        try simp only [mU_same, mU_mU]
        refine Eq.trans (if_neg (by decide)) ?_
        refine Eq.trans (e_X0_moveClock_50) ?_
        try simp only [mU_same, mU_mU]
        refine mw_ite (fun h5 => ?_) (fun h5 => ?_)
        · refine Eq.trans (e_X0_moveClock_62) ?_
          try simp only [mU_same, mU_mU]
          refine Eq.trans (e_X0_moveClock_68) ?_
          try simp only [mU_same, mU_mU]
          refine mw_cI (rr_J9_floorMod_7cf53 (d + 1) (by first | decide | exact mne_pos (by assumption) | exact mne_pos2 (by assumption))) (fun v3 => ?_)
          refine Eq.trans (e_X0_moveClock_72) ?_
          try simp only [mU_same, mU_mU]
          refine Eq.trans (e_X0_moveClock_75) ?_
          try simp only [mU_same, mU_mU]
          all_goals rfl
        · refine Eq.trans (e_X0_moveClock_53) ?_
          try simp only [mU_same, mU_mU]
          refine Eq.trans (e_X0_moveClock_68) ?_
          try simp only [mU_same, mU_mU]
          refine mw_cI (rr_J9_floorMod_7cf53 (d + 1) (by first | decide | exact mne_pos (by assumption) | exact mne_pos2 (by assumption))) (fun v4 => ?_)
          refine Eq.trans (e_X0_moveClock_72) ?_
          try simp only [mU_same, mU_mU]
          refine Eq.trans (e_X0_moveClock_75) ?_
          try simp only [mU_same, mU_mU]
          all_goals rfl
      · refine Eq.trans (e_X0_moveClock_75) ?_
        try simp only [mU_same, mU_mU]
        all_goals rfl
  · refine Eq.trans (e_X0_moveClock_12) ?_
    try simp only [mU_same, mU_mU]
    all_goals rfl
theorem rr_X0_moveClock_at (d : Nat) {X : mX} {g : mG} {i : Nat} : mCall mD X (d + 3) 23 [mr i 0] g = some (none, mU g i (P_X0_moveClock (g i))) := by
  have h := rr_X0_moveClock (X := X) d (g := g) (c := g i) (i := i)
  rw [mU_self] at h
  exact h
theorem e_X0_ageGreen_0 {X : mX} {call : Nat → List mV → mG → mR} {g : mG} {i r : Nat} (h_r : r = 8 ∨ r = 9) : mEv X call 0 t_X0_ageGreen (mDrop t_X0_ageGreen 0) [some (mr i 0), some (mr i r), none, none] [] g = mAns (mEv X call 0 t_X0_ageGreen) (mDrop t_X0_ageGreen 13) [some (mr i 0), some (mr i r), some (mi (g i r 1)), none] [] (call 142 [mr i 14, mi (g i r 1)] g) := by
  rcases h_r with rfl | rfl <;> exact (mEv_7 _ _ _ _).trans rfl
theorem e_X0_ageGreen_13 {X : mX} {call : Nat → List mV → mG → mR} {g : mG} {x2 s0 : Int32} {i r : Nat} (h_r : r = 8 ∨ r = 9) : mEv X call 0 t_X0_ageGreen (mDrop t_X0_ageGreen 13) [some (mr i 0), some (mr i r), some (mi x2), none] [mi s0] g = if 0 < s0 then mEv X call 0 t_X0_ageGreen (mDrop t_X0_ageGreen 30) [some (mr i 0), some (mr i r), some (mi x2), some (mi s0)] [mr i r] g else mEv X call 0 t_X0_ageGreen (mDrop t_X0_ageGreen 19) [some (mr i 0), some (mr i r), some (mi x2), some (mi s0)] [mr i r] g := by
  rcases h_r with rfl | rfl <;> exact (mEv_4 _ _ _ _).trans rfl
theorem e_X0_ageGreen_30 {X : mX} {call : Nat → List mV → mG → mR} {g : mG} {x2 x3 : Int32} {i r : Nat} (h_r : r = 8 ∨ r = 9) : mEv X call 0 t_X0_ageGreen (mDrop t_X0_ageGreen 30) [some (mr i 0), some (mr i r), some (mi x2), some (mi x3)] [mr i r] g = mEv X call 0 t_X0_ageGreen (mDrop t_X0_ageGreen 40) [some (mr i 0), some (mr i r), some (mi x2), some (mi x3)] [mi 0, mr i r] g := by
  rcases h_r with rfl | rfl <;> exact (mEv_2 _ _ _ _).trans rfl
theorem e_X0_ageGreen_40 {X : mX} {call : Nat → List mV → mG → mR} {g : mG} {x2 x3 s1 : Int32} {i r : Nat} (h_r : r = 8 ∨ r = 9) : mEv X call 0 t_X0_ageGreen (mDrop t_X0_ageGreen 40) [some (mr i 0), some (mr i r), some (mi x2), some (mi x3)] [mi s1, mr i r] g = mEv X call 0 t_X0_ageGreen (mDrop t_X0_ageGreen 43) [some (mr i 0), some (mr i r), some (mi x2), some (mi x3)] [] (mU g i (mP (g i) r 5 s1)) := by
  rcases h_r with rfl | rfl <;> exact (mEv_1 _ _ _ _).trans rfl
theorem e_X0_ageGreen_43 {X : mX} {call : Nat → List mV → mG → mR} {g : mG} {x2 x3 : Int32} {i r : Nat} (h_r : r = 8 ∨ r = 9) : mEv X call 0 t_X0_ageGreen (mDrop t_X0_ageGreen 43) [some (mr i 0), some (mr i r), some (mi x2), some (mi x3)] [] g = if x3 ≤ 0 then mEv X call 0 t_X0_ageGreen (mDrop t_X0_ageGreen 73) [some (mr i 0), some (mr i r), some (mi x2), some (mi x3)] [] g else mEv X call 0 t_X0_ageGreen (mDrop t_X0_ageGreen 47) [some (mr i 0), some (mr i r), some (mi x2), some (mi x3)] [] g := by
  rcases h_r with rfl | rfl <;> exact (mEv_2 _ _ _ _).trans rfl
theorem e_X0_ageGreen_73 {X : mX} {call : Nat → List mV → mG → mR} {g : mG} {x2 x3 : Int32} {i r : Nat} (h_r : r = 8 ∨ r = 9) : mEv X call 0 t_X0_ageGreen (mDrop t_X0_ageGreen 73) [some (mr i 0), some (mr i r), some (mi x2), some (mi x3)] [] g = mAns (mEv X call 0 t_X0_ageGreen) (mDrop t_X0_ageGreen 81) [some (mr i 0), some (mr i r), some (mi x2), some (mi x3)] [] (call 63 [mr i 1, mi x2] g) := by
  rcases h_r with rfl | rfl <;> exact (mEv_4 _ _ _ _).trans rfl
theorem e_X0_ageGreen_81 {X : mX} {call : Nat → List mV → mG → mR} {g : mG} {x2 x3 s0 : Int32} {i r : Nat} (h_r : r = 8 ∨ r = 9) : mEv X call 0 t_X0_ageGreen (mDrop t_X0_ageGreen 81) [some (mr i 0), some (mr i r), some (mi x2), some (mi x3)] [mi s0] g = mAns (mEv X call 0 t_X0_ageGreen) (mDrop t_X0_ageGreen 85) [some (mr i 0), some (mr i r), some (mi x2), some (mi x3)] [mi s0] (call 12 [mr i 0] g) := by
  rcases h_r with rfl | rfl <;> exact (mEv_2 _ _ _ _).trans rfl
theorem e_X0_ageGreen_85 {X : mX} {call : Nat → List mV → mG → mR} {g : mG} {x2 x3 s0 s1 : Int32} {i r : Nat} (h_r : r = 8 ∨ r = 9) : mEv X call 0 t_X0_ageGreen (mDrop t_X0_ageGreen 85) [some (mr i 0), some (mr i r), some (mi x2), some (mi x3)] [mi s1, mi s0] g = if (s0 &&& s1) = 0 then mEv X call 0 t_X0_ageGreen (mDrop t_X0_ageGreen 99) [some (mr i 0), some (mr i r), some (mi x2), some (mi x3)] [] g else mEv X call 0 t_X0_ageGreen (mDrop t_X0_ageGreen 89) [some (mr i 0), some (mr i r), some (mi x2), some (mi x3)] [] g := by
  rcases h_r with rfl | rfl <;> exact (mEv_2 _ _ _ _).trans rfl
theorem e_X0_ageGreen_99 {X : mX} {call : Nat → List mV → mG → mR} {g : mG} {x2 x3 : Int32} {i r : Nat} (h_r : r = 8 ∨ r = 9) : mEv X call 0 t_X0_ageGreen (mDrop t_X0_ageGreen 99) [some (mr i 0), some (mr i r), some (mi x2), some (mi x3)] [] g = mAns (mEv X call 0 t_X0_ageGreen) (mDrop t_X0_ageGreen 109) [some (mr i 0), some (mr i r), some (mi x2), some (mi x3)] [mr i r] (call 57 [mr i 1, mi x2, mi 5] g) := by
  rcases h_r with rfl | rfl <;> exact (mEv_6 _ _ _ _).trans rfl
theorem e_X0_ageGreen_109 {X : mX} {call : Nat → List mV → mG → mR} {g : mG} {x2 x3 s1 : Int32} {i r : Nat} (h_r : r = 8 ∨ r = 9) : mEv X call 0 t_X0_ageGreen (mDrop t_X0_ageGreen 109) [some (mr i 0), some (mr i r), some (mi x2), some (mi x3)] [mi s1, mr i r] g = mAns (mEv X call 0 t_X0_ageGreen) (mDrop t_X0_ageGreen 119) [some (mr i 0), some (mr i r), some (mi x2), some (mi x3)] [mi s1, mr i r] (call 57 [mr i 1, mi x2, mi 6] g) := by
  rcases h_r with rfl | rfl <;> exact (mEv_5 _ _ _ _).trans rfl
theorem e_X0_ageGreen_119 {X : mX} {call : Nat → List mV → mG → mR} {g : mG} {x2 x3 s1 s2 : Int32} {i r : Nat} (h_r : r = 8 ∨ r = 9) : mEv X call 0 t_X0_ageGreen (mDrop t_X0_ageGreen 119) [some (mr i 0), some (mr i r), some (mi x2), some (mi x3)] [mi s2, mi s1, mr i r] g = mAns (mEv X call 0 t_X0_ageGreen) (mDrop t_X0_ageGreen 122) [some (mr i 0), some (mr i r), some (mi x2), some (mi x3)] [] (call 96 [mr i r, mi s1, mi s2] g) := by
  rcases h_r with rfl | rfl <;> exact (mEv_1 _ _ _ _).trans rfl
theorem e_X0_ageGreen_122 {X : mX} {call : Nat → List mV → mG → mR} {g : mG} {x2 x3 : Int32} {i r : Nat} (h_r : r = 8 ∨ r = 9) : mEv X call 0 t_X0_ageGreen (mDrop t_X0_ageGreen 122) [some (mr i 0), some (mr i r), some (mi x2), some (mi x3)] [] g = some (none, g) := by
  rcases h_r with rfl | rfl <;> exact (mEv_1 _ _ _ _).trans rfl
noncomputable def J_X0_ageGreen_99 (r : Nat) (c : mC) (x2 : Int32) : (mC) := (mBd (α := Int32) (P_X2_markOf c x2 5) (fun v1 => (mBd (α := Int32) (P_X2_markOf c x2 6) (fun v2 => (mBd (α := mC) (P_X4_walkOn r c v1 v2) (fun c3 => c3))))))
theorem rj_X0_ageGreen_99 (d : Nat) {X : mX} {g : mG} {i r : Nat} (h_r : r = 8 ∨ r = 9) {x2 x3 : Int32} {c : mC} : mEv X (mCall mD X (d + 3)) 0 t_X0_ageGreen (mDrop t_X0_ageGreen 99) [some (mr i 0), some (mr i r), some (mi x2), some (mi x3)] [] (mU g i c) = (wV g i) (J_X0_ageGreen_99 r c x2) := by
  refine Eq.trans (e_X0_ageGreen_99 h_r) ?_
  try simp only [mU_same, mU_mU]
  refine mw_cI (rr_X2_markOf (d + 2)) (fun v1 => ?_)
  refine Eq.trans (e_X0_ageGreen_109 h_r) ?_
  try simp only [mU_same, mU_mU]
  refine mw_cI (rr_X2_markOf (d + 2)) (fun v2 => ?_)
  refine Eq.trans (e_X0_ageGreen_119 h_r) ?_
  try simp only [mU_same, mU_mU]
  refine mw_cV (rr_X4_walkOn (d + 2) h_r) (fun c3 => ?_)
  refine Eq.trans (e_X0_ageGreen_122 h_r) ?_
  try simp only [mU_same, mU_mU]
  all_goals rfl
theorem e_X0_ageGreen_89 {X : mX} {call : Nat → List mV → mG → mR} {g : mG} {x2 x3 : Int32} {i r : Nat} (h_r : r = 8 ∨ r = 9) : mEv X call 0 t_X0_ageGreen (mDrop t_X0_ageGreen 89) [some (mr i 0), some (mr i r), some (mi x2), some (mi x3)] [] g = mEv X call 0 t_X0_ageGreen (mDrop t_X0_ageGreen 99) [some (mr i 0), some (mr i r), some (mi x2), some (mi x3)] [] (mU g i (mP (g i) r 6 ((g i r 6) + 1))) := by
  rcases h_r with rfl | rfl <;> exact (mEv_6 _ _ _ _).trans rfl
noncomputable def J_X0_ageGreen_73 (r : Nat) (c : mC) (x2 : Int32) : (mC) := (mBd (α := Int32) (P_X2_foesOf c x2) (fun v1 => (mBd (α := Int32) (P_X0_askedSet c) (fun v2 => (if (v1 &&& v2) = 0 then (J_X0_ageGreen_99 r c x2) else (J_X0_ageGreen_99 r (mP c r 6 ((c r 6) + 1)) x2))))))
theorem rj_X0_ageGreen_73 (d : Nat) {X : mX} {g : mG} {i r : Nat} (h_r : r = 8 ∨ r = 9) {x2 x3 : Int32} {c : mC} : mEv X (mCall mD X (d + 3)) 0 t_X0_ageGreen (mDrop t_X0_ageGreen 73) [some (mr i 0), some (mr i r), some (mi x2), some (mi x3)] [] (mU g i c) = (wV g i) (J_X0_ageGreen_73 r c x2) := by
  refine Eq.trans (e_X0_ageGreen_73 h_r) ?_
  try simp only [mU_same, mU_mU]
  refine mw_cI (rr_X2_foesOf (d + 1)) (fun v1 => ?_)
  refine Eq.trans (e_X0_ageGreen_81 h_r) ?_
  try simp only [mU_same, mU_mU]
  refine mw_cI (rr_X0_askedSet (d + 1)) (fun v2 => ?_)
  refine Eq.trans (e_X0_ageGreen_85 h_r) ?_
  try simp only [mU_same, mU_mU]
  refine mw_ite (fun h3 => ?_) (fun h3 => ?_)
  · exact rj_X0_ageGreen_99 d h_r
  · refine Eq.trans (e_X0_ageGreen_89 h_r) ?_
    try simp only [mU_same, mU_mU]
    exact rj_X0_ageGreen_99 d h_r
theorem e_X0_ageGreen_47 {X : mX} {call : Nat → List mV → mG → mR} {g : mG} {x2 x3 : Int32} {i r : Nat} (h_r : r = 8 ∨ r = 9) : mEv X call 0 t_X0_ageGreen (mDrop t_X0_ageGreen 47) [some (mr i 0), some (mr i r), some (mi x2), some (mi x3)] [] g = mAns (mEv X call 0 t_X0_ageGreen) (mDrop t_X0_ageGreen 55) [some (mr i 0), some (mr i r), some (mi x2), some (mi x3)] [] (call 16 [mr i 0, mi x2, mi (x3 - 1)] g) := by
  rcases h_r with rfl | rfl <;> exact (mEv_6 _ _ _ _).trans rfl
theorem e_X0_ageGreen_55 {X : mX} {call : Nat → List mV → mG → mR} {g : mG} {x2 x3 : Int32} {i r : Nat} (h_r : r = 8 ∨ r = 9) : mEv X call 0 t_X0_ageGreen (mDrop t_X0_ageGreen 55) [some (mr i 0), some (mr i r), some (mi x2), some (mi x3)] [] g = mAns (mEv X call 0 t_X0_ageGreen) (mDrop t_X0_ageGreen 68) [some (mr i 0), some (mr i r), some (mi x2), some (mi x3)] [mi x2, mr i 15] (call 142 [mr i 15, mi x2] g) := by
  rcases h_r with rfl | rfl <;> exact (mEv_7 _ _ _ _).trans rfl
theorem e_X0_ageGreen_68 {X : mX} {call : Nat → List mV → mG → mR} {g : mG} {x2 x3 s1 s2 : Int32} {i r : Nat} (h_r : r = 8 ∨ r = 9) : mEv X call 0 t_X0_ageGreen (mDrop t_X0_ageGreen 68) [some (mr i 0), some (mr i r), some (mi x2), some (mi x3)] [mi s2, mi s1, mr i 15] g = mAns (mEv X call 0 t_X0_ageGreen) (mDrop t_X0_ageGreen 73) [some (mr i 0), some (mr i r), some (mi x2), some (mi x3)] [] (call 143 [mr i 15, mi s1, mi (s2 + 1)] g) := by
  rcases h_r with rfl | rfl <;> exact (mEv_3 _ _ _ _).trans rfl
noncomputable def J_X0_ageGreen_40 (r : Nat) (c : mC) (x2 : Int32) (x3 : Int32) (s1 : Int32) : (mC) := (if x3 ≤ 0 then (J_X0_ageGreen_73 r (mP c r 5 s1) x2) else (mBd (α := mC) (P_X0_putQueue (mP c r 5 s1) x2 (x3 - 1)) (fun c1 => (mBd (α := Int32) (cl 8 (c1 15) x2) (fun v2 => (mBd (α := mC) (pt 8 c1 15 x2 (v2 + 1)) (fun c3 => (J_X0_ageGreen_73 r c3 x2))))))))
theorem rj_X0_ageGreen_40 (d : Nat) {X : mX} {g : mG} {i r : Nat} (h_r : r = 8 ∨ r = 9) {x2 x3 s1 : Int32} {c : mC} : mEv X (mCall mD X (d + 3)) 0 t_X0_ageGreen (mDrop t_X0_ageGreen 40) [some (mr i 0), some (mr i r), some (mi x2), some (mi x3)] [mi s1, mr i r] (mU g i c) = (wV g i) (J_X0_ageGreen_40 r c x2 x3 s1) := by
  refine Eq.trans (e_X0_ageGreen_40 h_r) ?_
  try simp only [mU_same, mU_mU]
  refine Eq.trans (e_X0_ageGreen_43 h_r) ?_
  try simp only [mU_same, mU_mU]
  refine mw_ite (fun h4 => ?_) (fun h4 => ?_)
  · exact rj_X0_ageGreen_73 d h_r
  · refine Eq.trans (e_X0_ageGreen_47 h_r) ?_
    try simp only [mU_same, mU_mU]
    refine mw_cV (rr_X0_putQueue d) (fun c1 => ?_)
    refine Eq.trans (e_X0_ageGreen_55 h_r) ?_
    try simp only [mU_same, mU_mU]
    refine mw_cI (rr_X5_cell_15 (d + 2)) (fun v2 => ?_)
    refine Eq.trans (e_X0_ageGreen_68 h_r) ?_
    try simp only [mU_same, mU_mU]
    refine mw_cV (rr_X5_put_15 (d + 2)) (fun c3 => ?_)
    exact rj_X0_ageGreen_73 d h_r
noncomputable def J_X0_ageGreen_30 (r : Nat) (c : mC) (x2 : Int32) (x3 : Int32) : (mC) := (J_X0_ageGreen_40 r c x2 x3 0)
theorem rj_X0_ageGreen_30 (d : Nat) {X : mX} {g : mG} {i r : Nat} (h_r : r = 8 ∨ r = 9) {x2 x3 : Int32} {c : mC} : mEv X (mCall mD X (d + 3)) 0 t_X0_ageGreen (mDrop t_X0_ageGreen 30) [some (mr i 0), some (mr i r), some (mi x2), some (mi x3)] [mr i r] (mU g i c) = (wV g i) (J_X0_ageGreen_30 r c x2 x3) := by
  refine Eq.trans (e_X0_ageGreen_30 h_r) ?_
  try simp only [mU_same, mU_mU]
  exact rj_X0_ageGreen_40 d h_r
theorem e_X0_ageGreen_19 {X : mX} {call : Nat → List mV → mG → mR} {g : mG} {x2 x3 : Int32} {i r : Nat} (h_r : r = 8 ∨ r = 9) : mEv X call 0 t_X0_ageGreen (mDrop t_X0_ageGreen 19) [some (mr i 0), some (mr i r), some (mi x2), some (mi x3)] [mr i r] g = mAns (mEv X call 0 t_X0_ageGreen) (mDrop t_X0_ageGreen 27) [some (mr i 0), some (mr i r), some (mi x2), some (mi x3)] [mr i r] (call 149 [mi (g i 0 9), mi x2] g) := by
  rcases h_r with rfl | rfl <;> exact (mEv_4 _ _ _ _).trans rfl
theorem e_X0_ageGreen_27 {X : mX} {call : Nat → List mV → mG → mR} {g : mG} {x2 x3 s1 : Int32} {i r : Nat} (h_r : r = 8 ∨ r = 9) : mEv X call 0 t_X0_ageGreen (mDrop t_X0_ageGreen 27) [some (mr i 0), some (mr i r), some (mi x2), some (mi x3)] [mi s1, mr i r] g = if s1 = 0 then mEv X call 0 t_X0_ageGreen (mDrop t_X0_ageGreen 34) [some (mr i 0), some (mr i r), some (mi x2), some (mi x3)] [mr i r] g else mEv X call 0 t_X0_ageGreen (mDrop t_X0_ageGreen 30) [some (mr i 0), some (mr i r), some (mi x2), some (mi x3)] [mr i r] g := by
  rcases h_r with rfl | rfl <;> exact (mEv_1 _ _ _ _).trans rfl
theorem e_X0_ageGreen_34 {X : mX} {call : Nat → List mV → mG → mR} {g : mG} {x2 x3 : Int32} {i r : Nat} (h_r : r = 8 ∨ r = 9) : mEv X call 0 t_X0_ageGreen (mDrop t_X0_ageGreen 34) [some (mr i 0), some (mr i r), some (mi x2), some (mi x3)] [mr i r] g = mEv X call 0 t_X0_ageGreen (mDrop t_X0_ageGreen 40) [some (mr i 0), some (mr i r), some (mi x2), some (mi x3)] [mi ((g i r 5) + 1), mr i r] g := by
  rcases h_r with rfl | rfl <;> exact (mEv_4 _ _ _ _).trans rfl
noncomputable def P_X0_ageGreen (r : Nat) (c : mC) : (mC) := (mBd (α := Int32) (cl 8 (c 14) (c r 1)) (fun v1 => (if 0 < v1 then (J_X0_ageGreen_30 r c (c r 1) v1) else (mBd (α := Int32) (P_X5_inSet (c 0 9) (c r 1)) (fun v2 => (if v2 = 0 then (J_X0_ageGreen_40 r c (c r 1) v1 ((c r 5) + 1)) else (J_X0_ageGreen_30 r c (c r 1) v1)))))))
theorem rr_X0_ageGreen (d : Nat) {X : mX} {g : mG} {i r : Nat} (h_r : r = 8 ∨ r = 9) {c : mC} : mCall mD X (d + 4) 27 [mr i 0, mr i r] (mU g i c) = (wV g i) (P_X0_ageGreen r c) := by
  refine Eq.trans (mCall_eq (d := d + 3) rfl) ?_
  show mEv X (mCall mD X (d + 3)) 0 t_X0_ageGreen (mDrop t_X0_ageGreen 0) [some (mr i 0), some (mr i r), none, none] [] (mU g i c) = _
  refine Eq.trans (e_X0_ageGreen_0 h_r) ?_
  try simp only [mU_same, mU_mU]
  refine mw_cI (rr_X5_cell_14 (d + 2)) (fun v1 => ?_)
  refine Eq.trans (e_X0_ageGreen_13 h_r) ?_
  try simp only [mU_same, mU_mU]
  refine mw_ite (fun h4 => ?_) (fun h4 => ?_)
  · exact rj_X0_ageGreen_30 d h_r
  · refine Eq.trans (e_X0_ageGreen_19 h_r) ?_
    try simp only [mU_same, mU_mU]
    refine mw_cZ (rr_X5_inSet (d + 2)) rfl (fun v2 hv2 => ?_)
    refine Eq.trans (e_X0_ageGreen_27 h_r) ?_
    try simp only [mU_same, mU_mU]
    refine mw_ite (fun h3 => ?_) (fun h3 => ?_)
    · refine Eq.trans (e_X0_ageGreen_34 h_r) ?_
      try simp only [mU_same, mU_mU]
      exact rj_X0_ageGreen_40 d h_r
    · exact rj_X0_ageGreen_30 d h_r
theorem rr_X0_ageGreen_at (d : Nat) {X : mX} {g : mG} {i r : Nat} (h_r : r = 8 ∨ r = 9) : mCall mD X (d + 4) 27 [mr i 0, mr i r] g = some (none, mU g i (P_X0_ageGreen r (g i))) := by
  have h := rr_X0_ageGreen (X := X) d (g := g) (c := g i) h_r (i := i)
  rw [mU_self] at h
  exact h
theorem e_X0_ageRing_0 {X : mX} {call : Nat → List mV → mG → mR} {g : mG} {i r : Nat} (h_r : r = 8 ∨ r = 9) : mEv X call 0 t_X0_ageRing (mDrop t_X0_ageRing 0) [some (mr i 0), some (mr i r)] [] g = mAns (mEv X call 0 t_X0_ageRing) (mDrop t_X0_ageRing 4) [some (mr i 0), some (mr i r)] [] (call 90 [mr i r] g) := by
  rcases h_r with rfl | rfl <;> exact (mEv_2 _ _ _ _).trans rfl
theorem e_X0_ageRing_4 {X : mX} {call : Nat → List mV → mG → mR} {g : mG} {s0 : Int32} {i r : Nat} (h_r : r = 8 ∨ r = 9) : mEv X call 0 t_X0_ageRing (mDrop t_X0_ageRing 4) [some (mr i 0), some (mr i r)] [mi s0] g = if s0 = 0 then mEv X call 0 t_X0_ageRing (mDrop t_X0_ageRing 7) [some (mr i 0), some (mr i r)] [] g else mEv X call 0 t_X0_ageRing (mDrop t_X0_ageRing 8) [some (mr i 0), some (mr i r)] [] g := by
  rcases h_r with rfl | rfl <;> exact (mEv_1 _ _ _ _).trans rfl
theorem e_X0_ageRing_7 {X : mX} {call : Nat → List mV → mG → mR} {g : mG} {i r : Nat} (h_r : r = 8 ∨ r = 9) : mEv X call 0 t_X0_ageRing (mDrop t_X0_ageRing 7) [some (mr i 0), some (mr i r)] [] g = some (none, g) := by
  rcases h_r with rfl | rfl <;> exact (mEv_1 _ _ _ _).trans rfl
theorem e_X0_ageRing_8 {X : mX} {call : Nat → List mV → mG → mR} {g : mG} {i r : Nat} (h_r : r = 8 ∨ r = 9) : mEv X call 0 t_X0_ageRing (mDrop t_X0_ageRing 8) [some (mr i 0), some (mr i r)] [] g = mEv X call 0 t_X0_ageRing (mDrop t_X0_ageRing 18) [some (mr i 0), some (mr i r)] [] (mU g i (mP (g i) r 3 ((g i r 3) + 1))) := by
  rcases h_r with rfl | rfl <;> exact (mEv_6 _ _ _ _).trans rfl
theorem e_X0_ageRing_18 {X : mX} {call : Nat → List mV → mG → mR} {g : mG} {i r : Nat} (h_r : r = 8 ∨ r = 9) : mEv X call 0 t_X0_ageRing (mDrop t_X0_ageRing 18) [some (mr i 0), some (mr i r)] [] g = mAns (mEv X call 0 t_X0_ageRing) (mDrop t_X0_ageRing 22) [some (mr i 0), some (mr i r)] [] (call 91 [mr i r] g) := by
  rcases h_r with rfl | rfl <;> exact (mEv_2 _ _ _ _).trans rfl
theorem e_X0_ageRing_22 {X : mX} {call : Nat → List mV → mG → mR} {g : mG} {s0 : Int32} {i r : Nat} (h_r : r = 8 ∨ r = 9) : mEv X call 0 t_X0_ageRing (mDrop t_X0_ageRing 22) [some (mr i 0), some (mr i r)] [mi s0] g = if s0 = 0 then mEv X call 0 t_X0_ageRing (mDrop t_X0_ageRing 33) [some (mr i 0), some (mr i r)] [] g else mEv X call 0 t_X0_ageRing (mDrop t_X0_ageRing 25) [some (mr i 0), some (mr i r)] [] g := by
  rcases h_r with rfl | rfl <;> exact (mEv_1 _ _ _ _).trans rfl
theorem e_X0_ageRing_33 {X : mX} {call : Nat → List mV → mG → mR} {g : mG} {i r : Nat} (h_r : r = 8 ∨ r = 9) : mEv X call 0 t_X0_ageRing (mDrop t_X0_ageRing 33) [some (mr i 0), some (mr i r)] [] g = mAns (mEv X call 0 t_X0_ageRing) (mDrop t_X0_ageRing 46) [some (mr i 0), some (mr i r)] [mr i r] (call 57 [mr i 1, mi (g i r 1), mi 3] g) := by
  rcases h_r with rfl | rfl <;> exact (mEv_7 _ _ _ _).trans rfl
theorem e_X0_ageRing_46 {X : mX} {call : Nat → List mV → mG → mR} {g : mG} {s1 : Int32} {i r : Nat} (h_r : r = 8 ∨ r = 9) : mEv X call 0 t_X0_ageRing (mDrop t_X0_ageRing 46) [some (mr i 0), some (mr i r)] [mi s1, mr i r] g = mAns (mEv X call 0 t_X0_ageRing) (mDrop t_X0_ageRing 58) [some (mr i 0), some (mr i r)] [mi s1, mr i r] (call 57 [mr i 1, mi (g i r 1), mi 4] g) := by
  rcases h_r with rfl | rfl <;> exact (mEv_6 _ _ _ _).trans rfl
theorem e_X0_ageRing_58 {X : mX} {call : Nat → List mV → mG → mR} {g : mG} {s1 s2 : Int32} {i r : Nat} (h_r : r = 8 ∨ r = 9) : mEv X call 0 t_X0_ageRing (mDrop t_X0_ageRing 58) [some (mr i 0), some (mr i r)] [mi s2, mi s1, mr i r] g = mAns (mEv X call 0 t_X0_ageRing) (mDrop t_X0_ageRing 61) [some (mr i 0), some (mr i r)] [] (call 95 [mr i r, mi s1, mi s2] g) := by
  rcases h_r with rfl | rfl <;> exact (mEv_1 _ _ _ _).trans rfl
theorem e_X0_ageRing_61 {X : mX} {call : Nat → List mV → mG → mR} {g : mG} {i r : Nat} (h_r : r = 8 ∨ r = 9) : mEv X call 0 t_X0_ageRing (mDrop t_X0_ageRing 61) [some (mr i 0), some (mr i r)] [] g = some (none, g) := by
  rcases h_r with rfl | rfl <;> exact (mEv_1 _ _ _ _).trans rfl
theorem e_X0_ageRing_25 {X : mX} {call : Nat → List mV → mG → mR} {g : mG} {i r : Nat} (h_r : r = 8 ∨ r = 9) : mEv X call 0 t_X0_ageRing (mDrop t_X0_ageRing 25) [some (mr i 0), some (mr i r)] [] g = mAns (mEv X call 0 t_X0_ageRing) (mDrop t_X0_ageRing 30) [some (mr i 0), some (mr i r)] [] (call 27 [mr i 0, mr i r] g) := by
  rcases h_r with rfl | rfl <;> exact (mEv_3 _ _ _ _).trans rfl
theorem e_X0_ageRing_30 {X : mX} {call : Nat → List mV → mG → mR} {g : mG} {i r : Nat} (h_r : r = 8 ∨ r = 9) : mEv X call 0 t_X0_ageRing (mDrop t_X0_ageRing 30) [some (mr i 0), some (mr i r)] [] g = mEv X call 0 t_X0_ageRing (mDrop t_X0_ageRing 61) [some (mr i 0), some (mr i r)] [] g := by
  rcases h_r with rfl | rfl <;> exact (mEv_1 _ _ _ _).trans rfl
noncomputable def P_X0_ageRing (r : Nat) (c : mC) : (mC) := (mBd (α := Int32) (P_X4_holds r c) (fun v1 => (if v1 = 0 then c else (mBd (α := Int32) (P_X4_isGreen r (mP c r 3 ((c r 3) + 1))) (fun v2 => (if v2 = 0 then (mBd (α := Int32) (P_X2_markOf (mP c r 3 ((c r 3) + 1)) ((mP c r 3 ((c r 3) + 1)) r 1) 3) (fun v3 => (mBd (α := Int32) (P_X2_markOf (mP c r 3 ((c r 3) + 1)) ((mP c r 3 ((c r 3) + 1)) r 1) 4) (fun v4 => (mBd (α := mC) (P_X4_growDark r (mP c r 3 ((c r 3) + 1)) v3 v4) (fun c5 => c5)))))) else (mBd (α := mC) (P_X0_ageGreen r (mP c r 3 ((c r 3) + 1))) (fun c6 => c6))))))))
theorem rr_X0_ageRing (d : Nat) {X : mX} {g : mG} {i r : Nat} (h_r : r = 8 ∨ r = 9) {c : mC} : mCall mD X (d + 5) 26 [mr i 0, mr i r] (mU g i c) = (wV g i) (P_X0_ageRing r c) := by
  refine Eq.trans (mCall_eq (d := d + 4) rfl) ?_
  show mEv X (mCall mD X (d + 4)) 0 t_X0_ageRing (mDrop t_X0_ageRing 0) [some (mr i 0), some (mr i r)] [] (mU g i c) = _
  refine Eq.trans (e_X0_ageRing_0 h_r) ?_
  try simp only [mU_same, mU_mU]
  refine mw_cZ (rr_X4_holds (d + 3) h_r) rfl (fun v1 hv1 => ?_)
  refine Eq.trans (e_X0_ageRing_4 h_r) ?_
  try simp only [mU_same, mU_mU]
  refine mw_ite (fun h8 => ?_) (fun h8 => ?_)
  · refine Eq.trans (e_X0_ageRing_7 h_r) ?_
    try simp only [mU_same, mU_mU]
    all_goals rfl
  · refine Eq.trans (e_X0_ageRing_8 h_r) ?_
    try simp only [mU_same, mU_mU]
    refine Eq.trans (e_X0_ageRing_18 h_r) ?_
    try simp only [mU_same, mU_mU]
    refine mw_cZ (rr_X4_isGreen (d + 3) h_r) rfl (fun v2 hv2 => ?_)
    refine Eq.trans (e_X0_ageRing_22 h_r) ?_
    try simp only [mU_same, mU_mU]
    refine mw_ite (fun h7 => ?_) (fun h7 => ?_)
    · refine Eq.trans (e_X0_ageRing_33 h_r) ?_
      try simp only [mU_same, mU_mU]
      refine mw_cI (rr_X2_markOf (d + 3)) (fun v3 => ?_)
      refine Eq.trans (e_X0_ageRing_46 h_r) ?_
      try simp only [mU_same, mU_mU]
      refine mw_cI (rr_X2_markOf (d + 3)) (fun v4 => ?_)
      refine Eq.trans (e_X0_ageRing_58 h_r) ?_
      try simp only [mU_same, mU_mU]
      refine mw_cV (rr_X4_growDark (d + 2) h_r) (fun c5 => ?_)
      refine Eq.trans (e_X0_ageRing_61 h_r) ?_
      try simp only [mU_same, mU_mU]
      all_goals rfl
    · refine Eq.trans (e_X0_ageRing_25 h_r) ?_
      try simp only [mU_same, mU_mU]
      refine mw_cV (rr_X0_ageGreen d h_r) (fun c6 => ?_)
      refine Eq.trans (e_X0_ageRing_30 h_r) ?_
      try simp only [mU_same, mU_mU]
      refine Eq.trans (e_X0_ageRing_61 h_r) ?_
      try simp only [mU_same, mU_mU]
      all_goals rfl
theorem rr_X0_ageRing_at (d : Nat) {X : mX} {g : mG} {i r : Nat} (h_r : r = 8 ∨ r = 9) : mCall mD X (d + 5) 26 [mr i 0, mr i r] g = some (none, mU g i (P_X0_ageRing r (g i))) := by
  have h := rr_X0_ageRing (X := X) d (g := g) (c := g i) h_r (i := i)
  rw [mU_self] at h
  exact h
theorem e_X2_breakOf_0 {X : mX} {call : Nat → List mV → mG → mR} {g : mG} {x1 x2 : Int32} {i : Nat} : mEv X call 1 t_X2_breakOf (mDrop t_X2_breakOf 0) [some (mr i 1), some (mi x1), some (mi x2)] [] g = mAns (mEv X call 1 t_X2_breakOf) (mDrop t_X2_breakOf 12) [some (mr i 1), some (mi x1), some (mi x2)] [] (call 142 [mr i 6, mi ((x1 * 5) + x2)] g) := (mEv_8 _ _ _ _).trans rfl
theorem e_X2_breakOf_12 {X : mX} {call : Nat → List mV → mG → mR} {g : mG} {x1 x2 s0 : Int32} {i : Nat} : mEv X call 1 t_X2_breakOf (mDrop t_X2_breakOf 12) [some (mr i 1), some (mi x1), some (mi x2)] [mi s0] g = some (some (mi s0), g) := (mEv_1 _ _ _ _).trans rfl
noncomputable def P_X2_breakOf (c : mC) (x1 : Int32) (x2 : Int32) : (Int32) := (mBd (α := Int32) (cl 10 (c 6) ((x1 * 5) + x2)) (fun v1 => v1))
theorem rr_X2_breakOf (d : Nat) {X : mX} {g : mG} {i : Nat} {x1 x2 : Int32} {c : mC} : mCall mD X (d + 2) 59 [mr i 1, mi x1, mi x2] (mU g i c) = (wI g i c) (P_X2_breakOf c x1 x2) := by
  refine Eq.trans (mCall_eq (d := d + 1) rfl) ?_
  show mEv X (mCall mD X (d + 1)) 1 t_X2_breakOf (mDrop t_X2_breakOf 0) [some (mr i 1), some (mi x1), some (mi x2)] [] (mU g i c) = _
  refine Eq.trans (e_X2_breakOf_0) ?_
  try simp only [mU_same, mU_mU]
  refine mw_cI (rr_X5_cell_6 d) (fun v1 => ?_)
  refine Eq.trans (e_X2_breakOf_12) ?_
  try simp only [mU_same, mU_mU]
  all_goals rfl
theorem rr_X2_breakOf_at (d : Nat) {X : mX} {g : mG} {i : Nat} {x1 x2 : Int32} : mCall mD X (d + 2) 59 [mr i 1, mi x1, mi x2] g = wN g (P_X2_breakOf (g i) x1 x2) := by
  have h := rr_X2_breakOf (X := X) d (g := g) (c := g i) (x1 := x1) (x2 := x2) (i := i)
  rw [mU_self] at h
  exact h.trans (wI_self _ _ _)
theorem e_X0_beginBreak_0 {X : mX} {call : Nat → List mV → mG → mR} {g : mG} {x1 : Int32} {i : Nat} : mEv X call 0 t_X0_beginBreak (mDrop t_X0_beginBreak 0) [some (mr i 0), some (mi x1)] [] g = mEv X call 0 t_X0_beginBreak (mDrop t_X0_beginBreak 5) [some (mr i 0), some (mi x1)] [] (mU g i (mP (g i) 0 16 x1)) := (mEv_3 _ _ _ _).trans rfl
theorem e_X0_beginBreak_5 {X : mX} {call : Nat → List mV → mG → mR} {g : mG} {x1 : Int32} {i : Nat} : mEv X call 0 t_X0_beginBreak (mDrop t_X0_beginBreak 5) [some (mr i 0), some (mi x1)] [] g = mAns (mEv X call 0 t_X0_beginBreak) (mDrop t_X0_beginBreak 15) [some (mr i 0), some (mi x1)] [mr i 0] (call 59 [mr i 1, mi x1, mi 0] g) := (mEv_6 _ _ _ _).trans rfl
theorem e_X0_beginBreak_15 {X : mX} {call : Nat → List mV → mG → mR} {g : mG} {x1 s1 : Int32} {i : Nat} : mEv X call 0 t_X0_beginBreak (mDrop t_X0_beginBreak 15) [some (mr i 0), some (mi x1)] [mi s1, mr i 0] g = if s1 = 0 then mEv X call 0 t_X0_beginBreak (mDrop t_X0_beginBreak 22) [some (mr i 0), some (mi x1)] [mr i 0] g else mEv X call 0 t_X0_beginBreak (mDrop t_X0_beginBreak 18) [some (mr i 0), some (mi x1)] [mr i 0] g := (mEv_1 _ _ _ _).trans rfl
theorem e_X0_beginBreak_22 {X : mX} {call : Nat → List mV → mG → mR} {g : mG} {x1 : Int32} {i : Nat} : mEv X call 0 t_X0_beginBreak (mDrop t_X0_beginBreak 22) [some (mr i 0), some (mi x1)] [mr i 0] g = mEv X call 0 t_X0_beginBreak (mDrop t_X0_beginBreak 23) [some (mr i 0), some (mi x1)] [mi 3, mr i 0] g := (mEv_1 _ _ _ _).trans rfl
theorem e_X0_beginBreak_23 {X : mX} {call : Nat → List mV → mG → mR} {g : mG} {x1 s1 : Int32} {i : Nat} : mEv X call 0 t_X0_beginBreak (mDrop t_X0_beginBreak 23) [some (mr i 0), some (mi x1)] [mi s1, mr i 0] g = mEv X call 0 t_X0_beginBreak (mDrop t_X0_beginBreak 26) [some (mr i 0), some (mi x1)] [] (mU g i (mP (g i) 0 17 s1)) := (mEv_1 _ _ _ _).trans rfl
theorem e_X0_beginBreak_26 {X : mX} {call : Nat → List mV → mG → mR} {g : mG} {x1 : Int32} {i : Nat} : mEv X call 0 t_X0_beginBreak (mDrop t_X0_beginBreak 26) [some (mr i 0), some (mi x1)] [] g = mEv X call 0 t_X0_beginBreak (mDrop t_X0_beginBreak 31) [some (mr i 0), some (mi x1)] [] (mU g i (mP (g i) 0 18 0)) := (mEv_3 _ _ _ _).trans rfl
theorem e_X0_beginBreak_31 {X : mX} {call : Nat → List mV → mG → mR} {g : mG} {x1 : Int32} {i : Nat} : mEv X call 0 t_X0_beginBreak (mDrop t_X0_beginBreak 31) [some (mr i 0), some (mi x1)] [] g = mAns (mEv X call 0 t_X0_beginBreak) (mDrop t_X0_beginBreak 44) [some (mr i 0), some (mi x1)] [] (call 49 [mr i 10, mi 2, mi (g i 0 12), mi x1] g) := (mEv_7 _ _ _ _).trans rfl
theorem e_X0_beginBreak_44 {X : mX} {call : Nat → List mV → mG → mR} {g : mG} {x1 : Int32} {i : Nat} : mEv X call 0 t_X0_beginBreak (mDrop t_X0_beginBreak 44) [some (mr i 0), some (mi x1)] [] g = some (none, g) := (mEv_1 _ _ _ _).trans rfl
noncomputable def J_X0_beginBreak_23 (c : mC) (x1 : Int32) (s1 : Int32) : (mC) := (mBd (α := mC) (P_X1_note (mP (mP c 0 17 s1) 0 18 0) 2 ((mP (mP c 0 17 s1) 0 18 0) 0 12) x1) (fun c1 => c1))
theorem rj_X0_beginBreak_23 (d : Nat) {X : mX} {g : mG} {i : Nat} {x1 s1 : Int32} {c : mC} : mEv X (mCall mD X (d + 2)) 0 t_X0_beginBreak (mDrop t_X0_beginBreak 23) [some (mr i 0), some (mi x1)] [mi s1, mr i 0] (mU g i c) = (wV g i) (J_X0_beginBreak_23 c x1 s1) := by
  refine Eq.trans (e_X0_beginBreak_23) ?_
  try simp only [mU_same, mU_mU]
  refine Eq.trans (e_X0_beginBreak_26) ?_
  try simp only [mU_same, mU_mU]
  refine Eq.trans (e_X0_beginBreak_31) ?_
  try simp only [mU_same, mU_mU]
  refine mw_cV (rr_X1_note d) (fun c1 => ?_)
  refine Eq.trans (e_X0_beginBreak_44) ?_
  try simp only [mU_same, mU_mU]
  all_goals rfl
theorem e_X0_beginBreak_18 {X : mX} {call : Nat → List mV → mG → mR} {g : mG} {x1 : Int32} {i : Nat} : mEv X call 0 t_X0_beginBreak (mDrop t_X0_beginBreak 18) [some (mr i 0), some (mi x1)] [mr i 0] g = mEv X call 0 t_X0_beginBreak (mDrop t_X0_beginBreak 23) [some (mr i 0), some (mi x1)] [mi 1, mr i 0] g := (mEv_2 _ _ _ _).trans rfl
noncomputable def P_X0_beginBreak (c : mC) (x1 : Int32) : (mC) := (mBd (α := Int32) (P_X2_breakOf (mP c 0 16 x1) x1 0) (fun v1 => (if v1 = 0 then (J_X0_beginBreak_23 (mP c 0 16 x1) x1 3) else (J_X0_beginBreak_23 (mP c 0 16 x1) x1 1))))
theorem rr_X0_beginBreak (d : Nat) {X : mX} {g : mG} {i : Nat} {x1 : Int32} {c : mC} : mCall mD X (d + 3) 39 [mr i 0, mi x1] (mU g i c) = (wV g i) (P_X0_beginBreak c x1) := by
  refine Eq.trans (mCall_eq (d := d + 2) rfl) ?_
  show mEv X (mCall mD X (d + 2)) 0 t_X0_beginBreak (mDrop t_X0_beginBreak 0) [some (mr i 0), some (mi x1)] [] (mU g i c) = _
  refine Eq.trans (e_X0_beginBreak_0) ?_
  try simp only [mU_same, mU_mU]
  refine Eq.trans (e_X0_beginBreak_5) ?_
  try simp only [mU_same, mU_mU]
  refine mw_cI (rr_X2_breakOf d) (fun v1 => ?_)
  refine Eq.trans (e_X0_beginBreak_15) ?_
  try simp only [mU_same, mU_mU]
  refine mw_ite (fun h2 => ?_) (fun h2 => ?_)
  · refine Eq.trans (e_X0_beginBreak_22) ?_
    try simp only [mU_same, mU_mU]
    exact rj_X0_beginBreak_23 d
  · refine Eq.trans (e_X0_beginBreak_18) ?_
    try simp only [mU_same, mU_mU]
    exact rj_X0_beginBreak_23 d
theorem rr_X0_beginBreak_at (d : Nat) {X : mX} {g : mG} {i : Nat} {x1 : Int32} : mCall mD X (d + 3) 39 [mr i 0, mi x1] g = some (none, mU g i (P_X0_beginBreak (g i) x1)) := by
  have h := rr_X0_beginBreak (X := X) d (g := g) (c := g i) (x1 := x1) (i := i)
  rw [mU_self] at h
  exact h
theorem e_X0_beginWanted_0 {X : mX} {call : Nat → List mV → mG → mR} {g : mG} {i : Nat} : mEv X call 0 t_X0_beginWanted (mDrop t_X0_beginWanted 0) [some (mr i 0)] [] g = mAns (mEv X call 0 t_X0_beginWanted) (mDrop t_X0_beginWanted 8) [some (mr i 0)] [] (call 149 [mi (g i 0 11), mi 0] g) := (mEv_4 _ _ _ _).trans rfl
theorem e_X0_beginWanted_8 {X : mX} {call : Nat → List mV → mG → mR} {g : mG} {s0 : Int32} {i : Nat} : mEv X call 0 t_X0_beginWanted (mDrop t_X0_beginWanted 8) [some (mr i 0)] [mi s0] g = if s0 = 0 then mEv X call 0 t_X0_beginWanted (mDrop t_X0_beginWanted 19) [some (mr i 0)] [] g else mEv X call 0 t_X0_beginWanted (mDrop t_X0_beginWanted 11) [some (mr i 0)] [] g := (mEv_1 _ _ _ _).trans rfl
theorem e_X0_beginWanted_19 {X : mX} {call : Nat → List mV → mG → mR} {g : mG} {i : Nat} : mEv X call 0 t_X0_beginWanted (mDrop t_X0_beginWanted 19) [some (mr i 0)] [] g = mAns (mEv X call 0 t_X0_beginWanted) (mDrop t_X0_beginWanted 27) [some (mr i 0)] [] (call 149 [mi (g i 0 11), mi 1] g) := (mEv_4 _ _ _ _).trans rfl
theorem e_X0_beginWanted_27 {X : mX} {call : Nat → List mV → mG → mR} {g : mG} {s0 : Int32} {i : Nat} : mEv X call 0 t_X0_beginWanted (mDrop t_X0_beginWanted 27) [some (mr i 0)] [mi s0] g = if s0 = 0 then mEv X call 0 t_X0_beginWanted (mDrop t_X0_beginWanted 35) [some (mr i 0)] [] g else mEv X call 0 t_X0_beginWanted (mDrop t_X0_beginWanted 30) [some (mr i 0)] [] g := (mEv_1 _ _ _ _).trans rfl
theorem e_X0_beginWanted_35 {X : mX} {call : Nat → List mV → mG → mR} {g : mG} {i : Nat} : mEv X call 0 t_X0_beginWanted (mDrop t_X0_beginWanted 35) [some (mr i 0)] [] g = some (none, g) := (mEv_1 _ _ _ _).trans rfl
theorem e_X0_beginWanted_30 {X : mX} {call : Nat → List mV → mG → mR} {g : mG} {i : Nat} : mEv X call 0 t_X0_beginWanted (mDrop t_X0_beginWanted 30) [some (mr i 0)] [] g = mAns (mEv X call 0 t_X0_beginWanted) (mDrop t_X0_beginWanted 35) [some (mr i 0)] [] (call 39 [mr i 0, mi 1] g) := (mEv_3 _ _ _ _).trans rfl
theorem e_X0_beginWanted_11 {X : mX} {call : Nat → List mV → mG → mR} {g : mG} {i : Nat} : mEv X call 0 t_X0_beginWanted (mDrop t_X0_beginWanted 11) [some (mr i 0)] [] g = mAns (mEv X call 0 t_X0_beginWanted) (mDrop t_X0_beginWanted 16) [some (mr i 0)] [] (call 39 [mr i 0, mi 0] g) := (mEv_3 _ _ _ _).trans rfl
theorem e_X0_beginWanted_16 {X : mX} {call : Nat → List mV → mG → mR} {g : mG} {i : Nat} : mEv X call 0 t_X0_beginWanted (mDrop t_X0_beginWanted 16) [some (mr i 0)] [] g = mEv X call 0 t_X0_beginWanted (mDrop t_X0_beginWanted 35) [some (mr i 0)] [] g := (mEv_1 _ _ _ _).trans rfl
noncomputable def P_X0_beginWanted (c : mC) : (mC) := (mBd (α := Int32) (P_X5_inSet (c 0 11) 0) (fun v1 => (if v1 = 0 then (mBd (α := Int32) (P_X5_inSet (c 0 11) 1) (fun v2 => (if v2 = 0 then c else (mBd (α := mC) (P_X0_beginBreak c 1) (fun c3 => c3))))) else (mBd (α := mC) (P_X0_beginBreak c 0) (fun c5 => c5)))))
theorem rr_X0_beginWanted (d : Nat) {X : mX} {g : mG} {i : Nat} {c : mC} : mCall mD X (d + 4) 38 [mr i 0] (mU g i c) = (wV g i) (P_X0_beginWanted c) := by
  refine Eq.trans (mCall_eq (d := d + 3) rfl) ?_
  show mEv X (mCall mD X (d + 3)) 0 t_X0_beginWanted (mDrop t_X0_beginWanted 0) [some (mr i 0)] [] (mU g i c) = _
  refine Eq.trans (e_X0_beginWanted_0) ?_
  try simp only [mU_same, mU_mU]
  refine mw_cZ (rr_X5_inSet (d + 2)) rfl (fun v1 hv1 => ?_)
  refine Eq.trans (e_X0_beginWanted_8) ?_
  try simp only [mU_same, mU_mU]
  refine mw_ite (fun h6 => ?_) (fun h6 => ?_)
  · refine Eq.trans (e_X0_beginWanted_19) ?_
    try simp only [mU_same, mU_mU]
    refine mw_cZ (rr_X5_inSet (d + 2)) rfl (fun v2 hv2 => ?_)
    refine Eq.trans (e_X0_beginWanted_27) ?_
    try simp only [mU_same, mU_mU]
    refine mw_ite (fun h4 => ?_) (fun h4 => ?_)
    · refine Eq.trans (e_X0_beginWanted_35) ?_
      try simp only [mU_same, mU_mU]
      all_goals rfl
    · refine Eq.trans (e_X0_beginWanted_30) ?_
      try simp only [mU_same, mU_mU]
      refine mw_cV (rr_X0_beginBreak d) (fun c3 => ?_)
      refine Eq.trans (e_X0_beginWanted_35) ?_
      try simp only [mU_same, mU_mU]
      all_goals rfl
  · refine Eq.trans (e_X0_beginWanted_11) ?_
    try simp only [mU_same, mU_mU]
    refine mw_cV (rr_X0_beginBreak d) (fun c5 => ?_)
    refine Eq.trans (e_X0_beginWanted_16) ?_
    try simp only [mU_same, mU_mU]
    refine Eq.trans (e_X0_beginWanted_35) ?_
    try simp only [mU_same, mU_mU]
    all_goals rfl
theorem rr_X0_beginWanted_at (d : Nat) {X : mX} {g : mG} {i : Nat} : mCall mD X (d + 4) 38 [mr i 0] g = some (none, mU g i (P_X0_beginWanted (g i))) := by
  have h := rr_X0_beginWanted (X := X) d (g := g) (c := g i) (i := i)
  rw [mU_self] at h
  exact h
theorem e_X0_goTo_0 {X : mX} {call : Nat → List mV → mG → mR} {g : mG} {x2 : Int32} {i r : Nat} (h_r : r = 8 ∨ r = 9) : mEv X call 0 t_X0_goTo (mDrop t_X0_goTo 0) [some (mr i 0), some (mr i r), some (mi x2)] [] g = mAns (mEv X call 0 t_X0_goTo) (mDrop t_X0_goTo 4) [some (mr i 0), some (mr i r), some (mi x2)] [] (call 90 [mr i r] g) := by
  rcases h_r with rfl | rfl <;> exact (mEv_2 _ _ _ _).trans rfl
theorem e_X0_goTo_4 {X : mX} {call : Nat → List mV → mG → mR} {g : mG} {x2 s0 : Int32} {i r : Nat} (h_r : r = 8 ∨ r = 9) : mEv X call 0 t_X0_goTo (mDrop t_X0_goTo 4) [some (mr i 0), some (mr i r), some (mi x2)] [mi s0] g = if s0 = 0 then mEv X call 0 t_X0_goTo (mDrop t_X0_goTo 31) [some (mr i 0), some (mr i r), some (mi x2)] [] g else mEv X call 0 t_X0_goTo (mDrop t_X0_goTo 7) [some (mr i 0), some (mr i r), some (mi x2)] [] g := by
  rcases h_r with rfl | rfl <;> exact (mEv_1 _ _ _ _).trans rfl
theorem e_X0_goTo_31 {X : mX} {call : Nat → List mV → mG → mR} {g : mG} {x2 : Int32} {i r : Nat} (h_r : r = 8 ∨ r = 9) : mEv X call 0 t_X0_goTo (mDrop t_X0_goTo 31) [some (mr i 0), some (mr i r), some (mi x2)] [] g = mEv X call 0 t_X0_goTo (mDrop t_X0_goTo 36) [some (mr i 0), some (mr i r), some (mi x2)] [] (mU g i (mP (g i) r 4 x2)) := by
  rcases h_r with rfl | rfl <;> exact (mEv_3 _ _ _ _).trans rfl
theorem e_X0_goTo_36 {X : mX} {call : Nat → List mV → mG → mR} {g : mG} {x2 : Int32} {i r : Nat} (h_r : r = 8 ∨ r = 9) : mEv X call 0 t_X0_goTo (mDrop t_X0_goTo 36) [some (mr i 0), some (mr i r), some (mi x2)] [] g = some (none, g) := by
  rcases h_r with rfl | rfl <;> exact (mEv_1 _ _ _ _).trans rfl
theorem e_X0_goTo_7 {X : mX} {call : Nat → List mV → mG → mR} {g : mG} {x2 : Int32} {i r : Nat} (h_r : r = 8 ∨ r = 9) : mEv X call 0 t_X0_goTo (mDrop t_X0_goTo 7) [some (mr i 0), some (mr i r), some (mi x2)] [] g = mAns (mEv X call 0 t_X0_goTo) (mDrop t_X0_goTo 23) [some (mr i 0), some (mr i r), some (mi x2)] [] (call 49 [mr i 10, mi 1, mi (g i 0 12), mi (g i r 1)] g) := by
  rcases h_r with rfl | rfl <;> exact (mEv_8 _ _ _ _).trans rfl
theorem e_X0_goTo_23 {X : mX} {call : Nat → List mV → mG → mR} {g : mG} {x2 : Int32} {i r : Nat} (h_r : r = 8 ∨ r = 9) : mEv X call 0 t_X0_goTo (mDrop t_X0_goTo 23) [some (mr i 0), some (mr i r), some (mi x2)] [] g = mAns (mEv X call 0 t_X0_goTo) (mDrop t_X0_goTo 28) [some (mr i 0), some (mr i r), some (mi x2)] [] (call 94 [mr i r, mi x2] g) := by
  rcases h_r with rfl | rfl <;> exact (mEv_3 _ _ _ _).trans rfl
theorem e_X0_goTo_28 {X : mX} {call : Nat → List mV → mG → mR} {g : mG} {x2 : Int32} {i r : Nat} (h_r : r = 8 ∨ r = 9) : mEv X call 0 t_X0_goTo (mDrop t_X0_goTo 28) [some (mr i 0), some (mr i r), some (mi x2)] [] g = mEv X call 0 t_X0_goTo (mDrop t_X0_goTo 36) [some (mr i 0), some (mr i r), some (mi x2)] [] g := by
  rcases h_r with rfl | rfl <;> exact (mEv_1 _ _ _ _).trans rfl
noncomputable def P_X0_goTo (r : Nat) (c : mC) (x2 : Int32) : (mC) := (mBd (α := Int32) (P_X4_holds r c) (fun v1 => (if v1 = 0 then (mP c r 4 x2) else (mBd (α := mC) (P_X1_note c 1 (c 0 12) (c r 1)) (fun c2 => (mBd (α := mC) (P_X4_turnYellow r c2 x2) (fun c3 => c3)))))))
theorem rr_X0_goTo (d : Nat) {X : mX} {g : mG} {i r : Nat} (h_r : r = 8 ∨ r = 9) {x2 : Int32} {c : mC} : mCall mD X (d + 3) 28 [mr i 0, mr i r, mi x2] (mU g i c) = (wV g i) (P_X0_goTo r c x2) := by
  refine Eq.trans (mCall_eq (d := d + 2) rfl) ?_
  show mEv X (mCall mD X (d + 2)) 0 t_X0_goTo (mDrop t_X0_goTo 0) [some (mr i 0), some (mr i r), some (mi x2)] [] (mU g i c) = _
  refine Eq.trans (e_X0_goTo_0 h_r) ?_
  try simp only [mU_same, mU_mU]
  refine mw_cZ (rr_X4_holds (d + 1) h_r) rfl (fun v1 hv1 => ?_)
  refine Eq.trans (e_X0_goTo_4 h_r) ?_
  try simp only [mU_same, mU_mU]
  refine mw_ite (fun h4 => ?_) (fun h4 => ?_)
  · refine Eq.trans (e_X0_goTo_31 h_r) ?_
    try simp only [mU_same, mU_mU]
    refine Eq.trans (e_X0_goTo_36 h_r) ?_
    try simp only [mU_same, mU_mU]
    all_goals rfl
  · refine Eq.trans (e_X0_goTo_7 h_r) ?_
    try simp only [mU_same, mU_mU]
    refine mw_cV (rr_X1_note d) (fun c2 => ?_)
    refine Eq.trans (e_X0_goTo_23 h_r) ?_
    try simp only [mU_same, mU_mU]
    refine mw_cV (rr_X4_turnYellow (d + 1) h_r) (fun c3 => ?_)
    refine Eq.trans (e_X0_goTo_28 h_r) ?_
    try simp only [mU_same, mU_mU]
    refine Eq.trans (e_X0_goTo_36 h_r) ?_
    try simp only [mU_same, mU_mU]
    all_goals rfl
theorem rr_X0_goTo_at (d : Nat) {X : mX} {g : mG} {i r : Nat} (h_r : r = 8 ∨ r = 9) {x2 : Int32} : mCall mD X (d + 3) 28 [mr i 0, mr i r, mi x2] g = some (none, mU g i (P_X0_goTo r (g i) x2)) := by
  have h := rr_X0_goTo (X := X) d (g := g) (c := g i) h_r (x2 := x2) (i := i)
  rw [mU_self] at h
  exact h
theorem e_X0_steer_0 {X : mX} {call : Nat → List mV → mG → mR} {g : mG} {x2 : Int32} {i r : Nat} (h_r : r = 8 ∨ r = 9) : mEv X call 0 t_X0_steer (mDrop t_X0_steer 0) [some (mr i 0), some (mr i r), some (mi x2)] [] g = mAns (mEv X call 0 t_X0_steer) (mDrop t_X0_steer 4) [some (mr i 0), some (mr i r), some (mi x2)] [] (call 91 [mr i r] g) := by
  rcases h_r with rfl | rfl <;> exact (mEv_2 _ _ _ _).trans rfl
theorem e_X0_steer_4 {X : mX} {call : Nat → List mV → mG → mR} {g : mG} {x2 s0 : Int32} {i r : Nat} (h_r : r = 8 ∨ r = 9) : mEv X call 0 t_X0_steer (mDrop t_X0_steer 4) [some (mr i 0), some (mr i r), some (mi x2)] [mi s0] g = if s0 = 0 then mEv X call 0 t_X0_steer (mDrop t_X0_steer 7) [some (mr i 0), some (mr i r), some (mi x2)] [] g else mEv X call 0 t_X0_steer (mDrop t_X0_steer 13) [some (mr i 0), some (mr i r), some (mi x2)] [] g := by
  rcases h_r with rfl | rfl <;> exact (mEv_1 _ _ _ _).trans rfl
theorem e_X0_steer_7 {X : mX} {call : Nat → List mV → mG → mR} {g : mG} {x2 : Int32} {i r : Nat} (h_r : r = 8 ∨ r = 9) : mEv X call 0 t_X0_steer (mDrop t_X0_steer 7) [some (mr i 0), some (mr i r), some (mi x2)] [] g = mEv X call 0 t_X0_steer (mDrop t_X0_steer 12) [some (mr i 0), some (mr i r), some (mi x2)] [] (mU g i (mP (g i) r 4 x2)) := by
  rcases h_r with rfl | rfl <;> exact (mEv_3 _ _ _ _).trans rfl
theorem e_X0_steer_12 {X : mX} {call : Nat → List mV → mG → mR} {g : mG} {x2 : Int32} {i r : Nat} (h_r : r = 8 ∨ r = 9) : mEv X call 0 t_X0_steer (mDrop t_X0_steer 12) [some (mr i 0), some (mr i r), some (mi x2)] [] g = some (none, g) := by
  rcases h_r with rfl | rfl <;> exact (mEv_1 _ _ _ _).trans rfl
theorem e_X0_steer_13 {X : mX} {call : Nat → List mV → mG → mR} {g : mG} {x2 : Int32} {i r : Nat} (h_r : r = 8 ∨ r = 9) : mEv X call 0 t_X0_steer (mDrop t_X0_steer 13) [some (mr i 0), some (mr i r), some (mi x2)] [] g = if (g i r 1) = x2 then mEv X call 0 t_X0_steer (mDrop t_X0_steer 21) [some (mr i 0), some (mr i r), some (mi x2)] [] g else mEv X call 0 t_X0_steer (mDrop t_X0_steer 22) [some (mr i 0), some (mr i r), some (mi x2)] [] g := by
  rcases h_r with rfl | rfl <;> exact (mEv_4 _ _ _ _).trans rfl
theorem e_X0_steer_21 {X : mX} {call : Nat → List mV → mG → mR} {g : mG} {x2 : Int32} {i r : Nat} (h_r : r = 8 ∨ r = 9) : mEv X call 0 t_X0_steer (mDrop t_X0_steer 21) [some (mr i 0), some (mr i r), some (mi x2)] [] g = some (none, g) := by
  rcases h_r with rfl | rfl <;> exact (mEv_1 _ _ _ _).trans rfl
theorem e_X0_steer_22 {X : mX} {call : Nat → List mV → mG → mR} {g : mG} {x2 : Int32} {i r : Nat} (h_r : r = 8 ∨ r = 9) : mEv X call 0 t_X0_steer (mDrop t_X0_steer 22) [some (mr i 0), some (mr i r), some (mi x2)] [] g = if (g i r 7) = 1 then mEv X call 0 t_X0_steer (mDrop t_X0_steer 30) [some (mr i 0), some (mr i r), some (mi x2)] [] g else mEv X call 0 t_X0_steer (mDrop t_X0_steer 40) [some (mr i 0), some (mr i r), some (mi x2)] [] g := by
  rcases h_r with rfl | rfl <;> exact (mEv_4 _ _ _ _).trans rfl
theorem e_X0_steer_30 {X : mX} {call : Nat → List mV → mG → mR} {g : mG} {x2 : Int32} {i r : Nat} (h_r : r = 8 ∨ r = 9) : mEv X call 0 t_X0_steer (mDrop t_X0_steer 30) [some (mr i 0), some (mr i r), some (mi x2)] [] g = mEv X call 0 t_X0_steer (mDrop t_X0_steer 35) [some (mr i 0), some (mr i r), some (mi x2)] [] (mU g i (mP (g i) r 7 2)) := by
  rcases h_r with rfl | rfl <;> exact (mEv_3 _ _ _ _).trans rfl
theorem e_X0_steer_35 {X : mX} {call : Nat → List mV → mG → mR} {g : mG} {x2 : Int32} {i r : Nat} (h_r : r = 8 ∨ r = 9) : mEv X call 0 t_X0_steer (mDrop t_X0_steer 35) [some (mr i 0), some (mr i r), some (mi x2)] [] g = mEv X call 0 t_X0_steer (mDrop t_X0_steer 40) [some (mr i 0), some (mr i r), some (mi x2)] [] (mU g i (mP (g i) r 8 0)) := by
  rcases h_r with rfl | rfl <;> exact (mEv_3 _ _ _ _).trans rfl
theorem e_X0_steer_40 {X : mX} {call : Nat → List mV → mG → mR} {g : mG} {x2 : Int32} {i r : Nat} (h_r : r = 8 ∨ r = 9) : mEv X call 0 t_X0_steer (mDrop t_X0_steer 40) [some (mr i 0), some (mr i r), some (mi x2)] [] g = if (g i r 7) = 0 then mEv X call 0 t_X0_steer (mDrop t_X0_steer 66) [some (mr i 0), some (mr i r), some (mi x2)] [] g else mEv X call 0 t_X0_steer (mDrop t_X0_steer 47) [some (mr i 0), some (mr i r), some (mi x2)] [] g := by
  rcases h_r with rfl | rfl <;> exact (mEv_3 _ _ _ _).trans rfl
theorem e_X0_steer_66 {X : mX} {call : Nat → List mV → mG → mR} {g : mG} {x2 : Int32} {i r : Nat} (h_r : r = 8 ∨ r = 9) : mEv X call 0 t_X0_steer (mDrop t_X0_steer 66) [some (mr i 0), some (mr i r), some (mi x2)] [] g = mAns (mEv X call 0 t_X0_steer) (mDrop t_X0_steer 72) [some (mr i 0), some (mr i r), some (mi x2)] [] (call 28 [mr i 0, mr i r, mi x2] g) := by
  rcases h_r with rfl | rfl <;> exact (mEv_4 _ _ _ _).trans rfl
theorem e_X0_steer_72 {X : mX} {call : Nat → List mV → mG → mR} {g : mG} {x2 : Int32} {i r : Nat} (h_r : r = 8 ∨ r = 9) : mEv X call 0 t_X0_steer (mDrop t_X0_steer 72) [some (mr i 0), some (mr i r), some (mi x2)] [] g = some (none, g) := by
  rcases h_r with rfl | rfl <;> exact (mEv_1 _ _ _ _).trans rfl
noncomputable def J_X0_steer_66 (r : Nat) (c : mC) (x2 : Int32) : (mC) := (mBd (α := mC) (P_X0_goTo r c x2) (fun c1 => c1))
theorem rj_X0_steer_66 (d : Nat) {X : mX} {g : mG} {i r : Nat} (h_r : r = 8 ∨ r = 9) {x2 : Int32} {c : mC} : mEv X (mCall mD X (d + 3)) 0 t_X0_steer (mDrop t_X0_steer 66) [some (mr i 0), some (mr i r), some (mi x2)] [] (mU g i c) = (wV g i) (J_X0_steer_66 r c x2) := by
  refine Eq.trans (e_X0_steer_66 h_r) ?_
  try simp only [mU_same, mU_mU]
  refine mw_cV (rr_X0_goTo d h_r) (fun c1 => ?_)
  refine Eq.trans (e_X0_steer_72 h_r) ?_
  try simp only [mU_same, mU_mU]
  all_goals rfl
theorem e_X0_steer_47 {X : mX} {call : Nat → List mV → mG → mR} {g : mG} {x2 : Int32} {i r : Nat} (h_r : r = 8 ∨ r = 9) : mEv X call 0 t_X0_steer (mDrop t_X0_steer 47) [some (mr i 0), some (mr i r), some (mi x2)] [] g = mAns (mEv X call 0 t_X0_steer) (mDrop t_X0_steer 63) [some (mr i 0), some (mr i r), some (mi x2)] [mi (g i r 8)] (call 59 [mr i 1, mi (g i 0 16), mi 4] g) := by
  rcases h_r with rfl | rfl <;> exact (mEv_8 _ _ _ _).trans rfl
theorem e_X0_steer_63 {X : mX} {call : Nat → List mV → mG → mR} {g : mG} {x2 s0 s1 : Int32} {i r : Nat} (h_r : r = 8 ∨ r = 9) : mEv X call 0 t_X0_steer (mDrop t_X0_steer 63) [some (mr i 0), some (mr i r), some (mi x2)] [mi s1, mi s0] g = if s0 < s1 then mEv X call 0 t_X0_steer (mDrop t_X0_steer 72) [some (mr i 0), some (mr i r), some (mi x2)] [] g else mEv X call 0 t_X0_steer (mDrop t_X0_steer 66) [some (mr i 0), some (mr i r), some (mi x2)] [] g := by
  rcases h_r with rfl | rfl <;> exact (mEv_1 _ _ _ _).trans rfl
noncomputable def J_X0_steer_40 (r : Nat) (c : mC) (x2 : Int32) : (mC) := (if (c r 7) = 0 then (J_X0_steer_66 r c x2) else (mBd (α := Int32) (P_X2_breakOf c (c 0 16) 4) (fun v1 => (if (c r 8) < v1 then c else (J_X0_steer_66 r c x2)))))
theorem rj_X0_steer_40 (d : Nat) {X : mX} {g : mG} {i r : Nat} (h_r : r = 8 ∨ r = 9) {x2 : Int32} {c : mC} : mEv X (mCall mD X (d + 3)) 0 t_X0_steer (mDrop t_X0_steer 40) [some (mr i 0), some (mr i r), some (mi x2)] [] (mU g i c) = (wV g i) (J_X0_steer_40 r c x2) := by
  refine Eq.trans (e_X0_steer_40 h_r) ?_
  try simp only [mU_same, mU_mU]
  refine mw_ite (fun h3 => ?_) (fun h3 => ?_)
  · exact rj_X0_steer_66 d h_r
  · refine Eq.trans (e_X0_steer_47 h_r) ?_
    try simp only [mU_same, mU_mU]
    refine mw_cI (rr_X2_breakOf (d + 1)) (fun v1 => ?_)
    refine Eq.trans (e_X0_steer_63 h_r) ?_
    try simp only [mU_same, mU_mU]
    refine mw_ite (fun h2 => ?_) (fun h2 => ?_)
    · refine Eq.trans (e_X0_steer_72 h_r) ?_
      try simp only [mU_same, mU_mU]
      all_goals rfl
    · exact rj_X0_steer_66 d h_r
noncomputable def P_X0_steer (r : Nat) (c : mC) (x2 : Int32) : (mC) := (mBd (α := Int32) (P_X4_isGreen r c) (fun v1 => (if v1 = 0 then (mP c r 4 x2) else (if (c r 1) = x2 then c else (if (c r 7) = 1 then (J_X0_steer_40 r (mP (mP c r 7 2) r 8 0) x2) else (J_X0_steer_40 r c x2))))))
theorem rr_X0_steer (d : Nat) {X : mX} {g : mG} {i r : Nat} (h_r : r = 8 ∨ r = 9) {x2 : Int32} {c : mC} : mCall mD X (d + 4) 42 [mr i 0, mr i r, mi x2] (mU g i c) = (wV g i) (P_X0_steer r c x2) := by
  refine Eq.trans (mCall_eq (d := d + 3) rfl) ?_
  show mEv X (mCall mD X (d + 3)) 0 t_X0_steer (mDrop t_X0_steer 0) [some (mr i 0), some (mr i r), some (mi x2)] [] (mU g i c) = _
  refine Eq.trans (e_X0_steer_0 h_r) ?_
  try simp only [mU_same, mU_mU]
  refine mw_cZ (rr_X4_isGreen (d + 2) h_r) rfl (fun v1 hv1 => ?_)
  refine Eq.trans (e_X0_steer_4 h_r) ?_
  try simp only [mU_same, mU_mU]
  refine mw_ite (fun h4 => ?_) (fun h4 => ?_)
  · refine Eq.trans (e_X0_steer_7 h_r) ?_
    try simp only [mU_same, mU_mU]
    refine Eq.trans (e_X0_steer_12 h_r) ?_
    try simp only [mU_same, mU_mU]
    all_goals rfl
  · refine Eq.trans (e_X0_steer_13 h_r) ?_
    try simp only [mU_same, mU_mU]
    refine mw_ite (fun h3 => ?_) (fun h3 => ?_)
    · refine Eq.trans (e_X0_steer_21 h_r) ?_
      try simp only [mU_same, mU_mU]
      all_goals rfl
    · refine Eq.trans (e_X0_steer_22 h_r) ?_
      try simp only [mU_same, mU_mU]
      refine mw_ite (fun h2 => ?_) (fun h2 => ?_)
      · refine Eq.trans (e_X0_steer_30 h_r) ?_
        try simp only [mU_same, mU_mU]
        refine Eq.trans (e_X0_steer_35 h_r) ?_
        try simp only [mU_same, mU_mU]
        exact rj_X0_steer_40 d h_r
      · exact rj_X0_steer_40 d h_r
theorem rr_X0_steer_at (d : Nat) {X : mX} {g : mG} {i r : Nat} (h_r : r = 8 ∨ r = 9) {x2 : Int32} : mCall mD X (d + 4) 42 [mr i 0, mr i r, mi x2] g = some (none, mU g i (P_X0_steer r (g i) x2)) := by
  have h := rr_X0_steer (X := X) d (g := g) (c := g i) h_r (x2 := x2) (i := i)
  rw [mU_self] at h
  exact h
theorem e_X0_turnGreen_0 {X : mX} {call : Nat → List mV → mG → mR} {g : mG} {i r p2 : Nat} (h_r : r = 8 ∨ r = 9) (h_p2 : p2 = 8 ∨ p2 = 9) : mEv X call 0 t_X0_turnGreen (mDrop t_X0_turnGreen 0) [some (mr i 0), some (mr i r), some (mr i p2), none] [] g = if (g i r 2) = 3 then mEv X call 0 t_X0_turnGreen (mDrop t_X0_turnGreen 13) [some (mr i 0), some (mr i r), some (mr i p2), some (mi (g i r 4))] [] g else mEv X call 0 t_X0_turnGreen (mDrop t_X0_turnGreen 36) [some (mr i 0), some (mr i r), some (mr i p2), some (mi (g i r 4))] [] g := by
  rcases h_r with rfl | rfl <;> rcases h_p2 with rfl | rfl <;> exact (mEv_7 _ _ _ _).trans rfl
theorem e_X0_turnGreen_13 {X : mX} {call : Nat → List mV → mG → mR} {g : mG} {x3 : Int32} {i r p2 : Nat} (h_r : r = 8 ∨ r = 9) (h_p2 : p2 = 8 ∨ p2 = 9) : mEv X call 0 t_X0_turnGreen (mDrop t_X0_turnGreen 13) [some (mr i 0), some (mr i r), some (mr i p2), some (mi x3)] [] g = if x3 = (-1) then mEv X call 0 t_X0_turnGreen (mDrop t_X0_turnGreen 36) [some (mr i 0), some (mr i r), some (mr i p2), some (mi x3)] [] g else mEv X call 0 t_X0_turnGreen (mDrop t_X0_turnGreen 18) [some (mr i 0), some (mr i r), some (mr i p2), some (mi x3)] [] g := by
  rcases h_r with rfl | rfl <;> rcases h_p2 with rfl | rfl <;> exact (mEv_3 _ _ _ _).trans rfl
theorem e_X0_turnGreen_36 {X : mX} {call : Nat → List mV → mG → mR} {g : mG} {x3 : Int32} {i r p2 : Nat} (h_r : r = 8 ∨ r = 9) (h_p2 : p2 = 8 ∨ p2 = 9) : mEv X call 0 t_X0_turnGreen (mDrop t_X0_turnGreen 36) [some (mr i 0), some (mr i r), some (mr i p2), some (mi x3)] [] g = some (none, g) := by
  rcases h_r with rfl | rfl <;> rcases h_p2 with rfl | rfl <;> exact (mEv_1 _ _ _ _).trans rfl
theorem e_X0_turnGreen_18 {X : mX} {call : Nat → List mV → mG → mR} {g : mG} {x3 : Int32} {i r p2 : Nat} (h_r : r = 8 ∨ r = 9) (h_p2 : p2 = 8 ∨ p2 = 9) : mEv X call 0 t_X0_turnGreen (mDrop t_X0_turnGreen 18) [some (mr i 0), some (mr i r), some (mr i p2), some (mi x3)] [] g = mAns (mEv X call 0 t_X0_turnGreen) (mDrop t_X0_turnGreen 26) [some (mr i 0), some (mr i r), some (mr i p2), some (mi x3)] [] (call 63 [mr i 1, mi x3] g) := by
  rcases h_r with rfl | rfl <;> rcases h_p2 with rfl | rfl <;> exact (mEv_4 _ _ _ _).trans rfl
theorem e_X0_turnGreen_26 {X : mX} {call : Nat → List mV → mG → mR} {g : mG} {x3 s0 : Int32} {i r p2 : Nat} (h_r : r = 8 ∨ r = 9) (h_p2 : p2 = 8 ∨ p2 = 9) : mEv X call 0 t_X0_turnGreen (mDrop t_X0_turnGreen 26) [some (mr i 0), some (mr i r), some (mr i p2), some (mi x3)] [mi s0] g = mAns (mEv X call 0 t_X0_turnGreen) (mDrop t_X0_turnGreen 33) [some (mr i 0), some (mr i r), some (mr i p2), some (mi x3)] [] (call 149 [mi s0, mi (g i p2 1)] g) := by
  rcases h_r with rfl | rfl <;> rcases h_p2 with rfl | rfl <;> exact (mEv_3 _ _ _ _).trans rfl
theorem e_X0_turnGreen_33 {X : mX} {call : Nat → List mV → mG → mR} {g : mG} {x3 s0 : Int32} {i r p2 : Nat} (h_r : r = 8 ∨ r = 9) (h_p2 : p2 = 8 ∨ p2 = 9) : mEv X call 0 t_X0_turnGreen (mDrop t_X0_turnGreen 33) [some (mr i 0), some (mr i r), some (mr i p2), some (mi x3)] [mi s0] g = if s0 = 0 then mEv X call 0 t_X0_turnGreen (mDrop t_X0_turnGreen 37) [some (mr i 0), some (mr i r), some (mr i p2), some (mi x3)] [] g else mEv X call 0 t_X0_turnGreen (mDrop t_X0_turnGreen 36) [some (mr i 0), some (mr i r), some (mr i p2), some (mi x3)] [] g := by
  rcases h_r with rfl | rfl <;> rcases h_p2 with rfl | rfl <;> exact (mEv_1 _ _ _ _).trans rfl
theorem e_X0_turnGreen_37 {X : mX} {call : Nat → List mV → mG → mR} {g : mG} {x3 : Int32} {i r p2 : Nat} (h_r : r = 8 ∨ r = 9) (h_p2 : p2 = 8 ∨ p2 = 9) : mEv X call 0 t_X0_turnGreen (mDrop t_X0_turnGreen 37) [some (mr i 0), some (mr i r), some (mr i p2), some (mi x3)] [] g = mAns (mEv X call 0 t_X0_turnGreen) (mDrop t_X0_turnGreen 43) [some (mr i 0), some (mr i r), some (mr i p2), some (mi x3)] [mi x3, mr i r] (call 11 [mr i 0] g) := by
  rcases h_r with rfl | rfl <;> rcases h_p2 with rfl | rfl <;> exact (mEv_4 _ _ _ _).trans rfl
theorem e_X0_turnGreen_43 {X : mX} {call : Nat → List mV → mG → mR} {g : mG} {x3 s1 s2 : Int32} {i r p2 : Nat} (h_r : r = 8 ∨ r = 9) (h_p2 : p2 = 8 ∨ p2 = 9) : mEv X call 0 t_X0_turnGreen (mDrop t_X0_turnGreen 43) [some (mr i 0), some (mr i r), some (mr i p2), some (mi x3)] [mi s2, mi s1, mr i r] g = mAns (mEv X call 0 t_X0_turnGreen) (mDrop t_X0_turnGreen 47) [some (mr i 0), some (mr i r), some (mr i p2), some (mi x3)] [mi s1, mr i r] (call 149 [mi s2, mi x3] g) := by
  rcases h_r with rfl | rfl <;> rcases h_p2 with rfl | rfl <;> exact (mEv_2 _ _ _ _).trans rfl
theorem e_X0_turnGreen_47 {X : mX} {call : Nat → List mV → mG → mR} {g : mG} {x3 s1 s2 : Int32} {i r p2 : Nat} (h_r : r = 8 ∨ r = 9) (h_p2 : p2 = 8 ∨ p2 = 9) : mEv X call 0 t_X0_turnGreen (mDrop t_X0_turnGreen 47) [some (mr i 0), some (mr i r), some (mr i p2), some (mi x3)] [mi s2, mi s1, mr i r] g = mAns (mEv X call 0 t_X0_turnGreen) (mDrop t_X0_turnGreen 50) [some (mr i 0), some (mr i r), some (mr i p2), some (mi x3)] [] (call 93 [mr i r, mi s1, mi s2] g) := by
  rcases h_r with rfl | rfl <;> rcases h_p2 with rfl | rfl <;> exact (mEv_1 _ _ _ _).trans rfl
theorem e_X0_turnGreen_50 {X : mX} {call : Nat → List mV → mG → mR} {g : mG} {x3 : Int32} {i r p2 : Nat} (h_r : r = 8 ∨ r = 9) (h_p2 : p2 = 8 ∨ p2 = 9) : mEv X call 0 t_X0_turnGreen (mDrop t_X0_turnGreen 50) [some (mr i 0), some (mr i r), some (mr i p2), some (mi x3)] [] g = mAns (mEv X call 0 t_X0_turnGreen) (mDrop t_X0_turnGreen 59) [some (mr i 0), some (mr i r), some (mr i p2), some (mi x3)] [mi (g i 0 7), mr i 0] (call 147 [mi x3] g) := by
  rcases h_r with rfl | rfl <;> rcases h_p2 with rfl | rfl <;> exact (mEv_5 _ _ _ _).trans rfl
theorem e_X0_turnGreen_59 {X : mX} {call : Nat → List mV → mG → mR} {g : mG} {x3 s1 s2 : Int32} {i r p2 : Nat} (h_r : r = 8 ∨ r = 9) (h_p2 : p2 = 8 ∨ p2 = 9) : mEv X call 0 t_X0_turnGreen (mDrop t_X0_turnGreen 59) [some (mr i 0), some (mr i r), some (mr i p2), some (mi x3)] [mi s2, mi s1, mr i 0] g = mEv X call 0 t_X0_turnGreen (mDrop t_X0_turnGreen 65) [some (mr i 0), some (mr i r), some (mr i p2), some (mi x3)] [] (mU g i (mP (g i) 0 7 (s1 &&& (s2 ^^^ (-1))))) := by
  rcases h_r with rfl | rfl <;> rcases h_p2 with rfl | rfl <;> exact (mEv_4 _ _ _ _).trans rfl
theorem e_X0_turnGreen_65 {X : mX} {call : Nat → List mV → mG → mR} {g : mG} {x3 : Int32} {i r p2 : Nat} (h_r : r = 8 ∨ r = 9) (h_p2 : p2 = 8 ∨ p2 = 9) : mEv X call 0 t_X0_turnGreen (mDrop t_X0_turnGreen 65) [some (mr i 0), some (mr i r), some (mr i p2), some (mi x3)] [] g = mAns (mEv X call 0 t_X0_turnGreen) (mDrop t_X0_turnGreen 74) [some (mr i 0), some (mr i r), some (mr i p2), some (mi x3)] [mi (g i 0 8), mr i 0] (call 147 [mi x3] g) := by
  rcases h_r with rfl | rfl <;> rcases h_p2 with rfl | rfl <;> exact (mEv_5 _ _ _ _).trans rfl
theorem e_X0_turnGreen_74 {X : mX} {call : Nat → List mV → mG → mR} {g : mG} {x3 s1 s2 : Int32} {i r p2 : Nat} (h_r : r = 8 ∨ r = 9) (h_p2 : p2 = 8 ∨ p2 = 9) : mEv X call 0 t_X0_turnGreen (mDrop t_X0_turnGreen 74) [some (mr i 0), some (mr i r), some (mr i p2), some (mi x3)] [mi s2, mi s1, mr i 0] g = mEv X call 0 t_X0_turnGreen (mDrop t_X0_turnGreen 80) [some (mr i 0), some (mr i r), some (mr i p2), some (mi x3)] [] (mU g i (mP (g i) 0 8 (s1 &&& (s2 ^^^ (-1))))) := by
  rcases h_r with rfl | rfl <;> rcases h_p2 with rfl | rfl <;> exact (mEv_4 _ _ _ _).trans rfl
theorem e_X0_turnGreen_80 {X : mX} {call : Nat → List mV → mG → mR} {g : mG} {x3 : Int32} {i r p2 : Nat} (h_r : r = 8 ∨ r = 9) (h_p2 : p2 = 8 ∨ p2 = 9) : mEv X call 0 t_X0_turnGreen (mDrop t_X0_turnGreen 80) [some (mr i 0), some (mr i r), some (mr i p2), some (mi x3)] [] g = mAns (mEv X call 0 t_X0_turnGreen) (mDrop t_X0_turnGreen 93) [some (mr i 0), some (mr i r), some (mr i p2), some (mi x3)] [] (call 49 [mr i 10, mi 0, mi (g i 0 12), mi x3] g) := by
  rcases h_r with rfl | rfl <;> rcases h_p2 with rfl | rfl <;> exact (mEv_7 _ _ _ _).trans rfl
theorem e_X0_turnGreen_93 {X : mX} {call : Nat → List mV → mG → mR} {g : mG} {x3 : Int32} {i r p2 : Nat} (h_r : r = 8 ∨ r = 9) (h_p2 : p2 = 8 ∨ p2 = 9) : mEv X call 0 t_X0_turnGreen (mDrop t_X0_turnGreen 93) [some (mr i 0), some (mr i r), some (mr i p2), some (mi x3)] [] g = some (none, g) := by
  rcases h_r with rfl | rfl <;> rcases h_p2 with rfl | rfl <;> exact (mEv_1 _ _ _ _).trans rfl
noncomputable def P_X0_turnGreen (r : Nat) (p2 : Nat) (c : mC) : (mC) := (if (c r 2) = 3 then (if (c r 4) = (-1) then c else (mBd (α := Int32) (P_X2_foesOf c (c r 4)) (fun v1 => (mBd (α := Int32) (P_X5_inSet v1 (c p2 1)) (fun v2 => (if v2 = 0 then (mBd (α := Int32) (P_X0_onFootSet c) (fun v3 => (mBd (α := Int32) (P_X5_inSet v3 (c r 4)) (fun v4 => (mBd (α := mC) (P_X4_turnGreen r c (c r 4) v4) (fun c5 => (mBd (α := Int32) (P_X5_bit (c r 4)) (fun v6 => (mBd (α := Int32) (P_X5_bit (c r 4)) (fun v7 => (mBd (α := mC) (P_X1_note (mP (mP c5 0 7 ((c5 0 7) &&& (v6 ^^^ (-1)))) 0 8 (((mP c5 0 7 ((c5 0 7) &&& (v6 ^^^ (-1)))) 0 8) &&& (v7 ^^^ (-1)))) 0 ((mP (mP c5 0 7 ((c5 0 7) &&& (v6 ^^^ (-1)))) 0 8 (((mP c5 0 7 ((c5 0 7) &&& (v6 ^^^ (-1)))) 0 8) &&& (v7 ^^^ (-1)))) 0 12) (c r 4)) (fun c8 => c8)))))))))))) else c)))))) else c)
theorem rr_X0_turnGreen (d : Nat) {X : mX} {g : mG} {i r p2 : Nat} (h_r : r = 8 ∨ r = 9) (h_p2 : p2 = 8 ∨ p2 = 9) {c : mC} : mCall mD X (d + 3) 29 [mr i 0, mr i r, mr i p2] (mU g i c) = (wV g i) (P_X0_turnGreen r p2 c) := by
  refine Eq.trans (mCall_eq (d := d + 2) rfl) ?_
  show mEv X (mCall mD X (d + 2)) 0 t_X0_turnGreen (mDrop t_X0_turnGreen 0) [some (mr i 0), some (mr i r), some (mr i p2), none] [] (mU g i c) = _
  refine Eq.trans (e_X0_turnGreen_0 h_r h_p2) ?_
  try simp only [mU_same, mU_mU]
  refine mw_ite (fun h11 => ?_) (fun h11 => ?_)
  · refine Eq.trans (e_X0_turnGreen_13 h_r h_p2) ?_
    try simp only [mU_same, mU_mU]
    refine mw_ite (fun h10 => ?_) (fun h10 => ?_)
    · refine Eq.trans (e_X0_turnGreen_36 h_r h_p2) ?_
      try simp only [mU_same, mU_mU]
      all_goals rfl
    · refine Eq.trans (e_X0_turnGreen_18 h_r h_p2) ?_
      try simp only [mU_same, mU_mU]
      refine mw_cI (rr_X2_foesOf d) (fun v1 => ?_)
      refine Eq.trans (e_X0_turnGreen_26 h_r h_p2) ?_
      try simp only [mU_same, mU_mU]
      refine mw_cZ (rr_X5_inSet (d + 1)) rfl (fun v2 hv2 => ?_)
      refine Eq.trans (e_X0_turnGreen_33 h_r h_p2) ?_
      try simp only [mU_same, mU_mU]
      refine mw_ite (fun h9 => ?_) (fun h9 => ?_)
      · refine Eq.trans (e_X0_turnGreen_37 h_r h_p2) ?_
        try simp only [mU_same, mU_mU]
        refine mw_cI (rr_X0_onFootSet (d + 1)) (fun v3 => ?_)
        refine Eq.trans (e_X0_turnGreen_43 h_r h_p2) ?_
        try simp only [mU_same, mU_mU]
        refine mw_cZ (rr_X5_inSet (d + 1)) rfl (fun v4 hv4 => ?_)
        refine Eq.trans (e_X0_turnGreen_47 h_r h_p2) ?_
        try simp only [mU_same, mU_mU]
        refine mw_cV (rr_X4_turnGreen (d + 1) h_r) (fun c5 => ?_)
        refine Eq.trans (e_X0_turnGreen_50 h_r h_p2) ?_
        try simp only [mU_same, mU_mU]
        refine mw_cI (rr_X5_bit (d + 1)) (fun v6 => ?_)
        refine Eq.trans (e_X0_turnGreen_59 h_r h_p2) ?_
        try simp only [mU_same, mU_mU]
        refine Eq.trans (e_X0_turnGreen_65 h_r h_p2) ?_
        try simp only [mU_same, mU_mU]
        refine mw_cI (rr_X5_bit (d + 1)) (fun v7 => ?_)
        refine Eq.trans (e_X0_turnGreen_74 h_r h_p2) ?_
        try simp only [mU_same, mU_mU]
        refine Eq.trans (e_X0_turnGreen_80 h_r h_p2) ?_
        try simp only [mU_same, mU_mU]
        refine mw_cV (rr_X1_note d) (fun c8 => ?_)
        refine Eq.trans (e_X0_turnGreen_93 h_r h_p2) ?_
        try simp only [mU_same, mU_mU]
        all_goals rfl
      · refine Eq.trans (e_X0_turnGreen_36 h_r h_p2) ?_
        try simp only [mU_same, mU_mU]
        all_goals rfl
  · refine Eq.trans (e_X0_turnGreen_36 h_r h_p2) ?_
    try simp only [mU_same, mU_mU]
    all_goals rfl
theorem rr_X0_turnGreen_at (d : Nat) {X : mX} {g : mG} {i r p2 : Nat} (h_r : r = 8 ∨ r = 9) (h_p2 : p2 = 8 ∨ p2 = 9) : mCall mD X (d + 3) 29 [mr i 0, mr i r, mr i p2] g = some (none, mU g i (P_X0_turnGreen r p2 (g i))) := by
  have h := rr_X0_turnGreen (X := X) d (g := g) (c := g i) h_r h_p2 (i := i)
  rw [mU_self] at h
  exact h
theorem e_X0_isThere_0 {X : mX} {call : Nat → List mV → mG → mR} {g : mG} {x2 : Int32} {i r : Nat} (h_r : r = 8 ∨ r = 9) : mEv X call 2 t_X0_isThere (mDrop t_X0_isThere 0) [some (mr i 0), some (mr i r), some (mi x2)] [] g = if (g i r 1) = x2 then mEv X call 2 t_X0_isThere (mDrop t_X0_isThere 8) [some (mr i 0), some (mr i r), some (mi x2)] [] g else mEv X call 2 t_X0_isThere (mDrop t_X0_isThere 24) [some (mr i 0), some (mr i r), some (mi x2)] [] g := by
  rcases h_r with rfl | rfl <;> exact (mEv_4 _ _ _ _).trans rfl
theorem e_X0_isThere_8 {X : mX} {call : Nat → List mV → mG → mR} {g : mG} {x2 : Int32} {i r : Nat} (h_r : r = 8 ∨ r = 9) : mEv X call 2 t_X0_isThere (mDrop t_X0_isThere 8) [some (mr i 0), some (mr i r), some (mi x2)] [] g = if x2 = (-1) then mEv X call 2 t_X0_isThere (mDrop t_X0_isThere 20) [some (mr i 0), some (mr i r), some (mi x2)] [] g else mEv X call 2 t_X0_isThere (mDrop t_X0_isThere 13) [some (mr i 0), some (mr i r), some (mi x2)] [] g := by
  rcases h_r with rfl | rfl <;> exact (mEv_3 _ _ _ _).trans rfl
theorem e_X0_isThere_20 {X : mX} {call : Nat → List mV → mG → mR} {g : mG} {x2 : Int32} {i r : Nat} (h_r : r = 8 ∨ r = 9) : mEv X call 2 t_X0_isThere (mDrop t_X0_isThere 20) [some (mr i 0), some (mr i r), some (mi x2)] [] g = mEv X call 2 t_X0_isThere (mDrop t_X0_isThere 25) [some (mr i 0), some (mr i r), some (mi x2)] [mi 1] g := by
  rcases h_r with rfl | rfl <;> exact (mEv_2 _ _ _ _).trans rfl
theorem e_X0_isThere_25 {X : mX} {call : Nat → List mV → mG → mR} {g : mG} {x2 s0 : Int32} {i r : Nat} (h_r : r = 8 ∨ r = 9) : mEv X call 2 t_X0_isThere (mDrop t_X0_isThere 25) [some (mr i 0), some (mr i r), some (mi x2)] [mi s0] g = if (s0 : Int32) &&& 1 = s0 then some (some (mi s0), g) else none := by
  rcases h_r with rfl | rfl <;> exact (mEv_1 _ _ _ _).trans rfl
noncomputable def J_X0_isThere_20 (r : Nat) (c : mC) : (Int32) := 1
theorem rj_X0_isThere_20 (d : Nat) {X : mX} {g : mG} {i r : Nat} (h_r : r = 8 ∨ r = 9) {x2 : Int32} {c : mC} : mEv X (mCall mD X (d + 0)) 2 t_X0_isThere (mDrop t_X0_isThere 20) [some (mr i 0), some (mr i r), some (mi x2)] [] (mU g i c) = (wI g i c) (J_X0_isThere_20 r c) := by
  refine Eq.trans (e_X0_isThere_20 h_r) ?_
  try simp only [mU_same, mU_mU]
  refine Eq.trans (e_X0_isThere_25 h_r) ?_
  try simp only [mU_same, mU_mU]
  exact if_pos (by decide)
theorem e_X0_isThere_13 {X : mX} {call : Nat → List mV → mG → mR} {g : mG} {x2 : Int32} {i r : Nat} (h_r : r = 8 ∨ r = 9) : mEv X call 2 t_X0_isThere (mDrop t_X0_isThere 13) [some (mr i 0), some (mr i r), some (mi x2)] [] g = if (g i r 2) = 0 then mEv X call 2 t_X0_isThere (mDrop t_X0_isThere 20) [some (mr i 0), some (mr i r), some (mi x2)] [] g else mEv X call 2 t_X0_isThere (mDrop t_X0_isThere 24) [some (mr i 0), some (mr i r), some (mi x2)] [] g := by
  rcases h_r with rfl | rfl <;> exact (mEv_3 _ _ _ _).trans rfl
theorem e_X0_isThere_24 {X : mX} {call : Nat → List mV → mG → mR} {g : mG} {x2 : Int32} {i r : Nat} (h_r : r = 8 ∨ r = 9) : mEv X call 2 t_X0_isThere (mDrop t_X0_isThere 24) [some (mr i 0), some (mr i r), some (mi x2)] [] g = mEv X call 2 t_X0_isThere (mDrop t_X0_isThere 25) [some (mr i 0), some (mr i r), some (mi x2)] [mi 0] g := by
  rcases h_r with rfl | rfl <;> exact (mEv_1 _ _ _ _).trans rfl
noncomputable def J_X0_isThere_24 (r : Nat) (c : mC) : (Int32) := 0
theorem rj_X0_isThere_24 (d : Nat) {X : mX} {g : mG} {i r : Nat} (h_r : r = 8 ∨ r = 9) {x2 : Int32} {c : mC} : mEv X (mCall mD X (d + 0)) 2 t_X0_isThere (mDrop t_X0_isThere 24) [some (mr i 0), some (mr i r), some (mi x2)] [] (mU g i c) = (wI g i c) (J_X0_isThere_24 r c) := by
  refine Eq.trans (e_X0_isThere_24 h_r) ?_
  try simp only [mU_same, mU_mU]
  refine Eq.trans (e_X0_isThere_25 h_r) ?_
  try simp only [mU_same, mU_mU]
  exact if_pos (by decide)
noncomputable def P_X0_isThere (r : Nat) (c : mC) (x2 : Int32) : (Int32) := (if (c r 1) = x2 then (if x2 = (-1) then (J_X0_isThere_20 r c) else (if (c r 2) = 0 then (J_X0_isThere_20 r c) else (J_X0_isThere_24 r c))) else (J_X0_isThere_24 r c))
theorem rr_X0_isThere (d : Nat) {X : mX} {g : mG} {i r : Nat} (h_r : r = 8 ∨ r = 9) {x2 : Int32} {c : mC} : mCall mD X (d + 1) 43 [mr i 0, mr i r, mi x2] (mU g i c) = (wI g i c) (P_X0_isThere r c x2) := by
  refine Eq.trans (mCall_eq (d := d + 0) rfl) ?_
  show mEv X (mCall mD X (d + 0)) 2 t_X0_isThere (mDrop t_X0_isThere 0) [some (mr i 0), some (mr i r), some (mi x2)] [] (mU g i c) = _
  refine Eq.trans (e_X0_isThere_0 h_r) ?_
  try simp only [mU_same, mU_mU]
  refine mw_ite (fun h3 => ?_) (fun h3 => ?_)
  · refine Eq.trans (e_X0_isThere_8 h_r) ?_
    try simp only [mU_same, mU_mU]
    refine mw_ite (fun h2 => ?_) (fun h2 => ?_)
    · exact rj_X0_isThere_20 d h_r
    · refine Eq.trans (e_X0_isThere_13 h_r) ?_
      try simp only [mU_same, mU_mU]
      refine mw_ite (fun h1 => ?_) (fun h1 => ?_)
      · exact rj_X0_isThere_20 d h_r
      · exact rj_X0_isThere_24 d h_r
  · exact rj_X0_isThere_24 d h_r
theorem rr_X0_isThere_at (d : Nat) {X : mX} {g : mG} {i r : Nat} (h_r : r = 8 ∨ r = 9) {x2 : Int32} : mCall mD X (d + 1) 43 [mr i 0, mr i r, mi x2] g = wN g (P_X0_isThere r (g i) x2) := by
  have h := rr_X0_isThere (X := X) d (g := g) (c := g i) h_r (x2 := x2) (i := i)
  rw [mU_self] at h
  exact h.trans (wI_self _ _ _)
theorem e_X0_seek_0 {X : mX} {call : Nat → List mV → mG → mR} {g : mG} {x1 : Int32} {i : Nat} : mEv X call 0 t_X0_seek (mDrop t_X0_seek 0) [some (mr i 0), some (mi x1), none, none] [] g = mAns (mEv X call 0 t_X0_seek) (mDrop t_X0_seek 10) [some (mr i 0), some (mi x1), none, none] [mi x1] (call 61 [mr i 1, mi 0, mi 0] g) := (mEv_6 _ _ _ _).trans rfl
theorem e_X0_seek_10 {X : mX} {call : Nat → List mV → mG → mR} {g : mG} {x1 s0 s1 : Int32} {i : Nat} : mEv X call 0 t_X0_seek (mDrop t_X0_seek 10) [some (mr i 0), some (mi x1), none, none] [mi s1, mi s0] g = mAns (mEv X call 0 t_X0_seek) (mDrop t_X0_seek 19) [some (mr i 0), some (mi x1), none, none] [mi s1, mi s0] (call 61 [mr i 1, mi 0, mi 1] g) := (mEv_5 _ _ _ _).trans rfl
theorem e_X0_seek_19 {X : mX} {call : Nat → List mV → mG → mR} {g : mG} {x1 s0 s1 s2 : Int32} {i : Nat} : mEv X call 0 t_X0_seek (mDrop t_X0_seek 19) [some (mr i 0), some (mi x1), none, none] [mi s2, mi s1, mi s0] g = mAns (mEv X call 0 t_X0_seek) (mDrop t_X0_seek 24) [some (mr i 0), some (mi x1), none, none] [] (call 150 [mi (s0 &&& (s1 ||| s2))] g) := (mEv_3 _ _ _ _).trans rfl
theorem e_X0_seek_24 {X : mX} {call : Nat → List mV → mG → mR} {g : mG} {x1 s0 : Int32} {i : Nat} : mEv X call 0 t_X0_seek (mDrop t_X0_seek 24) [some (mr i 0), some (mi x1), none, none] [mi s0] g = mAns (mEv X call 0 t_X0_seek) (mDrop t_X0_seek 35) [some (mr i 0), some (mi x1), some (mi s0), none] [mi x1] (call 61 [mr i 1, mi 1, mi 0] g) := (mEv_7 _ _ _ _).trans rfl
theorem e_X0_seek_35 {X : mX} {call : Nat → List mV → mG → mR} {g : mG} {x1 x2 s0 s1 : Int32} {i : Nat} : mEv X call 0 t_X0_seek (mDrop t_X0_seek 35) [some (mr i 0), some (mi x1), some (mi x2), none] [mi s1, mi s0] g = mAns (mEv X call 0 t_X0_seek) (mDrop t_X0_seek 44) [some (mr i 0), some (mi x1), some (mi x2), none] [mi s1, mi s0] (call 61 [mr i 1, mi 1, mi 1] g) := (mEv_5 _ _ _ _).trans rfl
theorem e_X0_seek_44 {X : mX} {call : Nat → List mV → mG → mR} {g : mG} {x1 x2 s0 s1 s2 : Int32} {i : Nat} : mEv X call 0 t_X0_seek (mDrop t_X0_seek 44) [some (mr i 0), some (mi x1), some (mi x2), none] [mi s2, mi s1, mi s0] g = mAns (mEv X call 0 t_X0_seek) (mDrop t_X0_seek 49) [some (mr i 0), some (mi x1), some (mi x2), none] [] (call 150 [mi (s0 &&& (s1 ||| s2))] g) := (mEv_3 _ _ _ _).trans rfl
theorem e_X0_seek_49 {X : mX} {call : Nat → List mV → mG → mR} {g : mG} {x1 x2 s0 : Int32} {i : Nat} : mEv X call 0 t_X0_seek (mDrop t_X0_seek 49) [some (mr i 0), some (mi x1), some (mi x2), none] [mi s0] g = mAns (mEv X call 0 t_X0_seek) (mDrop t_X0_seek 59) [some (mr i 0), some (mi x1), some (mi x2), some (mi s0)] [] (call 42 [mr i 0, mr i 8, mi x2] g) := (mEv_6 _ _ _ _).trans rfl
theorem e_X0_seek_59 {X : mX} {call : Nat → List mV → mG → mR} {g : mG} {x1 x2 x3 : Int32} {i : Nat} : mEv X call 0 t_X0_seek (mDrop t_X0_seek 59) [some (mr i 0), some (mi x1), some (mi x2), some (mi x3)] [] g = mAns (mEv X call 0 t_X0_seek) (mDrop t_X0_seek 68) [some (mr i 0), some (mi x1), some (mi x2), some (mi x3)] [] (call 42 [mr i 0, mr i 9, mi x3] g) := (mEv_5 _ _ _ _).trans rfl
theorem e_X0_seek_68 {X : mX} {call : Nat → List mV → mG → mR} {g : mG} {x1 x2 x3 : Int32} {i : Nat} : mEv X call 0 t_X0_seek (mDrop t_X0_seek 68) [some (mr i 0), some (mi x1), some (mi x2), some (mi x3)] [] g = mAns (mEv X call 0 t_X0_seek) (mDrop t_X0_seek 80) [some (mr i 0), some (mi x1), some (mi x2), some (mi x3)] [] (call 29 [mr i 0, mr i 8, mr i 9] g) := (mEv_6 _ _ _ _).trans rfl
theorem e_X0_seek_80 {X : mX} {call : Nat → List mV → mG → mR} {g : mG} {x1 x2 x3 : Int32} {i : Nat} : mEv X call 0 t_X0_seek (mDrop t_X0_seek 80) [some (mr i 0), some (mi x1), some (mi x2), some (mi x3)] [] g = mAns (mEv X call 0 t_X0_seek) (mDrop t_X0_seek 92) [some (mr i 0), some (mi x1), some (mi x2), some (mi x3)] [] (call 29 [mr i 0, mr i 9, mr i 8] g) := (mEv_6 _ _ _ _).trans rfl
theorem e_X0_seek_92 {X : mX} {call : Nat → List mV → mG → mR} {g : mG} {x1 x2 x3 : Int32} {i : Nat} : mEv X call 0 t_X0_seek (mDrop t_X0_seek 92) [some (mr i 0), some (mi x1), some (mi x2), some (mi x3)] [] g = mAns (mEv X call 0 t_X0_seek) (mDrop t_X0_seek 101) [some (mr i 0), some (mi x1), some (mi x2), some (mi x3)] [] (call 43 [mr i 0, mr i 8, mi x2] g) := (mEv_5 _ _ _ _).trans rfl
theorem e_X0_seek_101 {X : mX} {call : Nat → List mV → mG → mR} {g : mG} {x1 x2 x3 s0 : Int32} {i : Nat} : mEv X call 0 t_X0_seek (mDrop t_X0_seek 101) [some (mr i 0), some (mi x1), some (mi x2), some (mi x3)] [mi s0] g = if s0 = 0 then mEv X call 0 t_X0_seek (mDrop t_X0_seek 131) [some (mr i 0), some (mi x1), some (mi x2), some (mi x3)] [] g else mEv X call 0 t_X0_seek (mDrop t_X0_seek 104) [some (mr i 0), some (mi x1), some (mi x2), some (mi x3)] [] g := (mEv_1 _ _ _ _).trans rfl
theorem e_X0_seek_131 {X : mX} {call : Nat → List mV → mG → mR} {g : mG} {x1 x2 x3 : Int32} {i : Nat} : mEv X call 0 t_X0_seek (mDrop t_X0_seek 131) [some (mr i 0), some (mi x1), some (mi x2), some (mi x3)] [] g = some (none, g) := (mEv_1 _ _ _ _).trans rfl
theorem e_X0_seek_104 {X : mX} {call : Nat → List mV → mG → mR} {g : mG} {x1 x2 x3 : Int32} {i : Nat} : mEv X call 0 t_X0_seek (mDrop t_X0_seek 104) [some (mr i 0), some (mi x1), some (mi x2), some (mi x3)] [] g = mAns (mEv X call 0 t_X0_seek) (mDrop t_X0_seek 113) [some (mr i 0), some (mi x1), some (mi x2), some (mi x3)] [] (call 43 [mr i 0, mr i 9, mi x3] g) := (mEv_5 _ _ _ _).trans rfl
theorem e_X0_seek_113 {X : mX} {call : Nat → List mV → mG → mR} {g : mG} {x1 x2 x3 s0 : Int32} {i : Nat} : mEv X call 0 t_X0_seek (mDrop t_X0_seek 113) [some (mr i 0), some (mi x1), some (mi x2), some (mi x3)] [mi s0] g = if s0 = 0 then mEv X call 0 t_X0_seek (mDrop t_X0_seek 131) [some (mr i 0), some (mi x1), some (mi x2), some (mi x3)] [] g else mEv X call 0 t_X0_seek (mDrop t_X0_seek 116) [some (mr i 0), some (mi x1), some (mi x2), some (mi x3)] [] g := (mEv_1 _ _ _ _).trans rfl
theorem e_X0_seek_116 {X : mX} {call : Nat → List mV → mG → mR} {g : mG} {x1 x2 x3 : Int32} {i : Nat} : mEv X call 0 t_X0_seek (mDrop t_X0_seek 116) [some (mr i 0), some (mi x1), some (mi x2), some (mi x3)] [] g = mEv X call 0 t_X0_seek (mDrop t_X0_seek 126) [some (mr i 0), some (mi x1), some (mi x2), some (mi x3)] [] (mU g i (mP (g i) 0 17 ((g i 0 17) + 1))) := (mEv_6 _ _ _ _).trans rfl
theorem e_X0_seek_126 {X : mX} {call : Nat → List mV → mG → mR} {g : mG} {x1 x2 x3 : Int32} {i : Nat} : mEv X call 0 t_X0_seek (mDrop t_X0_seek 126) [some (mr i 0), some (mi x1), some (mi x2), some (mi x3)] [] g = mEv X call 0 t_X0_seek (mDrop t_X0_seek 131) [some (mr i 0), some (mi x1), some (mi x2), some (mi x3)] [] (mU g i (mP (g i) 0 18 0)) := (mEv_3 _ _ _ _).trans rfl
noncomputable def P_X0_seek (c : mC) (x1 : Int32) : (mC) := (mBd (α := Int32) (P_X2_partOf c 0 0) (fun v1 => (mBd (α := Int32) (P_X2_partOf c 0 1) (fun v2 => (mBd (α := Int32) (P_X5_firstIn (x1 &&& (v1 ||| v2))) (fun v3 => (mBd (α := Int32) (P_X2_partOf c 1 0) (fun v4 => (mBd (α := Int32) (P_X2_partOf c 1 1) (fun v5 => (mBd (α := Int32) (P_X5_firstIn (x1 &&& (v4 ||| v5))) (fun v6 => (mBd (α := mC) (P_X0_steer 8 c v3) (fun c7 => (mBd (α := mC) (P_X0_steer 9 c7 v6) (fun c8 => (mBd (α := mC) (P_X0_turnGreen 8 9 c8) (fun c9 => (mBd (α := mC) (P_X0_turnGreen 9 8 c9) (fun c10 => (mBd (α := Int32) (P_X0_isThere 8 c10 v3) (fun v11 => (if v11 = 0 then c10 else (mBd (α := Int32) (P_X0_isThere 9 c10 v6) (fun v12 => (if v12 = 0 then c10 else (mP (mP c10 0 17 ((c10 0 17) + 1)) 0 18 0)))))))))))))))))))))))))))
theorem rr_X0_seek (d : Nat) {X : mX} {g : mG} {i : Nat} {x1 : Int32} {c : mC} : mCall mD X (d + 5) 41 [mr i 0, mi x1] (mU g i c) = (wV g i) (P_X0_seek c x1) := by
  refine Eq.trans (mCall_eq (d := d + 4) rfl) ?_
  show mEv X (mCall mD X (d + 4)) 0 t_X0_seek (mDrop t_X0_seek 0) [some (mr i 0), some (mi x1), none, none] [] (mU g i c) = _
  refine Eq.trans (e_X0_seek_0) ?_
  try simp only [mU_same, mU_mU]
  refine mw_cI (rr_X2_partOf (d + 3)) (fun v1 => ?_)
  refine Eq.trans (e_X0_seek_10) ?_
  try simp only [mU_same, mU_mU]
  refine mw_cI (rr_X2_partOf (d + 3)) (fun v2 => ?_)
  refine Eq.trans (e_X0_seek_19) ?_
  try simp only [mU_same, mU_mU]
  refine mw_cI (rr_X5_firstIn (d + 3)) (fun v3 => ?_)
  refine Eq.trans (e_X0_seek_24) ?_
  try simp only [mU_same, mU_mU]
  refine mw_cI (rr_X2_partOf (d + 3)) (fun v4 => ?_)
  refine Eq.trans (e_X0_seek_35) ?_
  try simp only [mU_same, mU_mU]
  refine mw_cI (rr_X2_partOf (d + 3)) (fun v5 => ?_)
  refine Eq.trans (e_X0_seek_44) ?_
  try simp only [mU_same, mU_mU]
  refine mw_cI (rr_X5_firstIn (d + 3)) (fun v6 => ?_)
  refine Eq.trans (e_X0_seek_49) ?_
  try simp only [mU_same, mU_mU]
  refine mw_cV (rr_X0_steer d (Or.inl rfl)) (fun c7 => ?_)
  refine Eq.trans (e_X0_seek_59) ?_
  try simp only [mU_same, mU_mU]
  refine mw_cV (rr_X0_steer d (Or.inr rfl)) (fun c8 => ?_)
  refine Eq.trans (e_X0_seek_68) ?_
  try simp only [mU_same, mU_mU]
  refine mw_cV (rr_X0_turnGreen (d + 1) (Or.inl rfl) (Or.inr rfl)) (fun c9 => ?_)
  refine Eq.trans (e_X0_seek_80) ?_
  try simp only [mU_same, mU_mU]
  refine mw_cV (rr_X0_turnGreen (d + 1) (Or.inr rfl) (Or.inl rfl)) (fun c10 => ?_)
  refine Eq.trans (e_X0_seek_92) ?_
  try simp only [mU_same, mU_mU]
  refine mw_cZ (rr_X0_isThere (d + 3) (Or.inl rfl)) rfl (fun v11 hv11 => ?_)
  refine Eq.trans (e_X0_seek_101) ?_
  try simp only [mU_same, mU_mU]
  refine mw_ite (fun h14 => ?_) (fun h14 => ?_)
  · refine Eq.trans (e_X0_seek_131) ?_
    try simp only [mU_same, mU_mU]
    all_goals rfl
  · refine Eq.trans (e_X0_seek_104) ?_
    try simp only [mU_same, mU_mU]
    refine mw_cZ (rr_X0_isThere (d + 3) (Or.inr rfl)) rfl (fun v12 hv12 => ?_)
    refine Eq.trans (e_X0_seek_113) ?_
    try simp only [mU_same, mU_mU]
    refine mw_ite (fun h13 => ?_) (fun h13 => ?_)
    · refine Eq.trans (e_X0_seek_131) ?_
      try simp only [mU_same, mU_mU]
      all_goals rfl
    · refine Eq.trans (e_X0_seek_116) ?_
      try simp only [mU_same, mU_mU]
      refine Eq.trans (e_X0_seek_126) ?_
      try simp only [mU_same, mU_mU]
      refine Eq.trans (e_X0_seek_131) ?_
      try simp only [mU_same, mU_mU]
      all_goals rfl
theorem rr_X0_seek_at (d : Nat) {X : mX} {g : mG} {i : Nat} {x1 : Int32} : mCall mD X (d + 5) 41 [mr i 0, mi x1] g = some (none, mU g i (P_X0_seek (g i) x1)) := by
  have h := rr_X0_seek (X := X) d (g := g) (c := g i) (x1 := x1) (i := i)
  rw [mU_self] at h
  exact h
theorem e_X0_stayOnTrack_0 {X : mX} {call : Nat → List mV → mG → mR} {g : mG} {i : Nat} : mEv X call 0 t_X0_stayOnTrack (mDrop t_X0_stayOnTrack 0) [some (mr i 0)] [] g = mEv X call 0 t_X0_stayOnTrack (mDrop t_X0_stayOnTrack 10) [some (mr i 0)] [] (mU g i (mP (g i) 0 18 ((g i 0 18) + 1))) := (mEv_6 _ _ _ _).trans rfl
theorem e_X0_stayOnTrack_10 {X : mX} {call : Nat → List mV → mG → mR} {g : mG} {i : Nat} : mEv X call 0 t_X0_stayOnTrack (mDrop t_X0_stayOnTrack 10) [some (mr i 0)] [] g = mAns (mEv X call 0 t_X0_stayOnTrack) (mDrop t_X0_stayOnTrack 26) [some (mr i 0)] [mi (g i 0 18)] (call 59 [mr i 1, mi (g i 0 16), mi 1] g) := (mEv_8 _ _ _ _).trans rfl
theorem e_X0_stayOnTrack_26 {X : mX} {call : Nat → List mV → mG → mR} {g : mG} {s0 s1 : Int32} {i : Nat} : mEv X call 0 t_X0_stayOnTrack (mDrop t_X0_stayOnTrack 26) [some (mr i 0)] [mi s1, mi s0] g = if s0 < s1 then mEv X call 0 t_X0_stayOnTrack (mDrop t_X0_stayOnTrack 39) [some (mr i 0)] [] g else mEv X call 0 t_X0_stayOnTrack (mDrop t_X0_stayOnTrack 29) [some (mr i 0)] [] g := (mEv_1 _ _ _ _).trans rfl
theorem e_X0_stayOnTrack_39 {X : mX} {call : Nat → List mV → mG → mR} {g : mG} {i : Nat} : mEv X call 0 t_X0_stayOnTrack (mDrop t_X0_stayOnTrack 39) [some (mr i 0)] [] g = some (none, g) := (mEv_1 _ _ _ _).trans rfl
theorem e_X0_stayOnTrack_29 {X : mX} {call : Nat → List mV → mG → mR} {g : mG} {i : Nat} : mEv X call 0 t_X0_stayOnTrack (mDrop t_X0_stayOnTrack 29) [some (mr i 0)] [] g = mEv X call 0 t_X0_stayOnTrack (mDrop t_X0_stayOnTrack 34) [some (mr i 0)] [] (mU g i (mP (g i) 0 17 3)) := (mEv_3 _ _ _ _).trans rfl
theorem e_X0_stayOnTrack_34 {X : mX} {call : Nat → List mV → mG → mR} {g : mG} {i : Nat} : mEv X call 0 t_X0_stayOnTrack (mDrop t_X0_stayOnTrack 34) [some (mr i 0)] [] g = mEv X call 0 t_X0_stayOnTrack (mDrop t_X0_stayOnTrack 39) [some (mr i 0)] [] (mU g i (mP (g i) 0 18 0)) := (mEv_3 _ _ _ _).trans rfl
noncomputable def P_X0_stayOnTrack (c : mC) : (mC) := (mBd (α := Int32) (P_X2_breakOf (mP c 0 18 ((c 0 18) + 1)) ((mP c 0 18 ((c 0 18) + 1)) 0 16) 1) (fun v1 => (if ((mP c 0 18 ((c 0 18) + 1)) 0 18) < v1 then (mP c 0 18 ((c 0 18) + 1)) else (mP (mP (mP c 0 18 ((c 0 18) + 1)) 0 17 3) 0 18 0))))
theorem rr_X0_stayOnTrack (d : Nat) {X : mX} {g : mG} {i : Nat} {c : mC} : mCall mD X (d + 3) 44 [mr i 0] (mU g i c) = (wV g i) (P_X0_stayOnTrack c) := by
  refine Eq.trans (mCall_eq (d := d + 2) rfl) ?_
  show mEv X (mCall mD X (d + 2)) 0 t_X0_stayOnTrack (mDrop t_X0_stayOnTrack 0) [some (mr i 0)] [] (mU g i c) = _
  refine Eq.trans (e_X0_stayOnTrack_0) ?_
  try simp only [mU_same, mU_mU]
  refine Eq.trans (e_X0_stayOnTrack_10) ?_
  try simp only [mU_same, mU_mU]
  refine mw_cI (rr_X2_breakOf d) (fun v1 => ?_)
  refine Eq.trans (e_X0_stayOnTrack_26) ?_
  try simp only [mU_same, mU_mU]
  refine mw_ite (fun h2 => ?_) (fun h2 => ?_)
  · refine Eq.trans (e_X0_stayOnTrack_39) ?_
    try simp only [mU_same, mU_mU]
    all_goals rfl
  · refine Eq.trans (e_X0_stayOnTrack_29) ?_
    try simp only [mU_same, mU_mU]
    refine Eq.trans (e_X0_stayOnTrack_34) ?_
    try simp only [mU_same, mU_mU]
    refine Eq.trans (e_X0_stayOnTrack_39) ?_
    try simp only [mU_same, mU_mU]
    all_goals rfl
theorem rr_X0_stayOnTrack_at (d : Nat) {X : mX} {g : mG} {i : Nat} : mCall mD X (d + 3) 44 [mr i 0] g = some (none, mU g i (P_X0_stayOnTrack (g i))) := by
  have h := rr_X0_stayOnTrack (X := X) d (g := g) (c := g i) (i := i)
  rw [mU_self] at h
  exact h
theorem e_X0_resume_0 {X : mX} {call : Nat → List mV → mG → mR} {g : mG} {i : Nat} : mEv X call 0 t_X0_resume (mDrop t_X0_resume 0) [some (mr i 0), none] [] g = mAns (mEv X call 0 t_X0_resume) (mDrop t_X0_resume 7) [some (mr i 0), none] [] (call 91 [mr i 8] g) := (mEv_3 _ _ _ _).trans rfl
theorem e_X0_resume_7 {X : mX} {call : Nat → List mV → mG → mR} {g : mG} {s0 : Int32} {i : Nat} : mEv X call 0 t_X0_resume (mDrop t_X0_resume 7) [some (mr i 0), none] [mi s0] g = if s0 = 0 then mEv X call 0 t_X0_resume (mDrop t_X0_resume 10) [some (mr i 0), none] [] g else mEv X call 0 t_X0_resume (mDrop t_X0_resume 25) [some (mr i 0), none] [] g := (mEv_1 _ _ _ _).trans rfl
theorem e_X0_resume_10 {X : mX} {call : Nat → List mV → mG → mR} {g : mG} {i : Nat} : mEv X call 0 t_X0_resume (mDrop t_X0_resume 10) [some (mr i 0), none] [] g = mAns (mEv X call 0 t_X0_resume) (mDrop t_X0_resume 17) [some (mr i 0), none] [] (call 91 [mr i 9] g) := (mEv_3 _ _ _ _).trans rfl
theorem e_X0_resume_17 {X : mX} {call : Nat → List mV → mG → mR} {g : mG} {s0 : Int32} {i : Nat} : mEv X call 0 t_X0_resume (mDrop t_X0_resume 17) [some (mr i 0), none] [mi s0] g = if s0 = 0 then mEv X call 0 t_X0_resume (mDrop t_X0_resume 20) [some (mr i 0), none] [] g else mEv X call 0 t_X0_resume (mDrop t_X0_resume 25) [some (mr i 0), none] [] g := (mEv_1 _ _ _ _).trans rfl
theorem e_X0_resume_20 {X : mX} {call : Nat → List mV → mG → mR} {g : mG} {i : Nat} : mEv X call 0 t_X0_resume (mDrop t_X0_resume 20) [some (mr i 0), none] [] g = mAns (mEv X call 0 t_X0_resume) (mDrop t_X0_resume 24) [some (mr i 0), none] [] (call 2 [mr i 0] g) := (mEv_2 _ _ _ _).trans rfl
theorem e_X0_resume_24 {X : mX} {call : Nat → List mV → mG → mR} {g : mG} {i : Nat} : mEv X call 0 t_X0_resume (mDrop t_X0_resume 24) [some (mr i 0), none] [] g = some (none, g) := (mEv_1 _ _ _ _).trans rfl
theorem e_X0_resume_25 {X : mX} {call : Nat → List mV → mG → mR} {g : mG} {i : Nat} : mEv X call 0 t_X0_resume (mDrop t_X0_resume 25) [some (mr i 0), none] [] g = mAns (mEv X call 0 t_X0_resume) (mDrop t_X0_resume 39) [some (mr i 0), none] [mr i 3] (call 91 [mr i 8] g) := (mEv_6 _ _ _ _).trans rfl
theorem e_X0_resume_39 {X : mX} {call : Nat → List mV → mG → mR} {g : mG} {s1 : Int32} {i : Nat} : mEv X call 0 t_X0_resume (mDrop t_X0_resume 39) [some (mr i 0), none] [mi s1, mr i 3] g = if s1 = 0 then mEv X call 0 t_X0_resume (mDrop t_X0_resume 52) [some (mr i 0), none] [mr i 3] g else mEv X call 0 t_X0_resume (mDrop t_X0_resume 42) [some (mr i 0), none] [mr i 3] g := (mEv_1 _ _ _ _).trans rfl
theorem e_X0_resume_52 {X : mX} {call : Nat → List mV → mG → mR} {g : mG} {i : Nat} : mEv X call 0 t_X0_resume (mDrop t_X0_resume 52) [some (mr i 0), none] [mr i 3] g = mEv X call 0 t_X0_resume (mDrop t_X0_resume 59) [some (mr i 0), none] [mi (g i 9 1), mr i 3] g := (mEv_3 _ _ _ _).trans rfl
theorem e_X0_resume_59 {X : mX} {call : Nat → List mV → mG → mR} {g : mG} {s1 : Int32} {i : Nat} : mEv X call 0 t_X0_resume (mDrop t_X0_resume 59) [some (mr i 0), none] [mi s1, mr i 3] g = mAns (mEv X call 0 t_X0_resume) (mDrop t_X0_resume 62) [some (mr i 0), none] [] (call 142 [mr i 3, mi s1] g) := (mEv_1 _ _ _ _).trans rfl
theorem e_X0_resume_62 {X : mX} {call : Nat → List mV → mG → mR} {g : mG} {s0 : Int32} {i : Nat} : mEv X call 0 t_X0_resume (mDrop t_X0_resume 62) [some (mr i 0), none] [mi s0] g = mAns (mEv X call 0 t_X0_resume) (mDrop t_X0_resume 70) [some (mr i 0), some (mi s0)] [] (call 90 [mr i 8] g) := (mEv_4 _ _ _ _).trans rfl
theorem e_X0_resume_70 {X : mX} {call : Nat → List mV → mG → mR} {g : mG} {x1 s0 : Int32} {i : Nat} : mEv X call 0 t_X0_resume (mDrop t_X0_resume 70) [some (mr i 0), some (mi x1)] [mi s0] g = if s0 = 0 then mEv X call 0 t_X0_resume (mDrop t_X0_resume 73) [some (mr i 0), some (mi x1)] [] g else mEv X call 0 t_X0_resume (mDrop t_X0_resume 92) [some (mr i 0), some (mi x1)] [] g := (mEv_1 _ _ _ _).trans rfl
theorem e_X0_resume_73 {X : mX} {call : Nat → List mV → mG → mR} {g : mG} {x1 : Int32} {i : Nat} : mEv X call 0 t_X0_resume (mDrop t_X0_resume 73) [some (mr i 0), some (mi x1)] [] g = mAns (mEv X call 0 t_X0_resume) (mDrop t_X0_resume 86) [some (mr i 0), some (mi x1)] [mr i 8] (call 61 [mr i 1, mi 0, mi x1] g) := (mEv_7 _ _ _ _).trans rfl
theorem e_X0_resume_86 {X : mX} {call : Nat → List mV → mG → mR} {g : mG} {x1 s1 : Int32} {i : Nat} : mEv X call 0 t_X0_resume (mDrop t_X0_resume 86) [some (mr i 0), some (mi x1)] [mi s1, mr i 8] g = mAns (mEv X call 0 t_X0_resume) (mDrop t_X0_resume 89) [some (mr i 0), some (mi x1)] [mr i 8] (call 150 [mi s1] g) := (mEv_1 _ _ _ _).trans rfl
theorem e_X0_resume_89 {X : mX} {call : Nat → List mV → mG → mR} {g : mG} {x1 s1 : Int32} {i : Nat} : mEv X call 0 t_X0_resume (mDrop t_X0_resume 89) [some (mr i 0), some (mi x1)] [mi s1, mr i 8] g = mEv X call 0 t_X0_resume (mDrop t_X0_resume 92) [some (mr i 0), some (mi x1)] [] (mU g i (mP (g i) 8 4 s1)) := (mEv_1 _ _ _ _).trans rfl
theorem e_X0_resume_92 {X : mX} {call : Nat → List mV → mG → mR} {g : mG} {x1 : Int32} {i : Nat} : mEv X call 0 t_X0_resume (mDrop t_X0_resume 92) [some (mr i 0), some (mi x1)] [] g = mAns (mEv X call 0 t_X0_resume) (mDrop t_X0_resume 99) [some (mr i 0), some (mi x1)] [] (call 90 [mr i 9] g) := (mEv_3 _ _ _ _).trans rfl
theorem e_X0_resume_99 {X : mX} {call : Nat → List mV → mG → mR} {g : mG} {x1 s0 : Int32} {i : Nat} : mEv X call 0 t_X0_resume (mDrop t_X0_resume 99) [some (mr i 0), some (mi x1)] [mi s0] g = if s0 = 0 then mEv X call 0 t_X0_resume (mDrop t_X0_resume 102) [some (mr i 0), some (mi x1)] [] g else mEv X call 0 t_X0_resume (mDrop t_X0_resume 121) [some (mr i 0), some (mi x1)] [] g := (mEv_1 _ _ _ _).trans rfl
theorem e_X0_resume_102 {X : mX} {call : Nat → List mV → mG → mR} {g : mG} {x1 : Int32} {i : Nat} : mEv X call 0 t_X0_resume (mDrop t_X0_resume 102) [some (mr i 0), some (mi x1)] [] g = mAns (mEv X call 0 t_X0_resume) (mDrop t_X0_resume 115) [some (mr i 0), some (mi x1)] [mr i 9] (call 61 [mr i 1, mi 1, mi x1] g) := (mEv_7 _ _ _ _).trans rfl
theorem e_X0_resume_115 {X : mX} {call : Nat → List mV → mG → mR} {g : mG} {x1 s1 : Int32} {i : Nat} : mEv X call 0 t_X0_resume (mDrop t_X0_resume 115) [some (mr i 0), some (mi x1)] [mi s1, mr i 9] g = mAns (mEv X call 0 t_X0_resume) (mDrop t_X0_resume 118) [some (mr i 0), some (mi x1)] [mr i 9] (call 150 [mi s1] g) := (mEv_1 _ _ _ _).trans rfl
theorem e_X0_resume_118 {X : mX} {call : Nat → List mV → mG → mR} {g : mG} {x1 s1 : Int32} {i : Nat} : mEv X call 0 t_X0_resume (mDrop t_X0_resume 118) [some (mr i 0), some (mi x1)] [mi s1, mr i 9] g = mEv X call 0 t_X0_resume (mDrop t_X0_resume 121) [some (mr i 0), some (mi x1)] [] (mU g i (mP (g i) 9 4 s1)) := (mEv_1 _ _ _ _).trans rfl
theorem e_X0_resume_121 {X : mX} {call : Nat → List mV → mG → mR} {g : mG} {x1 : Int32} {i : Nat} : mEv X call 0 t_X0_resume (mDrop t_X0_resume 121) [some (mr i 0), some (mi x1)] [] g = some (none, g) := (mEv_1 _ _ _ _).trans rfl
noncomputable def J_X0_resume_92 (c : mC) (x1 : Int32) : (mC) := (mBd (α := Int32) (P_X4_holds 9 c) (fun v1 => (if v1 = 0 then (mBd (α := Int32) (P_X2_partOf c 1 x1) (fun v2 => (mBd (α := Int32) (P_X5_firstIn v2) (fun v3 => (mP c 9 4 v3))))) else c)))
theorem rj_X0_resume_92 (d : Nat) {X : mX} {g : mG} {i : Nat} {x1 : Int32} {c : mC} : mEv X (mCall mD X (d + 2)) 0 t_X0_resume (mDrop t_X0_resume 92) [some (mr i 0), some (mi x1)] [] (mU g i c) = (wV g i) (J_X0_resume_92 c x1) := by
  refine Eq.trans (e_X0_resume_92) ?_
  try simp only [mU_same, mU_mU]
  refine mw_cZ (rr_X4_holds (d + 1) (Or.inr rfl)) rfl (fun v1 hv1 => ?_)
  refine Eq.trans (e_X0_resume_99) ?_
  try simp only [mU_same, mU_mU]
  refine mw_ite (fun h4 => ?_) (fun h4 => ?_)
  · refine Eq.trans (e_X0_resume_102) ?_
    try simp only [mU_same, mU_mU]
    refine mw_cI (rr_X2_partOf (d + 1)) (fun v2 => ?_)
    refine Eq.trans (e_X0_resume_115) ?_
    try simp only [mU_same, mU_mU]
    refine mw_cI (rr_X5_firstIn (d + 1)) (fun v3 => ?_)
    refine Eq.trans (e_X0_resume_118) ?_
    try simp only [mU_same, mU_mU]
    refine Eq.trans (e_X0_resume_121) ?_
    try simp only [mU_same, mU_mU]
    all_goals rfl
  · refine Eq.trans (e_X0_resume_121) ?_
    try simp only [mU_same, mU_mU]
    all_goals rfl
noncomputable def J_X0_resume_59 (c : mC) (s1 : Int32) : (mC) := (mBd (α := Int32) (cl 8 (c 3) s1) (fun v1 => (mBd (α := Int32) (P_X4_holds 8 c) (fun v2 => (if v2 = 0 then (mBd (α := Int32) (P_X2_partOf c 0 v1) (fun v3 => (mBd (α := Int32) (P_X5_firstIn v3) (fun v4 => (J_X0_resume_92 (mP c 8 4 v4) v1))))) else (J_X0_resume_92 c v1))))))
theorem rj_X0_resume_59 (d : Nat) {X : mX} {g : mG} {i : Nat} {s1 : Int32} {c : mC} : mEv X (mCall mD X (d + 2)) 0 t_X0_resume (mDrop t_X0_resume 59) [some (mr i 0), none] [mi s1, mr i 3] (mU g i c) = (wV g i) (J_X0_resume_59 c s1) := by
  refine Eq.trans (e_X0_resume_59) ?_
  try simp only [mU_same, mU_mU]
  refine mw_cI (rr_X5_cell_3 (d + 1)) (fun v1 => ?_)
  refine Eq.trans (e_X0_resume_62) ?_
  try simp only [mU_same, mU_mU]
  refine mw_cZ (rr_X4_holds (d + 1) (Or.inl rfl)) rfl (fun v2 hv2 => ?_)
  refine Eq.trans (e_X0_resume_70) ?_
  try simp only [mU_same, mU_mU]
  refine mw_ite (fun h5 => ?_) (fun h5 => ?_)
  · refine Eq.trans (e_X0_resume_73) ?_
    try simp only [mU_same, mU_mU]
    refine mw_cI (rr_X2_partOf (d + 1)) (fun v3 => ?_)
    refine Eq.trans (e_X0_resume_86) ?_
    try simp only [mU_same, mU_mU]
    refine mw_cI (rr_X5_firstIn (d + 1)) (fun v4 => ?_)
    refine Eq.trans (e_X0_resume_89) ?_
    try simp only [mU_same, mU_mU]
    exact rj_X0_resume_92 d
  · exact rj_X0_resume_92 d
theorem e_X0_resume_42 {X : mX} {call : Nat → List mV → mG → mR} {g : mG} {i : Nat} : mEv X call 0 t_X0_resume (mDrop t_X0_resume 42) [some (mr i 0), none] [mr i 3] g = mEv X call 0 t_X0_resume (mDrop t_X0_resume 59) [some (mr i 0), none] [mi (g i 8 1), mr i 3] g := (mEv_4 _ _ _ _).trans rfl
noncomputable def J_X0_resume_25 (c : mC) : (mC) := (mBd (α := Int32) (P_X4_isGreen 8 c) (fun v1 => (if v1 = 0 then (J_X0_resume_59 c (c 9 1)) else (J_X0_resume_59 c (c 8 1)))))
theorem rj_X0_resume_25 (d : Nat) {X : mX} {g : mG} {i : Nat} {c : mC} : mEv X (mCall mD X (d + 2)) 0 t_X0_resume (mDrop t_X0_resume 25) [some (mr i 0), none] [] (mU g i c) = (wV g i) (J_X0_resume_25 c) := by
  refine Eq.trans (e_X0_resume_25) ?_
  try simp only [mU_same, mU_mU]
  refine mw_cZ (rr_X4_isGreen (d + 1) (Or.inl rfl)) rfl (fun v1 hv1 => ?_)
  refine Eq.trans (e_X0_resume_39) ?_
  try simp only [mU_same, mU_mU]
  refine mw_ite (fun h2 => ?_) (fun h2 => ?_)
  · refine Eq.trans (e_X0_resume_52) ?_
    try simp only [mU_same, mU_mU]
    exact rj_X0_resume_59 d
  · refine Eq.trans (e_X0_resume_42) ?_
    try simp only [mU_same, mU_mU]
    exact rj_X0_resume_59 d
noncomputable def P_X0_resume (c : mC) : (mC) := (mBd (α := Int32) (P_X4_isGreen 8 c) (fun v1 => (if v1 = 0 then (mBd (α := Int32) (P_X4_isGreen 9 c) (fun v2 => (if v2 = 0 then (mBd (α := mC) (P_X0_startRings c) (fun c3 => c3)) else (J_X0_resume_25 c)))) else (J_X0_resume_25 c))))
theorem rr_X0_resume (d : Nat) {X : mX} {g : mG} {i : Nat} {c : mC} : mCall mD X (d + 3) 46 [mr i 0] (mU g i c) = (wV g i) (P_X0_resume c) := by
  refine Eq.trans (mCall_eq (d := d + 2) rfl) ?_
  show mEv X (mCall mD X (d + 2)) 0 t_X0_resume (mDrop t_X0_resume 0) [some (mr i 0), none] [] (mU g i c) = _
  refine Eq.trans (e_X0_resume_0) ?_
  try simp only [mU_same, mU_mU]
  refine mw_cZ (rr_X4_isGreen (d + 1) (Or.inl rfl)) rfl (fun v1 hv1 => ?_)
  refine Eq.trans (e_X0_resume_7) ?_
  try simp only [mU_same, mU_mU]
  refine mw_ite (fun h5 => ?_) (fun h5 => ?_)
  · refine Eq.trans (e_X0_resume_10) ?_
    try simp only [mU_same, mU_mU]
    refine mw_cZ (rr_X4_isGreen (d + 1) (Or.inr rfl)) rfl (fun v2 hv2 => ?_)
    refine Eq.trans (e_X0_resume_17) ?_
    try simp only [mU_same, mU_mU]
    refine mw_ite (fun h4 => ?_) (fun h4 => ?_)
    · refine Eq.trans (e_X0_resume_20) ?_
      try simp only [mU_same, mU_mU]
      refine mw_cV (rr_X0_startRings d) (fun c3 => ?_)
      refine Eq.trans (e_X0_resume_24) ?_
      try simp only [mU_same, mU_mU]
      all_goals rfl
    · exact rj_X0_resume_25 d
  · exact rj_X0_resume_25 d
theorem rr_X0_resume_at (d : Nat) {X : mX} {g : mG} {i : Nat} : mCall mD X (d + 3) 46 [mr i 0] g = some (none, mU g i (P_X0_resume (g i))) := by
  have h := rr_X0_resume (X := X) d (g := g) (c := g i) (i := i)
  rw [mU_self] at h
  exact h
theorem e_X0_stayOnDwell_0 {X : mX} {call : Nat → List mV → mG → mR} {g : mG} {i : Nat} : mEv X call 0 t_X0_stayOnDwell (mDrop t_X0_stayOnDwell 0) [some (mr i 0)] [] g = mEv X call 0 t_X0_stayOnDwell (mDrop t_X0_stayOnDwell 10) [some (mr i 0)] [] (mU g i (mP (g i) 0 18 ((g i 0 18) + 1))) := (mEv_6 _ _ _ _).trans rfl
theorem e_X0_stayOnDwell_10 {X : mX} {call : Nat → List mV → mG → mR} {g : mG} {i : Nat} : mEv X call 0 t_X0_stayOnDwell (mDrop t_X0_stayOnDwell 10) [some (mr i 0)] [] g = mAns (mEv X call 0 t_X0_stayOnDwell) (mDrop t_X0_stayOnDwell 26) [some (mr i 0)] [mi (g i 0 18)] (call 59 [mr i 1, mi (g i 0 16), mi 3] g) := (mEv_8 _ _ _ _).trans rfl
theorem e_X0_stayOnDwell_26 {X : mX} {call : Nat → List mV → mG → mR} {g : mG} {s0 s1 : Int32} {i : Nat} : mEv X call 0 t_X0_stayOnDwell (mDrop t_X0_stayOnDwell 26) [some (mr i 0)] [mi s1, mi s0] g = if s0 < s1 then mEv X call 0 t_X0_stayOnDwell (mDrop t_X0_stayOnDwell 67) [some (mr i 0)] [] g else mEv X call 0 t_X0_stayOnDwell (mDrop t_X0_stayOnDwell 29) [some (mr i 0)] [] g := (mEv_1 _ _ _ _).trans rfl
theorem e_X0_stayOnDwell_67 {X : mX} {call : Nat → List mV → mG → mR} {g : mG} {i : Nat} : mEv X call 0 t_X0_stayOnDwell (mDrop t_X0_stayOnDwell 67) [some (mr i 0)] [] g = some (none, g) := (mEv_1 _ _ _ _).trans rfl
theorem e_X0_stayOnDwell_29 {X : mX} {call : Nat → List mV → mG → mR} {g : mG} {i : Nat} : mEv X call 0 t_X0_stayOnDwell (mDrop t_X0_stayOnDwell 29) [some (mr i 0)] [] g = mAns (mEv X call 0 t_X0_stayOnDwell) (mDrop t_X0_stayOnDwell 40) [some (mr i 0)] [] (call 149 [mi (g i 0 11), mi (g i 0 16)] g) := (mEv_5 _ _ _ _).trans rfl
theorem e_X0_stayOnDwell_40 {X : mX} {call : Nat → List mV → mG → mR} {g : mG} {s0 : Int32} {i : Nat} : mEv X call 0 t_X0_stayOnDwell (mDrop t_X0_stayOnDwell 40) [some (mr i 0)] [mi s0] g = if s0 = 0 then mEv X call 0 t_X0_stayOnDwell (mDrop t_X0_stayOnDwell 43) [some (mr i 0)] [] g else mEv X call 0 t_X0_stayOnDwell (mDrop t_X0_stayOnDwell 67) [some (mr i 0)] [] g := (mEv_1 _ _ _ _).trans rfl
theorem e_X0_stayOnDwell_43 {X : mX} {call : Nat → List mV → mG → mR} {g : mG} {i : Nat} : mEv X call 0 t_X0_stayOnDwell (mDrop t_X0_stayOnDwell 43) [some (mr i 0)] [] g = mAns (mEv X call 0 t_X0_stayOnDwell) (mDrop t_X0_stayOnDwell 59) [some (mr i 0)] [] (call 49 [mr i 10, mi 3, mi (g i 0 12), mi (g i 0 16)] g) := (mEv_8 _ _ _ _).trans rfl
theorem e_X0_stayOnDwell_59 {X : mX} {call : Nat → List mV → mG → mR} {g : mG} {i : Nat} : mEv X call 0 t_X0_stayOnDwell (mDrop t_X0_stayOnDwell 59) [some (mr i 0)] [] g = mAns (mEv X call 0 t_X0_stayOnDwell) (mDrop t_X0_stayOnDwell 63) [some (mr i 0)] [] (call 40 [mr i 0] g) := (mEv_2 _ _ _ _).trans rfl
theorem e_X0_stayOnDwell_63 {X : mX} {call : Nat → List mV → mG → mR} {g : mG} {i : Nat} : mEv X call 0 t_X0_stayOnDwell (mDrop t_X0_stayOnDwell 63) [some (mr i 0)] [] g = mAns (mEv X call 0 t_X0_stayOnDwell) (mDrop t_X0_stayOnDwell 67) [some (mr i 0)] [] (call 46 [mr i 0] g) := (mEv_2 _ _ _ _).trans rfl
noncomputable def P_X0_stayOnDwell (c : mC) : (mC) := (mBd (α := Int32) (P_X2_breakOf (mP c 0 18 ((c 0 18) + 1)) ((mP c 0 18 ((c 0 18) + 1)) 0 16) 3) (fun v1 => (if ((mP c 0 18 ((c 0 18) + 1)) 0 18) < v1 then (mP c 0 18 ((c 0 18) + 1)) else (mBd (α := Int32) (P_X5_inSet ((mP c 0 18 ((c 0 18) + 1)) 0 11) ((mP c 0 18 ((c 0 18) + 1)) 0 16)) (fun v2 => (if v2 = 0 then (mBd (α := mC) (P_X1_note (mP c 0 18 ((c 0 18) + 1)) 3 ((mP c 0 18 ((c 0 18) + 1)) 0 12) ((mP c 0 18 ((c 0 18) + 1)) 0 16)) (fun c3 => (mBd (α := mC) (P_X0_dropBreak c3) (fun c4 => (mBd (α := mC) (P_X0_resume c4) (fun c5 => c5)))))) else (mP c 0 18 ((c 0 18) + 1))))))))
theorem rr_X0_stayOnDwell (d : Nat) {X : mX} {g : mG} {i : Nat} {c : mC} : mCall mD X (d + 4) 45 [mr i 0] (mU g i c) = (wV g i) (P_X0_stayOnDwell c) := by
  refine Eq.trans (mCall_eq (d := d + 3) rfl) ?_
  show mEv X (mCall mD X (d + 3)) 0 t_X0_stayOnDwell (mDrop t_X0_stayOnDwell 0) [some (mr i 0)] [] (mU g i c) = _
  refine Eq.trans (e_X0_stayOnDwell_0) ?_
  try simp only [mU_same, mU_mU]
  refine Eq.trans (e_X0_stayOnDwell_10) ?_
  try simp only [mU_same, mU_mU]
  refine mw_cI (rr_X2_breakOf (d + 1)) (fun v1 => ?_)
  refine Eq.trans (e_X0_stayOnDwell_26) ?_
  try simp only [mU_same, mU_mU]
  refine mw_ite (fun h7 => ?_) (fun h7 => ?_)
  · refine Eq.trans (e_X0_stayOnDwell_67) ?_
    try simp only [mU_same, mU_mU]
    all_goals rfl
  · refine Eq.trans (e_X0_stayOnDwell_29) ?_
    try simp only [mU_same, mU_mU]
    refine mw_cZ (rr_X5_inSet (d + 2)) rfl (fun v2 hv2 => ?_)
    refine Eq.trans (e_X0_stayOnDwell_40) ?_
    try simp only [mU_same, mU_mU]
    refine mw_ite (fun h6 => ?_) (fun h6 => ?_)
    · refine Eq.trans (e_X0_stayOnDwell_43) ?_
      try simp only [mU_same, mU_mU]
      refine mw_cV (rr_X1_note (d + 1)) (fun c3 => ?_)
      refine Eq.trans (e_X0_stayOnDwell_59) ?_
      try simp only [mU_same, mU_mU]
      refine mw_cV (rr_X0_dropBreak (d + 2)) (fun c4 => ?_)
      refine Eq.trans (e_X0_stayOnDwell_63) ?_
      try simp only [mU_same, mU_mU]
      refine mw_cV (rr_X0_resume d) (fun c5 => ?_)
      refine Eq.trans (e_X0_stayOnDwell_67) ?_
      try simp only [mU_same, mU_mU]
      all_goals rfl
    · refine Eq.trans (e_X0_stayOnDwell_67) ?_
      try simp only [mU_same, mU_mU]
      all_goals rfl
theorem rr_X0_stayOnDwell_at (d : Nat) {X : mX} {g : mG} {i : Nat} : mCall mD X (d + 4) 45 [mr i 0] g = some (none, mU g i (P_X0_stayOnDwell (g i))) := by
  have h := rr_X0_stayOnDwell (X := X) d (g := g) (c := g i) (i := i)
  rw [mU_self] at h
  exact h
theorem e_X0_moveBreaks_0 {X : mX} {call : Nat → List mV → mG → mR} {g : mG} {i : Nat} : mEv X call 0 t_X0_moveBreaks (mDrop t_X0_moveBreaks 0) [some (mr i 0)] [] g = if (g i 0 16) = (-1) then mEv X call 0 t_X0_moveBreaks (mDrop t_X0_moveBreaks 8) [some (mr i 0)] [] g else mEv X call 0 t_X0_moveBreaks (mDrop t_X0_moveBreaks 15) [some (mr i 0)] [] g := (mEv_4 _ _ _ _).trans rfl
theorem e_X0_moveBreaks_8 {X : mX} {call : Nat → List mV → mG → mR} {g : mG} {i : Nat} : mEv X call 0 t_X0_moveBreaks (mDrop t_X0_moveBreaks 8) [some (mr i 0)] [] g = mAns (mEv X call 0 t_X0_moveBreaks) (mDrop t_X0_moveBreaks 12) [some (mr i 0)] [] (call 38 [mr i 0] g) := (mEv_2 _ _ _ _).trans rfl
theorem e_X0_moveBreaks_12 {X : mX} {call : Nat → List mV → mG → mR} {g : mG} {i : Nat} : mEv X call 0 t_X0_moveBreaks (mDrop t_X0_moveBreaks 12) [some (mr i 0)] [] g = mEv X call 0 t_X0_moveBreaks (mDrop t_X0_moveBreaks 52) [some (mr i 0)] [] g := (mEv_1 _ _ _ _).trans rfl
theorem e_X0_moveBreaks_52 {X : mX} {call : Nat → List mV → mG → mR} {g : mG} {i : Nat} : mEv X call 0 t_X0_moveBreaks (mDrop t_X0_moveBreaks 52) [some (mr i 0)] [] g = if (g i 0 17) = 1 then mEv X call 0 t_X0_moveBreaks (mDrop t_X0_moveBreaks 88) [some (mr i 0)] [] g else (if (g i 0 17) = 2 then mEv X call 0 t_X0_moveBreaks (mDrop t_X0_moveBreaks 107) [some (mr i 0)] [] g else (if (g i 0 17) = 3 then mEv X call 0 t_X0_moveBreaks (mDrop t_X0_moveBreaks 114) [some (mr i 0)] [] g else (if (g i 0 17) = 4 then mEv X call 0 t_X0_moveBreaks (mDrop t_X0_moveBreaks 133) [some (mr i 0)] [] g else (mEv X call 0 t_X0_moveBreaks (mDrop t_X0_moveBreaks 140) [some (mr i 0)] [] g)))) := (mEv_3 _ _ _ _).trans rfl
theorem e_X0_moveBreaks_140 {X : mX} {call : Nat → List mV → mG → mR} {g : mG} {i : Nat} : mEv X call 0 t_X0_moveBreaks (mDrop t_X0_moveBreaks 140) [some (mr i 0)] [] g = some (none, g) := (mEv_1 _ _ _ _).trans rfl
theorem e_X0_moveBreaks_88 {X : mX} {call : Nat → List mV → mG → mR} {g : mG} {i : Nat} : mEv X call 0 t_X0_moveBreaks (mDrop t_X0_moveBreaks 88) [some (mr i 0)] [] g = mAns (mEv X call 0 t_X0_moveBreaks) (mDrop t_X0_moveBreaks 101) [some (mr i 0)] [mr i 0] (call 59 [mr i 1, mi (g i 0 16), mi 0] g) := (mEv_7 _ _ _ _).trans rfl
theorem e_X0_moveBreaks_101 {X : mX} {call : Nat → List mV → mG → mR} {g : mG} {s1 : Int32} {i : Nat} : mEv X call 0 t_X0_moveBreaks (mDrop t_X0_moveBreaks 101) [some (mr i 0)] [mi s1, mr i 0] g = mAns (mEv X call 0 t_X0_moveBreaks) (mDrop t_X0_moveBreaks 104) [some (mr i 0)] [] (call 41 [mr i 0, mi s1] g) := (mEv_1 _ _ _ _).trans rfl
theorem e_X0_moveBreaks_104 {X : mX} {call : Nat → List mV → mG → mR} {g : mG} {i : Nat} : mEv X call 0 t_X0_moveBreaks (mDrop t_X0_moveBreaks 104) [some (mr i 0)] [] g = mEv X call 0 t_X0_moveBreaks (mDrop t_X0_moveBreaks 140) [some (mr i 0)] [] g := (mEv_1 _ _ _ _).trans rfl
theorem e_X0_moveBreaks_107 {X : mX} {call : Nat → List mV → mG → mR} {g : mG} {i : Nat} : mEv X call 0 t_X0_moveBreaks (mDrop t_X0_moveBreaks 107) [some (mr i 0)] [] g = mAns (mEv X call 0 t_X0_moveBreaks) (mDrop t_X0_moveBreaks 111) [some (mr i 0)] [] (call 44 [mr i 0] g) := (mEv_2 _ _ _ _).trans rfl
theorem e_X0_moveBreaks_111 {X : mX} {call : Nat → List mV → mG → mR} {g : mG} {i : Nat} : mEv X call 0 t_X0_moveBreaks (mDrop t_X0_moveBreaks 111) [some (mr i 0)] [] g = mEv X call 0 t_X0_moveBreaks (mDrop t_X0_moveBreaks 140) [some (mr i 0)] [] g := (mEv_1 _ _ _ _).trans rfl
theorem e_X0_moveBreaks_114 {X : mX} {call : Nat → List mV → mG → mR} {g : mG} {i : Nat} : mEv X call 0 t_X0_moveBreaks (mDrop t_X0_moveBreaks 114) [some (mr i 0)] [] g = mAns (mEv X call 0 t_X0_moveBreaks) (mDrop t_X0_moveBreaks 127) [some (mr i 0)] [mr i 0] (call 59 [mr i 1, mi (g i 0 16), mi 2] g) := (mEv_7 _ _ _ _).trans rfl
theorem e_X0_moveBreaks_127 {X : mX} {call : Nat → List mV → mG → mR} {g : mG} {s1 : Int32} {i : Nat} : mEv X call 0 t_X0_moveBreaks (mDrop t_X0_moveBreaks 127) [some (mr i 0)] [mi s1, mr i 0] g = mAns (mEv X call 0 t_X0_moveBreaks) (mDrop t_X0_moveBreaks 130) [some (mr i 0)] [] (call 41 [mr i 0, mi s1] g) := (mEv_1 _ _ _ _).trans rfl
theorem e_X0_moveBreaks_130 {X : mX} {call : Nat → List mV → mG → mR} {g : mG} {i : Nat} : mEv X call 0 t_X0_moveBreaks (mDrop t_X0_moveBreaks 130) [some (mr i 0)] [] g = mEv X call 0 t_X0_moveBreaks (mDrop t_X0_moveBreaks 140) [some (mr i 0)] [] g := (mEv_1 _ _ _ _).trans rfl
theorem e_X0_moveBreaks_133 {X : mX} {call : Nat → List mV → mG → mR} {g : mG} {i : Nat} : mEv X call 0 t_X0_moveBreaks (mDrop t_X0_moveBreaks 133) [some (mr i 0)] [] g = mAns (mEv X call 0 t_X0_moveBreaks) (mDrop t_X0_moveBreaks 137) [some (mr i 0)] [] (call 45 [mr i 0] g) := (mEv_2 _ _ _ _).trans rfl
theorem e_X0_moveBreaks_137 {X : mX} {call : Nat → List mV → mG → mR} {g : mG} {i : Nat} : mEv X call 0 t_X0_moveBreaks (mDrop t_X0_moveBreaks 137) [some (mr i 0)] [] g = mEv X call 0 t_X0_moveBreaks (mDrop t_X0_moveBreaks 140) [some (mr i 0)] [] g := (mEv_1 _ _ _ _).trans rfl
noncomputable def J_X0_moveBreaks_52 (c : mC) : (mC) := (if (c 0 17) = 1 then (mBd (α := Int32) (P_X2_breakOf c (c 0 16) 0) (fun v1 => (mBd (α := mC) (P_X0_seek c v1) (fun c2 => c2)))) else (if (c 0 17) = 2 then (mBd (α := mC) (P_X0_stayOnTrack c) (fun c3 => c3)) else (if (c 0 17) = 3 then (mBd (α := Int32) (P_X2_breakOf c (c 0 16) 2) (fun v4 => (mBd (α := mC) (P_X0_seek c v4) (fun c5 => c5)))) else (if (c 0 17) = 4 then (mBd (α := mC) (P_X0_stayOnDwell c) (fun c6 => c6)) else c))))
theorem rj_X0_moveBreaks_52 (d : Nat) {X : mX} {g : mG} {i : Nat} {c : mC} : mEv X (mCall mD X (d + 5)) 0 t_X0_moveBreaks (mDrop t_X0_moveBreaks 52) [some (mr i 0)] [] (mU g i c) = (wV g i) (J_X0_moveBreaks_52 c) := by
  refine Eq.trans (e_X0_moveBreaks_52) ?_
  try simp only [mU_same, mU_mU]
  refine mw_ite (fun _ => ?_) (fun _ => ?_)
  · refine Eq.trans (e_X0_moveBreaks_88) ?_
    try simp only [mU_same, mU_mU]
    refine mw_cI (rr_X2_breakOf (d + 3)) (fun v1 => ?_)
    refine Eq.trans (e_X0_moveBreaks_101) ?_
    try simp only [mU_same, mU_mU]
    refine mw_cV (rr_X0_seek d) (fun c2 => ?_)
    refine Eq.trans (e_X0_moveBreaks_104) ?_
    try simp only [mU_same, mU_mU]
    refine Eq.trans (e_X0_moveBreaks_140) ?_
    try simp only [mU_same, mU_mU]
    all_goals rfl
  · refine mw_ite (fun _ => ?_) (fun _ => ?_)
    · refine Eq.trans (e_X0_moveBreaks_107) ?_
      try simp only [mU_same, mU_mU]
      refine mw_cV (rr_X0_stayOnTrack (d + 2)) (fun c3 => ?_)
      refine Eq.trans (e_X0_moveBreaks_111) ?_
      try simp only [mU_same, mU_mU]
      refine Eq.trans (e_X0_moveBreaks_140) ?_
      try simp only [mU_same, mU_mU]
      all_goals rfl
    · refine mw_ite (fun _ => ?_) (fun _ => ?_)
      · refine Eq.trans (e_X0_moveBreaks_114) ?_
        try simp only [mU_same, mU_mU]
        refine mw_cI (rr_X2_breakOf (d + 3)) (fun v4 => ?_)
        refine Eq.trans (e_X0_moveBreaks_127) ?_
        try simp only [mU_same, mU_mU]
        refine mw_cV (rr_X0_seek d) (fun c5 => ?_)
        refine Eq.trans (e_X0_moveBreaks_130) ?_
        try simp only [mU_same, mU_mU]
        refine Eq.trans (e_X0_moveBreaks_140) ?_
        try simp only [mU_same, mU_mU]
        all_goals rfl
      · refine mw_ite (fun _ => ?_) (fun _ => ?_)
        · refine Eq.trans (e_X0_moveBreaks_133) ?_
          try simp only [mU_same, mU_mU]
          refine mw_cV (rr_X0_stayOnDwell (d + 1)) (fun c6 => ?_)
          refine Eq.trans (e_X0_moveBreaks_137) ?_
          try simp only [mU_same, mU_mU]
          refine Eq.trans (e_X0_moveBreaks_140) ?_
          try simp only [mU_same, mU_mU]
          all_goals rfl
        · refine Eq.trans (e_X0_moveBreaks_140) ?_
          try simp only [mU_same, mU_mU]
          all_goals rfl
theorem e_X0_moveBreaks_15 {X : mX} {call : Nat → List mV → mG → mR} {g : mG} {i : Nat} : mEv X call 0 t_X0_moveBreaks (mDrop t_X0_moveBreaks 15) [some (mr i 0)] [] g = if (g i 0 16) = 1 then mEv X call 0 t_X0_moveBreaks (mDrop t_X0_moveBreaks 23) [some (mr i 0)] [] g else mEv X call 0 t_X0_moveBreaks (mDrop t_X0_moveBreaks 52) [some (mr i 0)] [] g := (mEv_4 _ _ _ _).trans rfl
theorem e_X0_moveBreaks_23 {X : mX} {call : Nat → List mV → mG → mR} {g : mG} {i : Nat} : mEv X call 0 t_X0_moveBreaks (mDrop t_X0_moveBreaks 23) [some (mr i 0)] [] g = mAns (mEv X call 0 t_X0_moveBreaks) (mDrop t_X0_moveBreaks 31) [some (mr i 0)] [] (call 149 [mi (g i 0 11), mi 0] g) := (mEv_4 _ _ _ _).trans rfl
theorem e_X0_moveBreaks_31 {X : mX} {call : Nat → List mV → mG → mR} {g : mG} {s0 : Int32} {i : Nat} : mEv X call 0 t_X0_moveBreaks (mDrop t_X0_moveBreaks 31) [some (mr i 0)] [mi s0] g = if s0 = 0 then mEv X call 0 t_X0_moveBreaks (mDrop t_X0_moveBreaks 52) [some (mr i 0)] [] g else mEv X call 0 t_X0_moveBreaks (mDrop t_X0_moveBreaks 34) [some (mr i 0)] [] g := (mEv_1 _ _ _ _).trans rfl
theorem e_X0_moveBreaks_34 {X : mX} {call : Nat → List mV → mG → mR} {g : mG} {i : Nat} : mEv X call 0 t_X0_moveBreaks (mDrop t_X0_moveBreaks 34) [some (mr i 0)] [] g = mAns (mEv X call 0 t_X0_moveBreaks) (mDrop t_X0_moveBreaks 47) [some (mr i 0)] [] (call 49 [mr i 10, mi 3, mi (g i 0 12), mi 1] g) := (mEv_7 _ _ _ _).trans rfl
theorem e_X0_moveBreaks_47 {X : mX} {call : Nat → List mV → mG → mR} {g : mG} {i : Nat} : mEv X call 0 t_X0_moveBreaks (mDrop t_X0_moveBreaks 47) [some (mr i 0)] [] g = mAns (mEv X call 0 t_X0_moveBreaks) (mDrop t_X0_moveBreaks 52) [some (mr i 0)] [] (call 39 [mr i 0, mi 0] g) := (mEv_3 _ _ _ _).trans rfl
noncomputable def P_X0_moveBreaks (c : mC) : (mC) := (if (c 0 16) = (-1) then (mBd (α := mC) (P_X0_beginWanted c) (fun c1 => (J_X0_moveBreaks_52 c1))) else (if (c 0 16) = 1 then (mBd (α := Int32) (P_X5_inSet (c 0 11) 0) (fun v2 => (if v2 = 0 then (J_X0_moveBreaks_52 c) else (mBd (α := mC) (P_X1_note c 3 (c 0 12) 1) (fun c3 => (mBd (α := mC) (P_X0_beginBreak c3 0) (fun c4 => (J_X0_moveBreaks_52 c4)))))))) else (J_X0_moveBreaks_52 c)))
theorem rr_X0_moveBreaks (d : Nat) {X : mX} {g : mG} {i : Nat} {c : mC} : mCall mD X (d + 6) 37 [mr i 0] (mU g i c) = (wV g i) (P_X0_moveBreaks c) := by
  refine Eq.trans (mCall_eq (d := d + 5) rfl) ?_
  show mEv X (mCall mD X (d + 5)) 0 t_X0_moveBreaks (mDrop t_X0_moveBreaks 0) [some (mr i 0)] [] (mU g i c) = _
  refine Eq.trans (e_X0_moveBreaks_0) ?_
  try simp only [mU_same, mU_mU]
  refine mw_ite (fun h7 => ?_) (fun h7 => ?_)
  · refine Eq.trans (e_X0_moveBreaks_8) ?_
    try simp only [mU_same, mU_mU]
    refine mw_cV (rr_X0_beginWanted (d + 1)) (fun c1 => ?_)
    refine Eq.trans (e_X0_moveBreaks_12) ?_
    try simp only [mU_same, mU_mU]
    exact rj_X0_moveBreaks_52 d
  · refine Eq.trans (e_X0_moveBreaks_15) ?_
    try simp only [mU_same, mU_mU]
    refine mw_ite (fun h6 => ?_) (fun h6 => ?_)
    · refine Eq.trans (e_X0_moveBreaks_23) ?_
      try simp only [mU_same, mU_mU]
      refine mw_cZ (rr_X5_inSet (d + 4)) rfl (fun v2 hv2 => ?_)
      refine Eq.trans (e_X0_moveBreaks_31) ?_
      try simp only [mU_same, mU_mU]
      refine mw_ite (fun h5 => ?_) (fun h5 => ?_)
      · exact rj_X0_moveBreaks_52 d
      · refine Eq.trans (e_X0_moveBreaks_34) ?_
        try simp only [mU_same, mU_mU]
        refine mw_cV (rr_X1_note (d + 3)) (fun c3 => ?_)
        refine Eq.trans (e_X0_moveBreaks_47) ?_
        try simp only [mU_same, mU_mU]
        refine mw_cV (rr_X0_beginBreak (d + 2)) (fun c4 => ?_)
        exact rj_X0_moveBreaks_52 d
    · exact rj_X0_moveBreaks_52 d
theorem rr_X0_moveBreaks_at (d : Nat) {X : mX} {g : mG} {i : Nat} : mCall mD X (d + 6) 37 [mr i 0] g = some (none, mU g i (P_X0_moveBreaks (g i))) := by
  have h := rr_X0_moveBreaks (X := X) d (g := g) (c := g i) (i := i)
  rw [mU_self] at h
  exact h
theorem e_X0_leaveToNext_0 {X : mX} {call : Nat → List mV → mG → mR} {g : mG} {x2 : Int32} {i r : Nat} (h_r : r = 8 ∨ r = 9) : mEv X call 2 t_X0_leaveToNext (mDrop t_X0_leaveToNext 0) [some (mr i 0), some (mr i r), some (mi x2), none, none] [] g = mAns (mEv X call 2 t_X0_leaveToNext) (mDrop t_X0_leaveToNext 7) [some (mr i 0), some (mr i r), some (mi x2), none, none] [] (call 147 [mi (g i r 1)] g) := by
  rcases h_r with rfl | rfl <;> exact (mEv_3 _ _ _ _).trans rfl
theorem e_X0_leaveToNext_7 {X : mX} {call : Nat → List mV → mG → mR} {g : mG} {x2 s0 : Int32} {i r : Nat} (h_r : r = 8 ∨ r = 9) : mEv X call 2 t_X0_leaveToNext (mDrop t_X0_leaveToNext 7) [some (mr i 0), some (mr i r), some (mi x2), none, none] [mi s0] g = mAns (mEv X call 2 t_X0_leaveToNext) (mDrop t_X0_leaveToNext 34) [some (mr i 0), some (mr i r), some (mi x2), some (mi ((s0 * 2) - 1)), none] [mi (g i r 0), mr i 1] (call 142 [mr i 3, mi (g i r 1)] g) := by
  rcases h_r with rfl | rfl <;> exact (mEv_15 _ _ _ _).trans rfl
theorem e_X0_leaveToNext_34 {X : mX} {call : Nat → List mV → mG → mR} {g : mG} {x2 x3 s1 s2 : Int32} {i r : Nat} (h_r : r = 8 ∨ r = 9) : mEv X call 2 t_X0_leaveToNext (mDrop t_X0_leaveToNext 34) [some (mr i 0), some (mr i r), some (mi x2), some (mi x3), none] [mi s2, mi s1, mr i 1] g = mAns (mEv X call 2 t_X0_leaveToNext) (mDrop t_X0_leaveToNext 37) [some (mr i 0), some (mr i r), some (mi x2), some (mi x3), none] [] (call 61 [mr i 1, mi s1, mi s2] g) := by
  rcases h_r with rfl | rfl <;> exact (mEv_1 _ _ _ _).trans rfl
theorem e_X0_leaveToNext_37 {X : mX} {call : Nat → List mV → mG → mR} {g : mG} {x2 x3 s0 : Int32} {i r : Nat} (h_r : r = 8 ∨ r = 9) : mEv X call 2 t_X0_leaveToNext (mDrop t_X0_leaveToNext 37) [some (mr i 0), some (mr i r), some (mi x2), some (mi x3), none] [mi s0] g = mAns (mEv X call 2 t_X0_leaveToNext) (mDrop t_X0_leaveToNext 46) [some (mr i 0), some (mr i r), some (mi x2), some (mi x3), none] [] (call 150 [mi ((s0 &&& x2) &&& (x3 ^^^ (-1)))] g) := by
  rcases h_r with rfl | rfl <;> exact (mEv_7 _ _ _ _).trans rfl
theorem e_X0_leaveToNext_46 {X : mX} {call : Nat → List mV → mG → mR} {g : mG} {x2 x3 s0 : Int32} {i r : Nat} (h_r : r = 8 ∨ r = 9) : mEv X call 2 t_X0_leaveToNext (mDrop t_X0_leaveToNext 46) [some (mr i 0), some (mr i r), some (mi x2), some (mi x3), none] [mi s0] g = if s0 = (-1) then mEv X call 2 t_X0_leaveToNext (mDrop t_X0_leaveToNext 54) [some (mr i 0), some (mr i r), some (mi x2), some (mi x3), some (mi s0)] [] g else mEv X call 2 t_X0_leaveToNext (mDrop t_X0_leaveToNext 56) [some (mr i 0), some (mr i r), some (mi x2), some (mi x3), some (mi s0)] [] g := by
  rcases h_r with rfl | rfl <;> exact (mEv_4 _ _ _ _).trans rfl
theorem e_X0_leaveToNext_54 {X : mX} {call : Nat → List mV → mG → mR} {g : mG} {x2 x3 x4 : Int32} {i r : Nat} (h_r : r = 8 ∨ r = 9) : mEv X call 2 t_X0_leaveToNext (mDrop t_X0_leaveToNext 54) [some (mr i 0), some (mr i r), some (mi x2), some (mi x3), some (mi x4)] [] g = if (0 : Int32) &&& 1 = 0 then some (some (mi 0), g) else none := by
  rcases h_r with rfl | rfl <;> exact (mEv_2 _ _ _ _).trans rfl
theorem e_X0_leaveToNext_56 {X : mX} {call : Nat → List mV → mG → mR} {g : mG} {x2 x3 x4 : Int32} {i r : Nat} (h_r : r = 8 ∨ r = 9) : mEv X call 2 t_X0_leaveToNext (mDrop t_X0_leaveToNext 56) [some (mr i 0), some (mr i r), some (mi x2), some (mi x3), some (mi x4)] [] g = mAns (mEv X call 2 t_X0_leaveToNext) (mDrop t_X0_leaveToNext 63) [some (mr i 0), some (mr i r), some (mi x2), some (mi x3), some (mi x4)] [] (call 28 [mr i 0, mr i r, mi x4] g) := by
  rcases h_r with rfl | rfl <;> exact (mEv_4 _ _ _ _).trans rfl
theorem e_X0_leaveToNext_63 {X : mX} {call : Nat → List mV → mG → mR} {g : mG} {x2 x3 x4 : Int32} {i r : Nat} (h_r : r = 8 ∨ r = 9) : mEv X call 2 t_X0_leaveToNext (mDrop t_X0_leaveToNext 63) [some (mr i 0), some (mr i r), some (mi x2), some (mi x3), some (mi x4)] [] g = if (1 : Int32) &&& 1 = 1 then some (some (mi 1), g) else none := by
  rcases h_r with rfl | rfl <;> exact (mEv_2 _ _ _ _).trans rfl
noncomputable def P_X0_leaveToNext (r : Nat) (c : mC) (x2 : Int32) : (Int32 × mC) := (mBd (α := Int32) (P_X5_bit (c r 1)) (fun v1 => (mBd (α := Int32) (cl 8 (c 3) (c r 1)) (fun v2 => (mBd (α := Int32) (P_X2_partOf c (c r 0) v2) (fun v3 => (mBd (α := Int32) (P_X5_firstIn ((v3 &&& x2) &&& (((v1 * 2) - 1) ^^^ (-1)))) (fun v4 => (if v4 = (-1) then (0, c) else (mBd (α := mC) (P_X0_goTo r c v4) (fun c5 => (1, c5))))))))))))
theorem rr_X0_leaveToNext (d : Nat) {X : mX} {g : mG} {i r : Nat} (h_r : r = 8 ∨ r = 9) {x2 : Int32} {c : mC} : mCall mD X (d + 4) 33 [mr i 0, mr i r, mi x2] (mU g i c) = (wW g i) (P_X0_leaveToNext r c x2) := by
  refine Eq.trans (mCall_eq (d := d + 3) rfl) ?_
  show mEv X (mCall mD X (d + 3)) 2 t_X0_leaveToNext (mDrop t_X0_leaveToNext 0) [some (mr i 0), some (mr i r), some (mi x2), none, none] [] (mU g i c) = _
  refine Eq.trans (e_X0_leaveToNext_0 h_r) ?_
  try simp only [mU_same, mU_mU]
  refine mw_cI (rr_X5_bit (d + 2)) (fun v1 => ?_)
  refine Eq.trans (e_X0_leaveToNext_7 h_r) ?_
  try simp only [mU_same, mU_mU]
  refine mw_cI (rr_X5_cell_3 (d + 2)) (fun v2 => ?_)
  refine Eq.trans (e_X0_leaveToNext_34 h_r) ?_
  try simp only [mU_same, mU_mU]
  refine mw_cI (rr_X2_partOf (d + 2)) (fun v3 => ?_)
  refine Eq.trans (e_X0_leaveToNext_37 h_r) ?_
  try simp only [mU_same, mU_mU]
  refine mw_cI (rr_X5_firstIn (d + 2)) (fun v4 => ?_)
  refine Eq.trans (e_X0_leaveToNext_46 h_r) ?_
  try simp only [mU_same, mU_mU]
  refine mw_ite (fun h6 => ?_) (fun h6 => ?_)
  · refine Eq.trans (e_X0_leaveToNext_54 h_r) ?_
    try simp only [mU_same, mU_mU]
    exact if_pos (by decide)
  · refine Eq.trans (e_X0_leaveToNext_56 h_r) ?_
    try simp only [mU_same, mU_mU]
    refine mw_cV (rr_X0_goTo d h_r) (fun c5 => ?_)
    refine Eq.trans (e_X0_leaveToNext_63 h_r) ?_
    try simp only [mU_same, mU_mU]
    exact if_pos (by decide)
theorem rr_X0_leaveToNext_at (d : Nat) {X : mX} {g : mG} {i r : Nat} (h_r : r = 8 ∨ r = 9) {x2 : Int32} : mCall mD X (d + 4) 33 [mr i 0, mr i r, mi x2] g = wW g i (P_X0_leaveToNext r (g i) x2) := by
  have h := rr_X0_leaveToNext (X := X) d (g := g) (c := g i) h_r (x2 := x2) (i := i)
  rw [mU_self] at h
  exact h
theorem e_X2_sideSet_0 {X : mX} {call : Nat → List mV → mG → mR} {g : mG} {x1 : Int32} {i : Nat} : mEv X call 1 t_X2_sideSet (mDrop t_X2_sideSet 0) [some (mr i 1), some (mi x1)] [] g = mAns (mEv X call 1 t_X2_sideSet) (mDrop t_X2_sideSet 6) [some (mr i 1), some (mi x1)] [] (call 61 [mr i 1, mi 0, mi x1] g) := (mEv_4 _ _ _ _).trans rfl
theorem e_X2_sideSet_6 {X : mX} {call : Nat → List mV → mG → mR} {g : mG} {x1 s0 : Int32} {i : Nat} : mEv X call 1 t_X2_sideSet (mDrop t_X2_sideSet 6) [some (mr i 1), some (mi x1)] [mi s0] g = mAns (mEv X call 1 t_X2_sideSet) (mDrop t_X2_sideSet 12) [some (mr i 1), some (mi x1)] [mi s0] (call 61 [mr i 1, mi 1, mi x1] g) := (mEv_4 _ _ _ _).trans rfl
theorem e_X2_sideSet_12 {X : mX} {call : Nat → List mV → mG → mR} {g : mG} {x1 s0 s1 : Int32} {i : Nat} : mEv X call 1 t_X2_sideSet (mDrop t_X2_sideSet 12) [some (mr i 1), some (mi x1)] [mi s1, mi s0] g = some (some (mi (s0 ||| s1)), g) := (mEv_2 _ _ _ _).trans rfl
noncomputable def P_X2_sideSet (c : mC) (x1 : Int32) : (Int32) := (mBd (α := Int32) (P_X2_partOf c 0 x1) (fun v1 => (mBd (α := Int32) (P_X2_partOf c 1 x1) (fun v2 => (v1 ||| v2)))))
theorem rr_X2_sideSet (d : Nat) {X : mX} {g : mG} {i : Nat} {x1 : Int32} {c : mC} : mCall mD X (d + 2) 62 [mr i 1, mi x1] (mU g i c) = (wI g i c) (P_X2_sideSet c x1) := by
  refine Eq.trans (mCall_eq (d := d + 1) rfl) ?_
  show mEv X (mCall mD X (d + 1)) 1 t_X2_sideSet (mDrop t_X2_sideSet 0) [some (mr i 1), some (mi x1)] [] (mU g i c) = _
  refine Eq.trans (e_X2_sideSet_0) ?_
  try simp only [mU_same, mU_mU]
  refine mw_cI (rr_X2_partOf d) (fun v1 => ?_)
  refine Eq.trans (e_X2_sideSet_6) ?_
  try simp only [mU_same, mU_mU]
  refine mw_cI (rr_X2_partOf d) (fun v2 => ?_)
  refine Eq.trans (e_X2_sideSet_12) ?_
  try simp only [mU_same, mU_mU]
  all_goals rfl
theorem rr_X2_sideSet_at (d : Nat) {X : mX} {g : mG} {i : Nat} {x1 : Int32} : mCall mD X (d + 2) 62 [mr i 1, mi x1] g = wN g (P_X2_sideSet (g i) x1) := by
  have h := rr_X2_sideSet (X := X) d (g := g) (c := g i) (x1 := x1) (i := i)
  rw [mU_self] at h
  exact h.trans (wI_self _ _ _)
theorem e_X0_crossOver_0 {X : mX} {call : Nat → List mV → mG → mR} {g : mG} {x2 x3 : Int32} {i r : Nat} (h_r : r = 8 ∨ r = 9) : mEv X call 0 t_X0_crossOver (mDrop t_X0_crossOver 0) [some (mr i 0), some (mr i r), some (mi x2), some (mi x3)] [] g = if (x2 &&& x3) = 0 then mEv X call 0 t_X0_crossOver (mDrop t_X0_crossOver 14) [some (mr i 0), some (mr i r), some (mi x2), some (mi x3)] [mr i r, mr i 0] g else mEv X call 0 t_X0_crossOver (mDrop t_X0_crossOver 8) [some (mr i 0), some (mr i r), some (mi x2), some (mi x3)] [mr i r, mr i 0] g := by
  rcases h_r with rfl | rfl <;> exact (mEv_6 _ _ _ _).trans rfl
theorem e_X0_crossOver_14 {X : mX} {call : Nat → List mV → mG → mR} {g : mG} {x2 x3 : Int32} {i r : Nat} (h_r : r = 8 ∨ r = 9) : mEv X call 0 t_X0_crossOver (mDrop t_X0_crossOver 14) [some (mr i 0), some (mr i r), some (mi x2), some (mi x3)] [mr i r, mr i 0] g = mEv X call 0 t_X0_crossOver (mDrop t_X0_crossOver 15) [some (mr i 0), some (mr i r), some (mi x2), some (mi x3)] [mi x2, mr i r, mr i 0] g := by
  rcases h_r with rfl | rfl <;> exact (mEv_1 _ _ _ _).trans rfl
theorem e_X0_crossOver_15 {X : mX} {call : Nat → List mV → mG → mR} {g : mG} {x2 x3 s2 : Int32} {i r : Nat} (h_r : r = 8 ∨ r = 9) : mEv X call 0 t_X0_crossOver (mDrop t_X0_crossOver 15) [some (mr i 0), some (mr i r), some (mi x2), some (mi x3)] [mi s2, mr i r, mr i 0] g = mAns (mEv X call 0 t_X0_crossOver) (mDrop t_X0_crossOver 18) [some (mr i 0), some (mr i r), some (mi x2), some (mi x3)] [mr i r, mr i 0] (call 150 [mi s2] g) := by
  rcases h_r with rfl | rfl <;> exact (mEv_1 _ _ _ _).trans rfl
theorem e_X0_crossOver_18 {X : mX} {call : Nat → List mV → mG → mR} {g : mG} {x2 x3 s2 : Int32} {i r : Nat} (h_r : r = 8 ∨ r = 9) : mEv X call 0 t_X0_crossOver (mDrop t_X0_crossOver 18) [some (mr i 0), some (mr i r), some (mi x2), some (mi x3)] [mi s2, mr i r, mr i 0] g = mAns (mEv X call 0 t_X0_crossOver) (mDrop t_X0_crossOver 21) [some (mr i 0), some (mr i r), some (mi x2), some (mi x3)] [] (call 28 [mr i 0, mr i r, mi s2] g) := by
  rcases h_r with rfl | rfl <;> exact (mEv_1 _ _ _ _).trans rfl
theorem e_X0_crossOver_21 {X : mX} {call : Nat → List mV → mG → mR} {g : mG} {x2 x3 : Int32} {i r : Nat} (h_r : r = 8 ∨ r = 9) : mEv X call 0 t_X0_crossOver (mDrop t_X0_crossOver 21) [some (mr i 0), some (mr i r), some (mi x2), some (mi x3)] [] g = some (none, g) := by
  rcases h_r with rfl | rfl <;> exact (mEv_1 _ _ _ _).trans rfl
noncomputable def J_X0_crossOver_15 (r : Nat) (c : mC) (s2 : Int32) : (mC) := (mBd (α := Int32) (P_X5_firstIn s2) (fun v1 => (mBd (α := mC) (P_X0_goTo r c v1) (fun c2 => c2))))
theorem rj_X0_crossOver_15 (d : Nat) {X : mX} {g : mG} {i r : Nat} (h_r : r = 8 ∨ r = 9) {x2 x3 s2 : Int32} {c : mC} : mEv X (mCall mD X (d + 3)) 0 t_X0_crossOver (mDrop t_X0_crossOver 15) [some (mr i 0), some (mr i r), some (mi x2), some (mi x3)] [mi s2, mr i r, mr i 0] (mU g i c) = (wV g i) (J_X0_crossOver_15 r c s2) := by
  refine Eq.trans (e_X0_crossOver_15 h_r) ?_
  try simp only [mU_same, mU_mU]
  refine mw_cI (rr_X5_firstIn (d + 2)) (fun v1 => ?_)
  refine Eq.trans (e_X0_crossOver_18 h_r) ?_
  try simp only [mU_same, mU_mU]
  refine mw_cV (rr_X0_goTo d h_r) (fun c2 => ?_)
  refine Eq.trans (e_X0_crossOver_21 h_r) ?_
  try simp only [mU_same, mU_mU]
  all_goals rfl
theorem e_X0_crossOver_8 {X : mX} {call : Nat → List mV → mG → mR} {g : mG} {x2 x3 : Int32} {i r : Nat} (h_r : r = 8 ∨ r = 9) : mEv X call 0 t_X0_crossOver (mDrop t_X0_crossOver 8) [some (mr i 0), some (mr i r), some (mi x2), some (mi x3)] [mr i r, mr i 0] g = mEv X call 0 t_X0_crossOver (mDrop t_X0_crossOver 15) [some (mr i 0), some (mr i r), some (mi x2), some (mi x3)] [mi (x2 &&& x3), mr i r, mr i 0] g := by
  rcases h_r with rfl | rfl <;> exact (mEv_4 _ _ _ _).trans rfl
noncomputable def P_X0_crossOver (r : Nat) (c : mC) (x2 : Int32) (x3 : Int32) : (mC) := (if (x2 &&& x3) = 0 then (J_X0_crossOver_15 r c x2) else (J_X0_crossOver_15 r c (x2 &&& x3)))
theorem rr_X0_crossOver (d : Nat) {X : mX} {g : mG} {i r : Nat} (h_r : r = 8 ∨ r = 9) {x2 x3 : Int32} {c : mC} : mCall mD X (d + 4) 35 [mr i 0, mr i r, mi x2, mi x3] (mU g i c) = (wV g i) (P_X0_crossOver r c x2 x3) := by
  refine Eq.trans (mCall_eq (d := d + 3) rfl) ?_
  show mEv X (mCall mD X (d + 3)) 0 t_X0_crossOver (mDrop t_X0_crossOver 0) [some (mr i 0), some (mr i r), some (mi x2), some (mi x3)] [] (mU g i c) = _
  refine Eq.trans (e_X0_crossOver_0 h_r) ?_
  try simp only [mU_same, mU_mU]
  refine mw_ite (fun h1 => ?_) (fun h1 => ?_)
  · refine Eq.trans (e_X0_crossOver_14 h_r) ?_
    try simp only [mU_same, mU_mU]
    exact rj_X0_crossOver_15 d h_r
  · refine Eq.trans (e_X0_crossOver_8 h_r) ?_
    try simp only [mU_same, mU_mU]
    exact rj_X0_crossOver_15 d h_r
theorem rr_X0_crossOver_at (d : Nat) {X : mX} {g : mG} {i r : Nat} (h_r : r = 8 ∨ r = 9) {x2 x3 : Int32} : mCall mD X (d + 4) 35 [mr i 0, mr i r, mi x2, mi x3] g = some (none, mU g i (P_X0_crossOver r (g i) x2 x3)) := by
  have h := rr_X0_crossOver (X := X) d (g := g) (c := g i) h_r (x2 := x2) (x3 := x3) (i := i)
  rw [mU_self] at h
  exact h
theorem e_X0_turnBack_0 {X : mX} {call : Nat → List mV → mG → mR} {g : mG} {x2 : Int32} {i r : Nat} (h_r : r = 8 ∨ r = 9) : mEv X call 0 t_X0_turnBack (mDrop t_X0_turnBack 0) [some (mr i 0), some (mr i r), some (mi x2), none] [] g = mAns (mEv X call 0 t_X0_turnBack) (mDrop t_X0_turnBack 8) [some (mr i 0), some (mr i r), some (mi x2), none] [mi x2] (call 147 [mi (g i r 1)] g) := by
  rcases h_r with rfl | rfl <;> exact (mEv_4 _ _ _ _).trans rfl
theorem e_X0_turnBack_8 {X : mX} {call : Nat → List mV → mG → mR} {g : mG} {x2 s0 s1 : Int32} {i r : Nat} (h_r : r = 8 ∨ r = 9) : mEv X call 0 t_X0_turnBack (mDrop t_X0_turnBack 8) [some (mr i 0), some (mr i r), some (mi x2), none] [mi s1, mi s0] g = mAns (mEv X call 0 t_X0_turnBack) (mDrop t_X0_turnBack 14) [some (mr i 0), some (mr i r), some (mi x2), none] [] (call 150 [mi (s0 &&& (s1 ^^^ (-1)))] g) := by
  rcases h_r with rfl | rfl <;> exact (mEv_4 _ _ _ _).trans rfl
theorem e_X0_turnBack_14 {X : mX} {call : Nat → List mV → mG → mR} {g : mG} {x2 s0 : Int32} {i r : Nat} (h_r : r = 8 ∨ r = 9) : mEv X call 0 t_X0_turnBack (mDrop t_X0_turnBack 14) [some (mr i 0), some (mr i r), some (mi x2), none] [mi s0] g = if s0 = (-1) then mEv X call 0 t_X0_turnBack (mDrop t_X0_turnBack 26) [some (mr i 0), some (mr i r), some (mi x2), some (mi s0)] [] g else mEv X call 0 t_X0_turnBack (mDrop t_X0_turnBack 20) [some (mr i 0), some (mr i r), some (mi x2), some (mi s0)] [] g := by
  rcases h_r with rfl | rfl <;> exact (mEv_4 _ _ _ _).trans rfl
theorem e_X0_turnBack_26 {X : mX} {call : Nat → List mV → mG → mR} {g : mG} {x2 x3 : Int32} {i r : Nat} (h_r : r = 8 ∨ r = 9) : mEv X call 0 t_X0_turnBack (mDrop t_X0_turnBack 26) [some (mr i 0), some (mr i r), some (mi x2), some (mi x3)] [] g = some (none, g) := by
  rcases h_r with rfl | rfl <;> exact (mEv_1 _ _ _ _).trans rfl
theorem e_X0_turnBack_20 {X : mX} {call : Nat → List mV → mG → mR} {g : mG} {x2 x3 : Int32} {i r : Nat} (h_r : r = 8 ∨ r = 9) : mEv X call 0 t_X0_turnBack (mDrop t_X0_turnBack 20) [some (mr i 0), some (mr i r), some (mi x2), some (mi x3)] [] g = mAns (mEv X call 0 t_X0_turnBack) (mDrop t_X0_turnBack 26) [some (mr i 0), some (mr i r), some (mi x2), some (mi x3)] [] (call 28 [mr i 0, mr i r, mi x3] g) := by
  rcases h_r with rfl | rfl <;> exact (mEv_4 _ _ _ _).trans rfl
noncomputable def P_X0_turnBack (r : Nat) (c : mC) (x2 : Int32) : (mC) := (mBd (α := Int32) (P_X5_bit (c r 1)) (fun v1 => (mBd (α := Int32) (P_X5_firstIn (x2 &&& (v1 ^^^ (-1)))) (fun v2 => (if v2 = (-1) then c else (mBd (α := mC) (P_X0_goTo r c v2) (fun c3 => c3)))))))
theorem rr_X0_turnBack (d : Nat) {X : mX} {g : mG} {i r : Nat} (h_r : r = 8 ∨ r = 9) {x2 : Int32} {c : mC} : mCall mD X (d + 4) 36 [mr i 0, mr i r, mi x2] (mU g i c) = (wV g i) (P_X0_turnBack r c x2) := by
  refine Eq.trans (mCall_eq (d := d + 3) rfl) ?_
  show mEv X (mCall mD X (d + 3)) 0 t_X0_turnBack (mDrop t_X0_turnBack 0) [some (mr i 0), some (mr i r), some (mi x2), none] [] (mU g i c) = _
  refine Eq.trans (e_X0_turnBack_0 h_r) ?_
  try simp only [mU_same, mU_mU]
  refine mw_cI (rr_X5_bit (d + 2)) (fun v1 => ?_)
  refine Eq.trans (e_X0_turnBack_8 h_r) ?_
  try simp only [mU_same, mU_mU]
  refine mw_cI (rr_X5_firstIn (d + 2)) (fun v2 => ?_)
  refine Eq.trans (e_X0_turnBack_14 h_r) ?_
  try simp only [mU_same, mU_mU]
  refine mw_ite (fun h4 => ?_) (fun h4 => ?_)
  · refine Eq.trans (e_X0_turnBack_26 h_r) ?_
    try simp only [mU_same, mU_mU]
    all_goals rfl
  · refine Eq.trans (e_X0_turnBack_20 h_r) ?_
    try simp only [mU_same, mU_mU]
    refine mw_cV (rr_X0_goTo d h_r) (fun c3 => ?_)
    refine Eq.trans (e_X0_turnBack_26 h_r) ?_
    try simp only [mU_same, mU_mU]
    all_goals rfl
theorem rr_X0_turnBack_at (d : Nat) {X : mX} {g : mG} {i r : Nat} (h_r : r = 8 ∨ r = 9) {x2 : Int32} : mCall mD X (d + 4) 36 [mr i 0, mr i r, mi x2] g = some (none, mU g i (P_X0_turnBack r (g i) x2)) := by
  have h := rr_X0_turnBack (X := X) d (g := g) (c := g i) h_r (x2 := x2) (i := i)
  rw [mU_self] at h
  exact h
theorem e_X0_moveTogether_0 {X : mX} {call : Nat → List mV → mG → mR} {g : mG} {x1 : Int32} {i : Nat} : mEv X call 0 t_X0_moveTogether (mDrop t_X0_moveTogether 0) [some (mr i 0), some (mi x1), none, none] [] g = mAns (mEv X call 0 t_X0_moveTogether) (mDrop t_X0_moveTogether 14) [some (mr i 0), some (mi x1), none, none] [mr i 3] (call 90 [mr i 8] g) := (mEv_6 _ _ _ _).trans rfl
theorem e_X0_moveTogether_14 {X : mX} {call : Nat → List mV → mG → mR} {g : mG} {x1 s1 : Int32} {i : Nat} : mEv X call 0 t_X0_moveTogether (mDrop t_X0_moveTogether 14) [some (mr i 0), some (mi x1), none, none] [mi s1, mr i 3] g = if s1 = 0 then mEv X call 0 t_X0_moveTogether (mDrop t_X0_moveTogether 27) [some (mr i 0), some (mi x1), none, none] [mr i 3] g else mEv X call 0 t_X0_moveTogether (mDrop t_X0_moveTogether 17) [some (mr i 0), some (mi x1), none, none] [mr i 3] g := (mEv_1 _ _ _ _).trans rfl
theorem e_X0_moveTogether_27 {X : mX} {call : Nat → List mV → mG → mR} {g : mG} {x1 : Int32} {i : Nat} : mEv X call 0 t_X0_moveTogether (mDrop t_X0_moveTogether 27) [some (mr i 0), some (mi x1), none, none] [mr i 3] g = mEv X call 0 t_X0_moveTogether (mDrop t_X0_moveTogether 34) [some (mr i 0), some (mi x1), none, none] [mi (g i 9 1), mr i 3] g := (mEv_3 _ _ _ _).trans rfl
theorem e_X0_moveTogether_34 {X : mX} {call : Nat → List mV → mG → mR} {g : mG} {x1 s1 : Int32} {i : Nat} : mEv X call 0 t_X0_moveTogether (mDrop t_X0_moveTogether 34) [some (mr i 0), some (mi x1), none, none] [mi s1, mr i 3] g = mAns (mEv X call 0 t_X0_moveTogether) (mDrop t_X0_moveTogether 37) [some (mr i 0), some (mi x1), none, none] [] (call 142 [mr i 3, mi s1] g) := (mEv_1 _ _ _ _).trans rfl
theorem e_X0_moveTogether_37 {X : mX} {call : Nat → List mV → mG → mR} {g : mG} {x1 s0 : Int32} {i : Nat} : mEv X call 0 t_X0_moveTogether (mDrop t_X0_moveTogether 37) [some (mr i 0), some (mi x1), none, none] [mi s0] g = mAns (mEv X call 0 t_X0_moveTogether) (mDrop t_X0_moveTogether 50) [some (mr i 0), some (mi x1), some (mi s0), some (mi (1 - s0))] [] (call 62 [mr i 1, mi (1 - s0)] g) := (mEv_9 _ _ _ _).trans rfl
theorem e_X0_moveTogether_50 {X : mX} {call : Nat → List mV → mG → mR} {g : mG} {x1 x2 x3 s0 : Int32} {i : Nat} : mEv X call 0 t_X0_moveTogether (mDrop t_X0_moveTogether 50) [some (mr i 0), some (mi x1), some (mi x2), some (mi x3)] [mi s0] g = if (s0 &&& x1) = 0 then mEv X call 0 t_X0_moveTogether (mDrop t_X0_moveTogether 94) [some (mr i 0), some (mi x1), some (mi x2), some (mi x3)] [] g else mEv X call 0 t_X0_moveTogether (mDrop t_X0_moveTogether 55) [some (mr i 0), some (mi x1), some (mi x2), some (mi x3)] [] g := (mEv_3 _ _ _ _).trans rfl
theorem e_X0_moveTogether_94 {X : mX} {call : Nat → List mV → mG → mR} {g : mG} {x1 x2 x3 : Int32} {i : Nat} : mEv X call 0 t_X0_moveTogether (mDrop t_X0_moveTogether 94) [some (mr i 0), some (mi x1), some (mi x2), some (mi x3)] [] g = mAns (mEv X call 0 t_X0_moveTogether) (mDrop t_X0_moveTogether 108) [some (mr i 0), some (mi x1), some (mi x2), some (mi x3)] [mr i 8, mr i 0] (call 61 [mr i 1, mi 0, mi x2] g) := (mEv_8 _ _ _ _).trans rfl
theorem e_X0_moveTogether_108 {X : mX} {call : Nat → List mV → mG → mR} {g : mG} {x1 x2 x3 s2 : Int32} {i : Nat} : mEv X call 0 t_X0_moveTogether (mDrop t_X0_moveTogether 108) [some (mr i 0), some (mi x1), some (mi x2), some (mi x3)] [mi s2, mr i 8, mr i 0] g = mAns (mEv X call 0 t_X0_moveTogether) (mDrop t_X0_moveTogether 113) [some (mr i 0), some (mi x1), some (mi x2), some (mi x3)] [] (call 36 [mr i 0, mr i 8, mi (s2 &&& x1)] g) := (mEv_3 _ _ _ _).trans rfl
theorem e_X0_moveTogether_113 {X : mX} {call : Nat → List mV → mG → mR} {g : mG} {x1 x2 x3 : Int32} {i : Nat} : mEv X call 0 t_X0_moveTogether (mDrop t_X0_moveTogether 113) [some (mr i 0), some (mi x1), some (mi x2), some (mi x3)] [] g = mAns (mEv X call 0 t_X0_moveTogether) (mDrop t_X0_moveTogether 127) [some (mr i 0), some (mi x1), some (mi x2), some (mi x3)] [mr i 9, mr i 0] (call 61 [mr i 1, mi 1, mi x2] g) := (mEv_8 _ _ _ _).trans rfl
theorem e_X0_moveTogether_127 {X : mX} {call : Nat → List mV → mG → mR} {g : mG} {x1 x2 x3 s2 : Int32} {i : Nat} : mEv X call 0 t_X0_moveTogether (mDrop t_X0_moveTogether 127) [some (mr i 0), some (mi x1), some (mi x2), some (mi x3)] [mi s2, mr i 9, mr i 0] g = mAns (mEv X call 0 t_X0_moveTogether) (mDrop t_X0_moveTogether 132) [some (mr i 0), some (mi x1), some (mi x2), some (mi x3)] [] (call 36 [mr i 0, mr i 9, mi (s2 &&& x1)] g) := (mEv_3 _ _ _ _).trans rfl
theorem e_X0_moveTogether_132 {X : mX} {call : Nat → List mV → mG → mR} {g : mG} {x1 x2 x3 : Int32} {i : Nat} : mEv X call 0 t_X0_moveTogether (mDrop t_X0_moveTogether 132) [some (mr i 0), some (mi x1), some (mi x2), some (mi x3)] [] g = some (none, g) := (mEv_1 _ _ _ _).trans rfl
theorem e_X0_moveTogether_55 {X : mX} {call : Nat → List mV → mG → mR} {g : mG} {x1 x2 x3 : Int32} {i : Nat} : mEv X call 0 t_X0_moveTogether (mDrop t_X0_moveTogether 55) [some (mr i 0), some (mi x1), some (mi x2), some (mi x3)] [] g = mAns (mEv X call 0 t_X0_moveTogether) (mDrop t_X0_moveTogether 69) [some (mr i 0), some (mi x1), some (mi x2), some (mi x3)] [mr i 8, mr i 0] (call 61 [mr i 1, mi 0, mi x3] g) := (mEv_8 _ _ _ _).trans rfl
theorem e_X0_moveTogether_69 {X : mX} {call : Nat → List mV → mG → mR} {g : mG} {x1 x2 x3 s2 : Int32} {i : Nat} : mEv X call 0 t_X0_moveTogether (mDrop t_X0_moveTogether 69) [some (mr i 0), some (mi x1), some (mi x2), some (mi x3)] [mi s2, mr i 8, mr i 0] g = mAns (mEv X call 0 t_X0_moveTogether) (mDrop t_X0_moveTogether 73) [some (mr i 0), some (mi x1), some (mi x2), some (mi x3)] [] (call 35 [mr i 0, mr i 8, mi s2, mi x1] g) := (mEv_2 _ _ _ _).trans rfl
theorem e_X0_moveTogether_73 {X : mX} {call : Nat → List mV → mG → mR} {g : mG} {x1 x2 x3 : Int32} {i : Nat} : mEv X call 0 t_X0_moveTogether (mDrop t_X0_moveTogether 73) [some (mr i 0), some (mi x1), some (mi x2), some (mi x3)] [] g = mAns (mEv X call 0 t_X0_moveTogether) (mDrop t_X0_moveTogether 87) [some (mr i 0), some (mi x1), some (mi x2), some (mi x3)] [mr i 9, mr i 0] (call 61 [mr i 1, mi 1, mi x3] g) := (mEv_8 _ _ _ _).trans rfl
theorem e_X0_moveTogether_87 {X : mX} {call : Nat → List mV → mG → mR} {g : mG} {x1 x2 x3 s2 : Int32} {i : Nat} : mEv X call 0 t_X0_moveTogether (mDrop t_X0_moveTogether 87) [some (mr i 0), some (mi x1), some (mi x2), some (mi x3)] [mi s2, mr i 9, mr i 0] g = mAns (mEv X call 0 t_X0_moveTogether) (mDrop t_X0_moveTogether 91) [some (mr i 0), some (mi x1), some (mi x2), some (mi x3)] [] (call 35 [mr i 0, mr i 9, mi s2, mi x1] g) := (mEv_2 _ _ _ _).trans rfl
theorem e_X0_moveTogether_91 {X : mX} {call : Nat → List mV → mG → mR} {g : mG} {x1 x2 x3 : Int32} {i : Nat} : mEv X call 0 t_X0_moveTogether (mDrop t_X0_moveTogether 91) [some (mr i 0), some (mi x1), some (mi x2), some (mi x3)] [] g = mEv X call 0 t_X0_moveTogether (mDrop t_X0_moveTogether 132) [some (mr i 0), some (mi x1), some (mi x2), some (mi x3)] [] g := (mEv_1 _ _ _ _).trans rfl
noncomputable def J_X0_moveTogether_34 (c : mC) (x1 : Int32) (s1 : Int32) : (mC) := (mBd (α := Int32) (cl 8 (c 3) s1) (fun v1 => (mBd (α := Int32) (P_X2_sideSet c (1 - v1)) (fun v2 => (if (v2 &&& x1) = 0 then (mBd (α := Int32) (P_X2_partOf c 0 v1) (fun v3 => (mBd (α := mC) (P_X0_turnBack 8 c (v3 &&& x1)) (fun c4 => (mBd (α := Int32) (P_X2_partOf c4 1 v1) (fun v5 => (mBd (α := mC) (P_X0_turnBack 9 c4 (v5 &&& x1)) (fun c6 => c6)))))))) else (mBd (α := Int32) (P_X2_partOf c 0 (1 - v1)) (fun v7 => (mBd (α := mC) (P_X0_crossOver 8 c v7 x1) (fun c8 => (mBd (α := Int32) (P_X2_partOf c8 1 (1 - v1)) (fun v9 => (mBd (α := mC) (P_X0_crossOver 9 c8 v9 x1) (fun c10 => c10)))))))))))))
theorem rj_X0_moveTogether_34 (d : Nat) {X : mX} {g : mG} {i : Nat} {x1 s1 : Int32} {c : mC} : mEv X (mCall mD X (d + 4)) 0 t_X0_moveTogether (mDrop t_X0_moveTogether 34) [some (mr i 0), some (mi x1), none, none] [mi s1, mr i 3] (mU g i c) = (wV g i) (J_X0_moveTogether_34 c x1 s1) := by
  refine Eq.trans (e_X0_moveTogether_34) ?_
  try simp only [mU_same, mU_mU]
  refine mw_cI (rr_X5_cell_3 (d + 3)) (fun v1 => ?_)
  refine Eq.trans (e_X0_moveTogether_37) ?_
  try simp only [mU_same, mU_mU]
  refine mw_cI (rr_X2_sideSet (d + 2)) (fun v2 => ?_)
  refine Eq.trans (e_X0_moveTogether_50) ?_
  try simp only [mU_same, mU_mU]
  refine mw_ite (fun h11 => ?_) (fun h11 => ?_)
  · refine Eq.trans (e_X0_moveTogether_94) ?_
    try simp only [mU_same, mU_mU]
    refine mw_cI (rr_X2_partOf (d + 3)) (fun v3 => ?_)
    refine Eq.trans (e_X0_moveTogether_108) ?_
    try simp only [mU_same, mU_mU]
    refine mw_cV (rr_X0_turnBack d (Or.inl rfl)) (fun c4 => ?_)
    refine Eq.trans (e_X0_moveTogether_113) ?_
    try simp only [mU_same, mU_mU]
    refine mw_cI (rr_X2_partOf (d + 3)) (fun v5 => ?_)
    refine Eq.trans (e_X0_moveTogether_127) ?_
    try simp only [mU_same, mU_mU]
    refine mw_cV (rr_X0_turnBack d (Or.inr rfl)) (fun c6 => ?_)
    refine Eq.trans (e_X0_moveTogether_132) ?_
    try simp only [mU_same, mU_mU]
    all_goals rfl
  · refine Eq.trans (e_X0_moveTogether_55) ?_
    try simp only [mU_same, mU_mU]
    refine mw_cI (rr_X2_partOf (d + 3)) (fun v7 => ?_)
    refine Eq.trans (e_X0_moveTogether_69) ?_
    try simp only [mU_same, mU_mU]
    refine mw_cV (rr_X0_crossOver d (Or.inl rfl)) (fun c8 => ?_)
    refine Eq.trans (e_X0_moveTogether_73) ?_
    try simp only [mU_same, mU_mU]
    refine mw_cI (rr_X2_partOf (d + 3)) (fun v9 => ?_)
    refine Eq.trans (e_X0_moveTogether_87) ?_
    try simp only [mU_same, mU_mU]
    refine mw_cV (rr_X0_crossOver d (Or.inr rfl)) (fun c10 => ?_)
    refine Eq.trans (e_X0_moveTogether_91) ?_
    try simp only [mU_same, mU_mU]
    refine Eq.trans (e_X0_moveTogether_132) ?_
    try simp only [mU_same, mU_mU]
    all_goals rfl
theorem e_X0_moveTogether_17 {X : mX} {call : Nat → List mV → mG → mR} {g : mG} {x1 : Int32} {i : Nat} : mEv X call 0 t_X0_moveTogether (mDrop t_X0_moveTogether 17) [some (mr i 0), some (mi x1), none, none] [mr i 3] g = mEv X call 0 t_X0_moveTogether (mDrop t_X0_moveTogether 34) [some (mr i 0), some (mi x1), none, none] [mi (g i 8 1), mr i 3] g := (mEv_4 _ _ _ _).trans rfl
noncomputable def P_X0_moveTogether (c : mC) (x1 : Int32) : (mC) := (mBd (α := Int32) (P_X4_holds 8 c) (fun v1 => (if v1 = 0 then (J_X0_moveTogether_34 c x1 (c 9 1)) else (J_X0_moveTogether_34 c x1 (c 8 1)))))
theorem rr_X0_moveTogether (d : Nat) {X : mX} {g : mG} {i : Nat} {x1 : Int32} {c : mC} : mCall mD X (d + 5) 34 [mr i 0, mi x1] (mU g i c) = (wV g i) (P_X0_moveTogether c x1) := by
  refine Eq.trans (mCall_eq (d := d + 4) rfl) ?_
  show mEv X (mCall mD X (d + 4)) 0 t_X0_moveTogether (mDrop t_X0_moveTogether 0) [some (mr i 0), some (mi x1), none, none] [] (mU g i c) = _
  refine Eq.trans (e_X0_moveTogether_0) ?_
  try simp only [mU_same, mU_mU]
  refine mw_cZ (rr_X4_holds (d + 3) (Or.inl rfl)) rfl (fun v1 hv1 => ?_)
  refine Eq.trans (e_X0_moveTogether_14) ?_
  try simp only [mU_same, mU_mU]
  refine mw_ite (fun h2 => ?_) (fun h2 => ?_)
  · refine Eq.trans (e_X0_moveTogether_27) ?_
    try simp only [mU_same, mU_mU]
    exact rj_X0_moveTogether_34 d
  · refine Eq.trans (e_X0_moveTogether_17) ?_
    try simp only [mU_same, mU_mU]
    exact rj_X0_moveTogether_34 d
theorem rr_X0_moveTogether_at (d : Nat) {X : mX} {g : mG} {i : Nat} {x1 : Int32} : mCall mD X (d + 5) 34 [mr i 0, mi x1] g = some (none, mU g i (P_X0_moveTogether (g i) x1)) := by
  have h := rr_X0_moveTogether (X := X) d (g := g) (c := g i) (x1 := x1) (i := i)
  rw [mU_self] at h
  exact h
theorem e_X0_moveOn_0 {X : mX} {call : Nat → List mV → mG → mR} {g : mG} {i : Nat} : mEv X call 0 t_X0_moveOn (mDrop t_X0_moveOn 0) [some (mr i 0), none, none, none, none, none] [] g = mAns (mEv X call 0 t_X0_moveOn) (mDrop t_X0_moveOn 4) [some (mr i 0), none, none, none, none, none] [] (call 12 [mr i 0] g) := (mEv_2 _ _ _ _).trans rfl
theorem e_X0_moveOn_4 {X : mX} {call : Nat → List mV → mG → mR} {g : mG} {s0 : Int32} {i : Nat} : mEv X call 0 t_X0_moveOn (mDrop t_X0_moveOn 4) [some (mr i 0), none, none, none, none, none] [mi s0] g = mAns (mEv X call 0 t_X0_moveOn) (mDrop t_X0_moveOn 13) [some (mr i 0), some (mi s0), none, none, none, none] [] (call 31 [mr i 0, mr i 8] g) := (mEv_5 _ _ _ _).trans rfl
theorem e_X0_moveOn_13 {X : mX} {call : Nat → List mV → mG → mR} {g : mG} {x1 s0 : Int32} {i : Nat} : mEv X call 0 t_X0_moveOn (mDrop t_X0_moveOn 13) [some (mr i 0), some (mi x1), none, none, none, none] [mi s0] g = mAns (mEv X call 0 t_X0_moveOn) (mDrop t_X0_moveOn 22) [some (mr i 0), some (mi x1), some (mi s0), none, none, none] [] (call 31 [mr i 0, mr i 9] g) := (mEv_5 _ _ _ _).trans rfl
theorem e_X0_moveOn_22 {X : mX} {call : Nat → List mV → mG → mR} {g : mG} {x1 x2 s0 : Int32} {i : Nat} : mEv X call 0 t_X0_moveOn (mDrop t_X0_moveOn 22) [some (mr i 0), some (mi x1), some (mi x2), none, none, none] [mi s0] g = if x2 = 0 then mEv X call 0 t_X0_moveOn (mDrop t_X0_moveOn 43) [some (mr i 0), some (mi x1), some (mi x2), some (mi s0), none, none] [] g else mEv X call 0 t_X0_moveOn (mDrop t_X0_moveOn 27) [some (mr i 0), some (mi x1), some (mi x2), some (mi s0), none, none] [] g := (mEv_3 _ _ _ _).trans rfl
theorem e_X0_moveOn_43 {X : mX} {call : Nat → List mV → mG → mR} {g : mG} {x1 x2 x3 : Int32} {i : Nat} : mEv X call 0 t_X0_moveOn (mDrop t_X0_moveOn 43) [some (mr i 0), some (mi x1), some (mi x2), some (mi x3), none, none] [] g = mEv X call 0 t_X0_moveOn (mDrop t_X0_moveOn 44) [some (mr i 0), some (mi x1), some (mi x2), some (mi x3), none, none] [mi 0] g := (mEv_1 _ _ _ _).trans rfl
theorem e_X0_moveOn_44 {X : mX} {call : Nat → List mV → mG → mR} {g : mG} {x1 x2 x3 s0 : Int32} {i : Nat} : mEv X call 0 t_X0_moveOn (mDrop t_X0_moveOn 44) [some (mr i 0), some (mi x1), some (mi x2), some (mi x3), none, none] [mi s0] g = if x3 = 0 then mEv X call 0 t_X0_moveOn (mDrop t_X0_moveOn 66) [some (mr i 0), some (mi x1), some (mi x2), some (mi x3), some (mi s0), none] [] g else mEv X call 0 t_X0_moveOn (mDrop t_X0_moveOn 50) [some (mr i 0), some (mi x1), some (mi x2), some (mi x3), some (mi s0), none] [] g := (mEv_3 _ _ _ _).trans rfl
theorem e_X0_moveOn_66 {X : mX} {call : Nat → List mV → mG → mR} {g : mG} {x1 x2 x3 x4 : Int32} {i : Nat} : mEv X call 0 t_X0_moveOn (mDrop t_X0_moveOn 66) [some (mr i 0), some (mi x1), some (mi x2), some (mi x3), some (mi x4), none] [] g = mEv X call 0 t_X0_moveOn (mDrop t_X0_moveOn 67) [some (mr i 0), some (mi x1), some (mi x2), some (mi x3), some (mi x4), none] [mi 0] g := (mEv_1 _ _ _ _).trans rfl
theorem e_X0_moveOn_67 {X : mX} {call : Nat → List mV → mG → mR} {g : mG} {x1 x2 x3 x4 s0 : Int32} {i : Nat} : mEv X call 0 t_X0_moveOn (mDrop t_X0_moveOn 67) [some (mr i 0), some (mi x1), some (mi x2), some (mi x3), some (mi x4), none] [mi s0] g = if x4 = 0 then mEv X call 0 t_X0_moveOn (mDrop t_X0_moveOn 74) [some (mr i 0), some (mi x1), some (mi x2), some (mi x3), some (mi x4), some (mi s0)] [] g else mEv X call 0 t_X0_moveOn (mDrop t_X0_moveOn 101) [some (mr i 0), some (mi x1), some (mi x2), some (mi x3), some (mi x4), some (mi s0)] [] g := (mEv_3 _ _ _ _).trans rfl
theorem e_X0_moveOn_74 {X : mX} {call : Nat → List mV → mG → mR} {g : mG} {x1 x2 x3 x4 x5 : Int32} {i : Nat} : mEv X call 0 t_X0_moveOn (mDrop t_X0_moveOn 74) [some (mr i 0), some (mi x1), some (mi x2), some (mi x3), some (mi x4), some (mi x5)] [] g = if x5 = 0 then mEv X call 0 t_X0_moveOn (mDrop t_X0_moveOn 79) [some (mr i 0), some (mi x1), some (mi x2), some (mi x3), some (mi x4), some (mi x5)] [] g else mEv X call 0 t_X0_moveOn (mDrop t_X0_moveOn 101) [some (mr i 0), some (mi x1), some (mi x2), some (mi x3), some (mi x4), some (mi x5)] [] g := (mEv_2 _ _ _ _).trans rfl
theorem e_X0_moveOn_79 {X : mX} {call : Nat → List mV → mG → mR} {g : mG} {x1 x2 x3 x4 x5 : Int32} {i : Nat} : mEv X call 0 t_X0_moveOn (mDrop t_X0_moveOn 79) [some (mr i 0), some (mi x1), some (mi x2), some (mi x3), some (mi x4), some (mi x5)] [] g = mAns (mEv X call 0 t_X0_moveOn) (mDrop t_X0_moveOn 86) [some (mr i 0), some (mi x1), some (mi x2), some (mi x3), some (mi x4), some (mi x5)] [] (call 90 [mr i 8] g) := (mEv_3 _ _ _ _).trans rfl
theorem e_X0_moveOn_86 {X : mX} {call : Nat → List mV → mG → mR} {g : mG} {x1 x2 x3 x4 x5 s0 : Int32} {i : Nat} : mEv X call 0 t_X0_moveOn (mDrop t_X0_moveOn 86) [some (mr i 0), some (mi x1), some (mi x2), some (mi x3), some (mi x4), some (mi x5)] [mi s0] g = if s0 = x2 then mEv X call 0 t_X0_moveOn (mDrop t_X0_moveOn 90) [some (mr i 0), some (mi x1), some (mi x2), some (mi x3), some (mi x4), some (mi x5)] [] g else mEv X call 0 t_X0_moveOn (mDrop t_X0_moveOn 101) [some (mr i 0), some (mi x1), some (mi x2), some (mi x3), some (mi x4), some (mi x5)] [] g := (mEv_2 _ _ _ _).trans rfl
theorem e_X0_moveOn_90 {X : mX} {call : Nat → List mV → mG → mR} {g : mG} {x1 x2 x3 x4 x5 : Int32} {i : Nat} : mEv X call 0 t_X0_moveOn (mDrop t_X0_moveOn 90) [some (mr i 0), some (mi x1), some (mi x2), some (mi x3), some (mi x4), some (mi x5)] [] g = mAns (mEv X call 0 t_X0_moveOn) (mDrop t_X0_moveOn 97) [some (mr i 0), some (mi x1), some (mi x2), some (mi x3), some (mi x4), some (mi x5)] [] (call 90 [mr i 9] g) := (mEv_3 _ _ _ _).trans rfl
theorem e_X0_moveOn_97 {X : mX} {call : Nat → List mV → mG → mR} {g : mG} {x1 x2 x3 x4 x5 s0 : Int32} {i : Nat} : mEv X call 0 t_X0_moveOn (mDrop t_X0_moveOn 97) [some (mr i 0), some (mi x1), some (mi x2), some (mi x3), some (mi x4), some (mi x5)] [mi s0] g = if s0 = x3 then mEv X call 0 t_X0_moveOn (mDrop t_X0_moveOn 102) [some (mr i 0), some (mi x1), some (mi x2), some (mi x3), some (mi x4), some (mi x5)] [] g else mEv X call 0 t_X0_moveOn (mDrop t_X0_moveOn 101) [some (mr i 0), some (mi x1), some (mi x2), some (mi x3), some (mi x4), some (mi x5)] [] g := (mEv_2 _ _ _ _).trans rfl
theorem e_X0_moveOn_102 {X : mX} {call : Nat → List mV → mG → mR} {g : mG} {x1 x2 x3 x4 x5 : Int32} {i : Nat} : mEv X call 0 t_X0_moveOn (mDrop t_X0_moveOn 102) [some (mr i 0), some (mi x1), some (mi x2), some (mi x3), some (mi x4), some (mi x5)] [] g = mAns (mEv X call 0 t_X0_moveOn) (mDrop t_X0_moveOn 109) [some (mr i 0), some (mi x1), some (mi x2), some (mi x3), some (mi x4), some (mi x5)] [] (call 90 [mr i 8] g) := (mEv_3 _ _ _ _).trans rfl
theorem e_X0_moveOn_109 {X : mX} {call : Nat → List mV → mG → mR} {g : mG} {x1 x2 x3 x4 x5 s0 : Int32} {i : Nat} : mEv X call 0 t_X0_moveOn (mDrop t_X0_moveOn 109) [some (mr i 0), some (mi x1), some (mi x2), some (mi x3), some (mi x4), some (mi x5)] [mi s0] g = if s0 = 0 then mEv X call 0 t_X0_moveOn (mDrop t_X0_moveOn 112) [some (mr i 0), some (mi x1), some (mi x2), some (mi x3), some (mi x4), some (mi x5)] [] g else mEv X call 0 t_X0_moveOn (mDrop t_X0_moveOn 122) [some (mr i 0), some (mi x1), some (mi x2), some (mi x3), some (mi x4), some (mi x5)] [] g := (mEv_1 _ _ _ _).trans rfl
theorem e_X0_moveOn_112 {X : mX} {call : Nat → List mV → mG → mR} {g : mG} {x1 x2 x3 x4 x5 : Int32} {i : Nat} : mEv X call 0 t_X0_moveOn (mDrop t_X0_moveOn 112) [some (mr i 0), some (mi x1), some (mi x2), some (mi x3), some (mi x4), some (mi x5)] [] g = mAns (mEv X call 0 t_X0_moveOn) (mDrop t_X0_moveOn 119) [some (mr i 0), some (mi x1), some (mi x2), some (mi x3), some (mi x4), some (mi x5)] [] (call 90 [mr i 9] g) := (mEv_3 _ _ _ _).trans rfl
theorem e_X0_moveOn_119 {X : mX} {call : Nat → List mV → mG → mR} {g : mG} {x1 x2 x3 x4 x5 s0 : Int32} {i : Nat} : mEv X call 0 t_X0_moveOn (mDrop t_X0_moveOn 119) [some (mr i 0), some (mi x1), some (mi x2), some (mi x3), some (mi x4), some (mi x5)] [mi s0] g = if s0 = 0 then mEv X call 0 t_X0_moveOn (mDrop t_X0_moveOn 127) [some (mr i 0), some (mi x1), some (mi x2), some (mi x3), some (mi x4), some (mi x5)] [] g else mEv X call 0 t_X0_moveOn (mDrop t_X0_moveOn 122) [some (mr i 0), some (mi x1), some (mi x2), some (mi x3), some (mi x4), some (mi x5)] [] g := (mEv_1 _ _ _ _).trans rfl
theorem e_X0_moveOn_127 {X : mX} {call : Nat → List mV → mG → mR} {g : mG} {x1 x2 x3 x4 x5 : Int32} {i : Nat} : mEv X call 0 t_X0_moveOn (mDrop t_X0_moveOn 127) [some (mr i 0), some (mi x1), some (mi x2), some (mi x3), some (mi x4), some (mi x5)] [] g = some (none, g) := (mEv_1 _ _ _ _).trans rfl
theorem e_X0_moveOn_122 {X : mX} {call : Nat → List mV → mG → mR} {g : mG} {x1 x2 x3 x4 x5 : Int32} {i : Nat} : mEv X call 0 t_X0_moveOn (mDrop t_X0_moveOn 122) [some (mr i 0), some (mi x1), some (mi x2), some (mi x3), some (mi x4), some (mi x5)] [] g = mAns (mEv X call 0 t_X0_moveOn) (mDrop t_X0_moveOn 127) [some (mr i 0), some (mi x1), some (mi x2), some (mi x3), some (mi x4), some (mi x5)] [] (call 34 [mr i 0, mi x1] g) := (mEv_3 _ _ _ _).trans rfl
noncomputable def J_X0_moveOn_122 (c : mC) (x1 : Int32) : (mC) := (mBd (α := mC) (P_X0_moveTogether c x1) (fun c1 => c1))
theorem rj_X0_moveOn_122 (d : Nat) {X : mX} {g : mG} {i : Nat} {x1 x2 x3 x4 x5 : Int32} {c : mC} : mEv X (mCall mD X (d + 5)) 0 t_X0_moveOn (mDrop t_X0_moveOn 122) [some (mr i 0), some (mi x1), some (mi x2), some (mi x3), some (mi x4), some (mi x5)] [] (mU g i c) = (wV g i) (J_X0_moveOn_122 c x1) := by
  refine Eq.trans (e_X0_moveOn_122) ?_
  try simp only [mU_same, mU_mU]
  refine mw_cV (rr_X0_moveTogether d) (fun c1 => ?_)
  refine Eq.trans (e_X0_moveOn_127) ?_
  try simp only [mU_same, mU_mU]
  all_goals rfl
theorem e_X0_moveOn_101 {X : mX} {call : Nat → List mV → mG → mR} {g : mG} {x1 x2 x3 x4 x5 : Int32} {i : Nat} : mEv X call 0 t_X0_moveOn (mDrop t_X0_moveOn 101) [some (mr i 0), some (mi x1), some (mi x2), some (mi x3), some (mi x4), some (mi x5)] [] g = some (none, g) := (mEv_1 _ _ _ _).trans rfl
noncomputable def J_X0_moveOn_67 (c : mC) (x1 : Int32) (x2 : Int32) (x3 : Int32) (x4 : Int32) (s0 : Int32) : (mC) := (if x4 = 0 then (if s0 = 0 then (mBd (α := Int32) (P_X4_holds 8 c) (fun v1 => (if v1 = x2 then (mBd (α := Int32) (P_X4_holds 9 c) (fun v2 => (if v2 = x3 then (mBd (α := Int32) (P_X4_holds 8 c) (fun v3 => (if v3 = 0 then (mBd (α := Int32) (P_X4_holds 9 c) (fun v4 => (if v4 = 0 then c else (J_X0_moveOn_122 c x1)))) else (J_X0_moveOn_122 c x1)))) else c))) else c))) else c) else c)
theorem rj_X0_moveOn_67 (d : Nat) {X : mX} {g : mG} {i : Nat} {x1 x2 x3 x4 s0 : Int32} {c : mC} : mEv X (mCall mD X (d + 5)) 0 t_X0_moveOn (mDrop t_X0_moveOn 67) [some (mr i 0), some (mi x1), some (mi x2), some (mi x3), some (mi x4), none] [mi s0] (mU g i c) = (wV g i) (J_X0_moveOn_67 c x1 x2 x3 x4 s0) := by
  refine Eq.trans (e_X0_moveOn_67) ?_
  try simp only [mU_same, mU_mU]
  refine mw_ite (fun h10 => ?_) (fun h10 => ?_)
  · refine Eq.trans (e_X0_moveOn_74) ?_
    try simp only [mU_same, mU_mU]
    refine mw_ite (fun h9 => ?_) (fun h9 => ?_)
    · refine Eq.trans (e_X0_moveOn_79) ?_
      try simp only [mU_same, mU_mU]
      refine mw_cZ (rr_X4_holds (d + 4) (Or.inl rfl)) rfl (fun v1 hv1 => ?_)
      refine Eq.trans (e_X0_moveOn_86) ?_
      try simp only [mU_same, mU_mU]
      refine mw_ite (fun h8 => ?_) (fun h8 => ?_)
      · refine Eq.trans (e_X0_moveOn_90) ?_
        try simp only [mU_same, mU_mU]
        refine mw_cZ (rr_X4_holds (d + 4) (Or.inr rfl)) rfl (fun v2 hv2 => ?_)
        refine Eq.trans (e_X0_moveOn_97) ?_
        try simp only [mU_same, mU_mU]
        refine mw_ite (fun h7 => ?_) (fun h7 => ?_)
        · refine Eq.trans (e_X0_moveOn_102) ?_
          try simp only [mU_same, mU_mU]
          refine mw_cZ (rr_X4_holds (d + 4) (Or.inl rfl)) rfl (fun v3 hv3 => ?_)
          refine Eq.trans (e_X0_moveOn_109) ?_
          try simp only [mU_same, mU_mU]
          refine mw_ite (fun h6 => ?_) (fun h6 => ?_)
          · refine Eq.trans (e_X0_moveOn_112) ?_
            try simp only [mU_same, mU_mU]
            refine mw_cZ (rr_X4_holds (d + 4) (Or.inr rfl)) rfl (fun v4 hv4 => ?_)
            refine Eq.trans (e_X0_moveOn_119) ?_
            try simp only [mU_same, mU_mU]
            refine mw_ite (fun h5 => ?_) (fun h5 => ?_)
            · refine Eq.trans (e_X0_moveOn_127) ?_
              try simp only [mU_same, mU_mU]
              all_goals rfl
            · exact rj_X0_moveOn_122 d
          · exact rj_X0_moveOn_122 d
        · refine Eq.trans (e_X0_moveOn_101) ?_
          try simp only [mU_same, mU_mU]
          all_goals rfl
      · refine Eq.trans (e_X0_moveOn_101) ?_
        try simp only [mU_same, mU_mU]
        all_goals rfl
    · refine Eq.trans (e_X0_moveOn_101) ?_
      try simp only [mU_same, mU_mU]
      all_goals rfl
  · refine Eq.trans (e_X0_moveOn_101) ?_
    try simp only [mU_same, mU_mU]
    all_goals rfl
noncomputable def J_X0_moveOn_66 (c : mC) (x1 : Int32) (x2 : Int32) (x3 : Int32) (x4 : Int32) : (mC) := (J_X0_moveOn_67 c x1 x2 x3 x4 0)
theorem rj_X0_moveOn_66 (d : Nat) {X : mX} {g : mG} {i : Nat} {x1 x2 x3 x4 : Int32} {c : mC} : mEv X (mCall mD X (d + 5)) 0 t_X0_moveOn (mDrop t_X0_moveOn 66) [some (mr i 0), some (mi x1), some (mi x2), some (mi x3), some (mi x4), none] [] (mU g i c) = (wV g i) (J_X0_moveOn_66 c x1 x2 x3 x4) := by
  refine Eq.trans (e_X0_moveOn_66) ?_
  try simp only [mU_same, mU_mU]
  exact rj_X0_moveOn_67 d
theorem e_X0_moveOn_50 {X : mX} {call : Nat → List mV → mG → mR} {g : mG} {x1 x2 x3 x4 : Int32} {i : Nat} : mEv X call 0 t_X0_moveOn (mDrop t_X0_moveOn 50) [some (mr i 0), some (mi x1), some (mi x2), some (mi x3), some (mi x4), none] [] g = mAns (mEv X call 0 t_X0_moveOn) (mDrop t_X0_moveOn 59) [some (mr i 0), some (mi x1), some (mi x2), some (mi x3), some (mi x4), none] [] (call 33 [mr i 0, mr i 9, mi x1] g) := (mEv_5 _ _ _ _).trans rfl
theorem e_X0_moveOn_59 {X : mX} {call : Nat → List mV → mG → mR} {g : mG} {x1 x2 x3 x4 s0 : Int32} {i : Nat} : mEv X call 0 t_X0_moveOn (mDrop t_X0_moveOn 59) [some (mr i 0), some (mi x1), some (mi x2), some (mi x3), some (mi x4), none] [mi s0] g = if s0 = 0 then mEv X call 0 t_X0_moveOn (mDrop t_X0_moveOn 66) [some (mr i 0), some (mi x1), some (mi x2), some (mi x3), some (mi x4), none] [] g else mEv X call 0 t_X0_moveOn (mDrop t_X0_moveOn 62) [some (mr i 0), some (mi x1), some (mi x2), some (mi x3), some (mi x4), none] [] g := (mEv_1 _ _ _ _).trans rfl
theorem e_X0_moveOn_62 {X : mX} {call : Nat → List mV → mG → mR} {g : mG} {x1 x2 x3 x4 : Int32} {i : Nat} : mEv X call 0 t_X0_moveOn (mDrop t_X0_moveOn 62) [some (mr i 0), some (mi x1), some (mi x2), some (mi x3), some (mi x4), none] [] g = mEv X call 0 t_X0_moveOn (mDrop t_X0_moveOn 67) [some (mr i 0), some (mi x1), some (mi x2), some (mi x3), some (mi x4), none] [mi 1] g := (mEv_2 _ _ _ _).trans rfl
noncomputable def J_X0_moveOn_44 (c : mC) (x1 : Int32) (x2 : Int32) (x3 : Int32) (s0 : Int32) : (mC) := (if x3 = 0 then (J_X0_moveOn_66 c x1 x2 x3 s0) else (mBd (α := Int32 × mC) (P_X0_leaveToNext 9 c x1) (fun p1 => (if p1.1 = 0 then (J_X0_moveOn_66 p1.2 x1 x2 x3 s0) else (J_X0_moveOn_67 p1.2 x1 x2 x3 s0 1)))))
theorem rj_X0_moveOn_44 (d : Nat) {X : mX} {g : mG} {i : Nat} {x1 x2 x3 s0 : Int32} {c : mC} : mEv X (mCall mD X (d + 5)) 0 t_X0_moveOn (mDrop t_X0_moveOn 44) [some (mr i 0), some (mi x1), some (mi x2), some (mi x3), none, none] [mi s0] (mU g i c) = (wV g i) (J_X0_moveOn_44 c x1 x2 x3 s0) := by
  refine Eq.trans (e_X0_moveOn_44) ?_
  try simp only [mU_same, mU_mU]
  refine mw_ite (fun h3 => ?_) (fun h3 => ?_)
  · exact rj_X0_moveOn_66 d
  · refine Eq.trans (e_X0_moveOn_50) ?_
    try simp only [mU_same, mU_mU]
    refine mw_cY (rr_X0_leaveToNext (d + 1) (Or.inr rfl)) rfl (fun p1 hp1 => ?_)
    refine Eq.trans (e_X0_moveOn_59) ?_
    try simp only [mU_same, mU_mU]
    refine mw_ite (fun h2 => ?_) (fun h2 => ?_)
    · exact rj_X0_moveOn_66 d
    · refine Eq.trans (e_X0_moveOn_62) ?_
      try simp only [mU_same, mU_mU]
      exact rj_X0_moveOn_67 d
noncomputable def J_X0_moveOn_43 (c : mC) (x1 : Int32) (x2 : Int32) (x3 : Int32) : (mC) := (J_X0_moveOn_44 c x1 x2 x3 0)
theorem rj_X0_moveOn_43 (d : Nat) {X : mX} {g : mG} {i : Nat} {x1 x2 x3 : Int32} {c : mC} : mEv X (mCall mD X (d + 5)) 0 t_X0_moveOn (mDrop t_X0_moveOn 43) [some (mr i 0), some (mi x1), some (mi x2), some (mi x3), none, none] [] (mU g i c) = (wV g i) (J_X0_moveOn_43 c x1 x2 x3) := by
  refine Eq.trans (e_X0_moveOn_43) ?_
  try simp only [mU_same, mU_mU]
  exact rj_X0_moveOn_44 d
theorem e_X0_moveOn_27 {X : mX} {call : Nat → List mV → mG → mR} {g : mG} {x1 x2 x3 : Int32} {i : Nat} : mEv X call 0 t_X0_moveOn (mDrop t_X0_moveOn 27) [some (mr i 0), some (mi x1), some (mi x2), some (mi x3), none, none] [] g = mAns (mEv X call 0 t_X0_moveOn) (mDrop t_X0_moveOn 36) [some (mr i 0), some (mi x1), some (mi x2), some (mi x3), none, none] [] (call 33 [mr i 0, mr i 8, mi x1] g) := (mEv_5 _ _ _ _).trans rfl
theorem e_X0_moveOn_36 {X : mX} {call : Nat → List mV → mG → mR} {g : mG} {x1 x2 x3 s0 : Int32} {i : Nat} : mEv X call 0 t_X0_moveOn (mDrop t_X0_moveOn 36) [some (mr i 0), some (mi x1), some (mi x2), some (mi x3), none, none] [mi s0] g = if s0 = 0 then mEv X call 0 t_X0_moveOn (mDrop t_X0_moveOn 43) [some (mr i 0), some (mi x1), some (mi x2), some (mi x3), none, none] [] g else mEv X call 0 t_X0_moveOn (mDrop t_X0_moveOn 39) [some (mr i 0), some (mi x1), some (mi x2), some (mi x3), none, none] [] g := (mEv_1 _ _ _ _).trans rfl
theorem e_X0_moveOn_39 {X : mX} {call : Nat → List mV → mG → mR} {g : mG} {x1 x2 x3 : Int32} {i : Nat} : mEv X call 0 t_X0_moveOn (mDrop t_X0_moveOn 39) [some (mr i 0), some (mi x1), some (mi x2), some (mi x3), none, none] [] g = mEv X call 0 t_X0_moveOn (mDrop t_X0_moveOn 44) [some (mr i 0), some (mi x1), some (mi x2), some (mi x3), none, none] [mi 1] g := (mEv_2 _ _ _ _).trans rfl
noncomputable def P_X0_moveOn (c : mC) : (mC) := (mBd (α := Int32) (P_X0_askedSet c) (fun v1 => (mBd (α := Int32) (P_X0_isDone 8 c) (fun v2 => (mBd (α := Int32) (P_X0_isDone 9 c) (fun v3 => (if v2 = 0 then (J_X0_moveOn_43 c v1 v2 v3) else (mBd (α := Int32 × mC) (P_X0_leaveToNext 8 c v1) (fun p4 => (if p4.1 = 0 then (J_X0_moveOn_43 p4.2 v1 v2 v3) else (J_X0_moveOn_44 p4.2 v1 v2 v3 1)))))))))))
theorem rr_X0_moveOn (d : Nat) {X : mX} {g : mG} {i : Nat} {c : mC} : mCall mD X (d + 6) 32 [mr i 0] (mU g i c) = (wV g i) (P_X0_moveOn c) := by
  refine Eq.trans (mCall_eq (d := d + 5) rfl) ?_
  show mEv X (mCall mD X (d + 5)) 0 t_X0_moveOn (mDrop t_X0_moveOn 0) [some (mr i 0), none, none, none, none, none] [] (mU g i c) = _
  refine Eq.trans (e_X0_moveOn_0) ?_
  try simp only [mU_same, mU_mU]
  refine mw_cI (rr_X0_askedSet (d + 3)) (fun v1 => ?_)
  refine Eq.trans (e_X0_moveOn_4) ?_
  try simp only [mU_same, mU_mU]
  refine mw_cZ (rr_X0_isDone (d + 1) (Or.inl rfl)) rfl (fun v2 hv2 => ?_)
  refine Eq.trans (e_X0_moveOn_13) ?_
  try simp only [mU_same, mU_mU]
  refine mw_cZ (rr_X0_isDone (d + 1) (Or.inr rfl)) rfl (fun v3 hv3 => ?_)
  refine Eq.trans (e_X0_moveOn_22) ?_
  try simp only [mU_same, mU_mU]
  refine mw_ite (fun h6 => ?_) (fun h6 => ?_)
  · exact rj_X0_moveOn_43 d
  · refine Eq.trans (e_X0_moveOn_27) ?_
    try simp only [mU_same, mU_mU]
    refine mw_cY (rr_X0_leaveToNext (d + 1) (Or.inl rfl)) rfl (fun p4 hp4 => ?_)
    refine Eq.trans (e_X0_moveOn_36) ?_
    try simp only [mU_same, mU_mU]
    refine mw_ite (fun h5 => ?_) (fun h5 => ?_)
    · exact rj_X0_moveOn_43 d
    · refine Eq.trans (e_X0_moveOn_39) ?_
      try simp only [mU_same, mU_mU]
      exact rj_X0_moveOn_44 d
theorem rr_X0_moveOn_at (d : Nat) {X : mX} {g : mG} {i : Nat} : mCall mD X (d + 6) 32 [mr i 0] g = some (none, mU g i (P_X0_moveOn (g i))) := by
  have h := rr_X0_moveOn (X := X) d (g := g) (c := g i) (i := i)
  rw [mU_self] at h
  exact h
theorem e_X2_firstWithFoe_0 {X : mX} {call : Nat → List mV → mG → mR} {g : mG} {x1 : Int32} {i : Nat} : mEv X call 1 t_X2_firstWithFoe (mDrop t_X2_firstWithFoe 0) [some (mr i 1), some (mi x1), none] [] g = mEv X call 1 t_X2_firstWithFoe (mDrop t_X2_firstWithFoe 2) [some (mr i 1), some (mi x1), some (mi 0)] [] g := (mEv_2 _ _ _ _).trans rfl
theorem e_X2_firstWithFoe_2 {X : mX} {call : Nat → List mV → mG → mR} {g : mG} {x1 x2 : Int32} {i : Nat} : mEv X call 1 t_X2_firstWithFoe (mDrop t_X2_firstWithFoe 2) [some (mr i 1), some (mi x1), some (mi x2)] [] g = if (g i 1 0) ≤ x2 then mEv X call 1 t_X2_firstWithFoe (mDrop t_X2_firstWithFoe 36) [some (mr i 1), some (mi x1), some (mi x2)] [] g else mEv X call 1 t_X2_firstWithFoe (mDrop t_X2_firstWithFoe 10) [some (mr i 1), some (mi x1), some (mi x2)] [] g := (mEv_4 _ _ _ _).trans rfl
theorem e_X2_firstWithFoe_36 {X : mX} {call : Nat → List mV → mG → mR} {g : mG} {x1 x2 : Int32} {i : Nat} : mEv X call 1 t_X2_firstWithFoe (mDrop t_X2_firstWithFoe 36) [some (mr i 1), some (mi x1), some (mi x2)] [] g = some (some (mi (-1)), g) := (mEv_2 _ _ _ _).trans rfl
theorem e_X2_firstWithFoe_10 {X : mX} {call : Nat → List mV → mG → mR} {g : mG} {x1 x2 : Int32} {i : Nat} : mEv X call 1 t_X2_firstWithFoe (mDrop t_X2_firstWithFoe 10) [some (mr i 1), some (mi x1), some (mi x2)] [] g = mAns (mEv X call 1 t_X2_firstWithFoe) (mDrop t_X2_firstWithFoe 15) [some (mr i 1), some (mi x1), some (mi x2)] [] (call 149 [mi x1, mi x2] g) := (mEv_3 _ _ _ _).trans rfl
theorem e_X2_firstWithFoe_15 {X : mX} {call : Nat → List mV → mG → mR} {g : mG} {x1 x2 s0 : Int32} {i : Nat} : mEv X call 1 t_X2_firstWithFoe (mDrop t_X2_firstWithFoe 15) [some (mr i 1), some (mi x1), some (mi x2)] [mi s0] g = if s0 = 0 then mEv X call 1 t_X2_firstWithFoe (mDrop t_X2_firstWithFoe 30) [some (mr i 1), some (mi x1), some (mi x2)] [] g else mEv X call 1 t_X2_firstWithFoe (mDrop t_X2_firstWithFoe 18) [some (mr i 1), some (mi x1), some (mi x2)] [] g := (mEv_1 _ _ _ _).trans rfl
theorem e_X2_firstWithFoe_30 {X : mX} {call : Nat → List mV → mG → mR} {g : mG} {x1 x2 : Int32} {i : Nat} : mEv X call 1 t_X2_firstWithFoe (mDrop t_X2_firstWithFoe 30) [some (mr i 1), some (mi x1), some (mi x2)] [] g = mEv X call 1 t_X2_firstWithFoe (mDrop t_X2_firstWithFoe 2) [some (mr i 1), some (mi x1), some (mi (x2 + 1))] [] g := (mEv_2 _ _ _ _).trans rfl
noncomputable def J_X2_firstWithFoe_30 (c : mC) (x1 : Int32) (x2 : Int32) : ((Int32) ⊕ (Int32)) := (.inl (x2 + 1))
theorem rj_X2_firstWithFoe_30 (d : Nat) {X : mX} {g : mG} {i : Nat} {x1 x2 : Int32} {c : mC} : mEv X (mCall mD X (d + 2)) 1 t_X2_firstWithFoe (mDrop t_X2_firstWithFoe 30) [some (mr i 1), some (mi x1), some (mi x2)] [] (mU g i c) = (wB (fun x2 : (Int32) => mEv X (mCall mD X (d + 2)) 1 t_X2_firstWithFoe (mDrop t_X2_firstWithFoe 2) [some (mr i 1), some (mi x1), some (mi x2)] [] (mU g i c)) (wI g i c)) (J_X2_firstWithFoe_30 c x1 x2) := by
  refine Eq.trans (e_X2_firstWithFoe_30) ?_
  try simp only [mU_same, mU_mU]
  exact mw_inl rfl
theorem e_X2_firstWithFoe_18 {X : mX} {call : Nat → List mV → mG → mR} {g : mG} {x1 x2 : Int32} {i : Nat} : mEv X call 1 t_X2_firstWithFoe (mDrop t_X2_firstWithFoe 18) [some (mr i 1), some (mi x1), some (mi x2)] [] g = mAns (mEv X call 1 t_X2_firstWithFoe) (mDrop t_X2_firstWithFoe 23) [some (mr i 1), some (mi x1), some (mi x2)] [] (call 63 [mr i 1, mi x2] g) := (mEv_3 _ _ _ _).trans rfl
theorem e_X2_firstWithFoe_23 {X : mX} {call : Nat → List mV → mG → mR} {g : mG} {x1 x2 s0 : Int32} {i : Nat} : mEv X call 1 t_X2_firstWithFoe (mDrop t_X2_firstWithFoe 23) [some (mr i 1), some (mi x1), some (mi x2)] [mi s0] g = if (s0 &&& x1) = 0 then mEv X call 1 t_X2_firstWithFoe (mDrop t_X2_firstWithFoe 30) [some (mr i 1), some (mi x1), some (mi x2)] [] g else mEv X call 1 t_X2_firstWithFoe (mDrop t_X2_firstWithFoe 28) [some (mr i 1), some (mi x1), some (mi x2)] [] g := (mEv_3 _ _ _ _).trans rfl
theorem e_X2_firstWithFoe_28 {X : mX} {call : Nat → List mV → mG → mR} {g : mG} {x1 x2 : Int32} {i : Nat} : mEv X call 1 t_X2_firstWithFoe (mDrop t_X2_firstWithFoe 28) [some (mr i 1), some (mi x1), some (mi x2)] [] g = some (some (mi x2), g) := (mEv_2 _ _ _ _).trans rfl
noncomputable def B_X2_firstWithFoe_2 (c : mC) (x1 : Int32) : (Int32) → (Int32) ⊕ (Int32) := fun x2 => (if (c 1 0) ≤ x2 then (.inr (-1)) else (mBd (α := Int32) (P_X5_inSet x1 x2) (fun v1 => (if v1 = 0 then (J_X2_firstWithFoe_30 c x1 x2) else (mBd (α := Int32) (P_X2_foesOf c x2) (fun v2 => (if (v2 &&& x1) = 0 then (J_X2_firstWithFoe_30 c x1 x2) else (.inr x2))))))))
set_option maxRecDepth 100000 in
theorem tm_X2_firstWithFoe_2 {c : mC} {x1 : Int32} : mTm (B_X2_firstWithFoe_2 c x1) := by
  refine ⟨fun x2 => (((c 1 0) : Int32).toInt - (x2 : Int32).toInt).toNat, fun s s2 h => ?_⟩
  skip
  simp only [B_X2_firstWithFoe_2, J_X2_firstWithFoe_30, mBd] at h
  (repeat' split at h) <;> first | (have h2 := Sum.inl.inj h; subst h2; dsimp only; exact mtm_up (by assumption)) | (cases h; done)
theorem rl_X2_firstWithFoe_2 (d : Nat) {X : mX} {g : mG} {i : Nat} {x1 x2 : Int32} {c : mC} : mEv X (mCall mD X (d + 2)) 1 t_X2_firstWithFoe (mDrop t_X2_firstWithFoe 2) [some (mr i 1), some (mi x1), some (mi x2)] [] (mU g i c) = (wI g i c) (mWh 0 (B_X2_firstWithFoe_2 c x1) x2) := by
  refine mWh_ev (B := (B_X2_firstWithFoe_2 c x1)) (ev := fun x2 : (Int32) => mEv X (mCall mD X (d + 2)) 1 t_X2_firstWithFoe (mDrop t_X2_firstWithFoe 2) [some (mr i 1), some (mi x1), some (mi x2)] [] (mU g i c)) (w := (wI g i c)) (tm_X2_firstWithFoe_2) ?_ x2
  intro x2
  show mEv X (mCall mD X (d + 2)) 1 t_X2_firstWithFoe (mDrop t_X2_firstWithFoe 2) [some (mr i 1), some (mi x1), some (mi x2)] [] (mU g i c) = wB (fun x2 : (Int32) => mEv X (mCall mD X (d + 2)) 1 t_X2_firstWithFoe (mDrop t_X2_firstWithFoe 2) [some (mr i 1), some (mi x1), some (mi x2)] [] (mU g i c)) (wI g i c) (B_X2_firstWithFoe_2 c x1 x2)
  refine Eq.trans (e_X2_firstWithFoe_2) ?_
  try simp only [mU_same, mU_mU]
  refine mw_ite (fun h5 => ?_) (fun h5 => ?_)
  · refine mw_inr ?_
    refine Eq.trans (e_X2_firstWithFoe_36) ?_
    try simp only [mU_same, mU_mU]
    all_goals rfl
  · refine Eq.trans (e_X2_firstWithFoe_10) ?_
    try simp only [mU_same, mU_mU]
    refine mw_cZ (rr_X5_inSet (d + 1)) rfl (fun v1 hv1 => ?_)
    refine Eq.trans (e_X2_firstWithFoe_15) ?_
    try simp only [mU_same, mU_mU]
    refine mw_ite (fun h4 => ?_) (fun h4 => ?_)
    · exact rj_X2_firstWithFoe_30 d
    · refine Eq.trans (e_X2_firstWithFoe_18) ?_
      try simp only [mU_same, mU_mU]
      refine mw_cI (rr_X2_foesOf d) (fun v2 => ?_)
      refine Eq.trans (e_X2_firstWithFoe_23) ?_
      try simp only [mU_same, mU_mU]
      refine mw_ite (fun h3 => ?_) (fun h3 => ?_)
      · exact rj_X2_firstWithFoe_30 d
      · refine mw_inr ?_
        refine Eq.trans (e_X2_firstWithFoe_28) ?_
        try simp only [mU_same, mU_mU]
        all_goals rfl
noncomputable def P_X2_firstWithFoe (c : mC) (x1 : Int32) : (Int32) := (mWh 0 (B_X2_firstWithFoe_2 c x1) 0)
theorem rr_X2_firstWithFoe (d : Nat) {X : mX} {g : mG} {i : Nat} {x1 : Int32} {c : mC} : mCall mD X (d + 3) 65 [mr i 1, mi x1] (mU g i c) = (wI g i c) (P_X2_firstWithFoe c x1) := by
  refine Eq.trans (mCall_eq (d := d + 2) rfl) ?_
  show mEv X (mCall mD X (d + 2)) 1 t_X2_firstWithFoe (mDrop t_X2_firstWithFoe 0) [some (mr i 1), some (mi x1), none] [] (mU g i c) = _
  refine Eq.trans (e_X2_firstWithFoe_0) ?_
  try simp only [mU_same, mU_mU]
  exact rl_X2_firstWithFoe_2 d
theorem rr_X2_firstWithFoe_at (d : Nat) {X : mX} {g : mG} {i : Nat} {x1 : Int32} : mCall mD X (d + 3) 65 [mr i 1, mi x1] g = wN g (P_X2_firstWithFoe (g i) x1) := by
  have h := rr_X2_firstWithFoe (X := X) d (g := g) (c := g i) (x1 := x1) (i := i)
  rw [mU_self] at h
  exact h.trans (wI_self _ _ _)
theorem e_X0_watch_0 {X : mX} {call : Nat → List mV → mG → mR} {g : mG} {i : Nat} : mEv X call 0 t_X0_watch (mDrop t_X0_watch 0) [some (mr i 0), none] [] g = if ((g i 0 15) &&& 1) = 0 then mEv X call 0 t_X0_watch (mDrop t_X0_watch 11) [some (mr i 0), none] [] g else mEv X call 0 t_X0_watch (mDrop t_X0_watch 7) [some (mr i 0), none] [] g := (mEv_3 _ _ _ _).trans rfl
theorem e_X0_watch_11 {X : mX} {call : Nat → List mV → mG → mR} {g : mG} {i : Nat} : mEv X call 0 t_X0_watch (mDrop t_X0_watch 11) [some (mr i 0), none] [] g = mAns (mEv X call 0 t_X0_watch) (mDrop t_X0_watch 19) [some (mr i 0), none] [mr i 1] (call 13 [mr i 0] g) := (mEv_4 _ _ _ _).trans rfl
theorem e_X0_watch_19 {X : mX} {call : Nat → List mV → mG → mR} {g : mG} {s1 : Int32} {i : Nat} : mEv X call 0 t_X0_watch (mDrop t_X0_watch 19) [some (mr i 0), none] [mi s1, mr i 1] g = mAns (mEv X call 0 t_X0_watch) (mDrop t_X0_watch 22) [some (mr i 0), none] [] (call 65 [mr i 1, mi s1] g) := (mEv_1 _ _ _ _).trans rfl
theorem e_X0_watch_22 {X : mX} {call : Nat → List mV → mG → mR} {g : mG} {s0 : Int32} {i : Nat} : mEv X call 0 t_X0_watch (mDrop t_X0_watch 22) [some (mr i 0), none] [mi s0] g = if s0 = (-1) then mEv X call 0 t_X0_watch (mDrop t_X0_watch 28) [some (mr i 0), some (mi s0)] [] g else mEv X call 0 t_X0_watch (mDrop t_X0_watch 29) [some (mr i 0), some (mi s0)] [] g := (mEv_4 _ _ _ _).trans rfl
theorem e_X0_watch_28 {X : mX} {call : Nat → List mV → mG → mR} {g : mG} {x1 : Int32} {i : Nat} : mEv X call 0 t_X0_watch (mDrop t_X0_watch 28) [some (mr i 0), some (mi x1)] [] g = some (none, g) := (mEv_1 _ _ _ _).trans rfl
theorem e_X0_watch_29 {X : mX} {call : Nat → List mV → mG → mR} {g : mG} {x1 : Int32} {i : Nat} : mEv X call 0 t_X0_watch (mDrop t_X0_watch 29) [some (mr i 0), some (mi x1)] [] g = if (1 : Int32) &&& 1 = 1 then mEv X call 0 t_X0_watch (mDrop t_X0_watch 34) [some (mr i 0), some (mi x1)] [] (mU g i (mP (g i) 0 15 1)) else none := (mEv_3 _ _ _ _).trans rfl
theorem e_X0_watch_34 {X : mX} {call : Nat → List mV → mG → mR} {g : mG} {x1 : Int32} {i : Nat} : mEv X call 0 t_X0_watch (mDrop t_X0_watch 34) [some (mr i 0), some (mi x1)] [] g = mAns (mEv X call 0 t_X0_watch) (mDrop t_X0_watch 42) [some (mr i 0), some (mi x1)] [] (call 92 [mr i 8, mi (-1)] g) := (mEv_4 _ _ _ _).trans rfl
theorem e_X0_watch_42 {X : mX} {call : Nat → List mV → mG → mR} {g : mG} {x1 : Int32} {i : Nat} : mEv X call 0 t_X0_watch (mDrop t_X0_watch 42) [some (mr i 0), some (mi x1)] [] g = mAns (mEv X call 0 t_X0_watch) (mDrop t_X0_watch 50) [some (mr i 0), some (mi x1)] [] (call 92 [mr i 9, mi (-1)] g) := (mEv_4 _ _ _ _).trans rfl
theorem e_X0_watch_50 {X : mX} {call : Nat → List mV → mG → mR} {g : mG} {x1 : Int32} {i : Nat} : mEv X call 0 t_X0_watch (mDrop t_X0_watch 50) [some (mr i 0), some (mi x1)] [] g = mAns (mEv X call 0 t_X0_watch) (mDrop t_X0_watch 54) [some (mr i 0), some (mi x1)] [] (call 40 [mr i 0] g) := (mEv_2 _ _ _ _).trans rfl
theorem e_X0_watch_54 {X : mX} {call : Nat → List mV → mG → mR} {g : mG} {x1 : Int32} {i : Nat} : mEv X call 0 t_X0_watch (mDrop t_X0_watch 54) [some (mr i 0), some (mi x1)] [] g = mAns (mEv X call 0 t_X0_watch) (mDrop t_X0_watch 67) [some (mr i 0), some (mi x1)] [] (call 49 [mr i 10, mi 4, mi (g i 0 12), mi x1] g) := (mEv_7 _ _ _ _).trans rfl
theorem e_X0_watch_67 {X : mX} {call : Nat → List mV → mG → mR} {g : mG} {x1 : Int32} {i : Nat} : mEv X call 0 t_X0_watch (mDrop t_X0_watch 67) [some (mr i 0), some (mi x1)] [] g = some (none, g) := (mEv_1 _ _ _ _).trans rfl
noncomputable def J_X0_watch_22 (c : mC) (s0 : Int32) : (mC) := (if s0 = (-1) then c else (mBd (α := mC) (P_X4_waitFor 8 (mP c 0 15 1) (-1)) (fun c1 => (mBd (α := mC) (P_X4_waitFor 9 c1 (-1)) (fun c2 => (mBd (α := mC) (P_X0_dropBreak c2) (fun c3 => (mBd (α := mC) (P_X1_note c3 4 (c3 0 12) s0) (fun c4 => c4)))))))))
theorem rj_X0_watch_22 (d : Nat) {X : mX} {g : mG} {i : Nat} {s0 : Int32} {c : mC} : mEv X (mCall mD X (d + 3)) 0 t_X0_watch (mDrop t_X0_watch 22) [some (mr i 0), none] [mi s0] (mU g i c) = (wV g i) (J_X0_watch_22 c s0) := by
  refine Eq.trans (e_X0_watch_22) ?_
  try simp only [mU_same, mU_mU]
  refine mw_ite (fun h5 => ?_) (fun h5 => ?_)
  · refine Eq.trans (e_X0_watch_28) ?_
    try simp only [mU_same, mU_mU]
    all_goals rfl
  · refine Eq.trans (e_X0_watch_29) ?_
    try simp only [mU_same, mU_mU]
    refine Eq.trans (if_pos (by decide)) ?_
    refine Eq.trans (e_X0_watch_34) ?_
    try simp only [mU_same, mU_mU]
    refine mw_cV (rr_X4_waitFor (d + 2) (Or.inl rfl)) (fun c1 => ?_)
    refine Eq.trans (e_X0_watch_42) ?_
    try simp only [mU_same, mU_mU]
    refine mw_cV (rr_X4_waitFor (d + 2) (Or.inr rfl)) (fun c2 => ?_)
    refine Eq.trans (e_X0_watch_50) ?_
    try simp only [mU_same, mU_mU]
    refine mw_cV (rr_X0_dropBreak (d + 2)) (fun c3 => ?_)
    refine Eq.trans (e_X0_watch_54) ?_
    try simp only [mU_same, mU_mU]
    refine mw_cV (rr_X1_note (d + 1)) (fun c4 => ?_)
    refine Eq.trans (e_X0_watch_67) ?_
    try simp only [mU_same, mU_mU]
    all_goals rfl
theorem e_X0_watch_7 {X : mX} {call : Nat → List mV → mG → mR} {g : mG} {i : Nat} : mEv X call 0 t_X0_watch (mDrop t_X0_watch 7) [some (mr i 0), none] [] g = mEv X call 0 t_X0_watch (mDrop t_X0_watch 22) [some (mr i 0), none] [mi (-1)] g := (mEv_2 _ _ _ _).trans rfl
noncomputable def P_X0_watch (c : mC) : (mC) := (if ((c 0 15) &&& 1) = 0 then (mBd (α := Int32) (P_X0_shownSet c) (fun v1 => (mBd (α := Int32) (P_X2_firstWithFoe c v1) (fun v2 => (J_X0_watch_22 c v2))))) else (J_X0_watch_22 c (-1)))
theorem rr_X0_watch (d : Nat) {X : mX} {g : mG} {i : Nat} {c : mC} : mCall mD X (d + 4) 30 [mr i 0] (mU g i c) = (wV g i) (P_X0_watch c) := by
  refine Eq.trans (mCall_eq (d := d + 3) rfl) ?_
  show mEv X (mCall mD X (d + 3)) 0 t_X0_watch (mDrop t_X0_watch 0) [some (mr i 0), none] [] (mU g i c) = _
  refine Eq.trans (e_X0_watch_0) ?_
  try simp only [mU_same, mU_mU]
  refine mw_ite (fun h3 => ?_) (fun h3 => ?_)
  · refine Eq.trans (e_X0_watch_11) ?_
    try simp only [mU_same, mU_mU]
    refine mw_cI (rr_X0_shownSet d) (fun v1 => ?_)
    refine Eq.trans (e_X0_watch_19) ?_
    try simp only [mU_same, mU_mU]
    refine mw_cI (rr_X2_firstWithFoe d) (fun v2 => ?_)
    exact rj_X0_watch_22 d
  · refine Eq.trans (e_X0_watch_7) ?_
    try simp only [mU_same, mU_mU]
    exact rj_X0_watch_22 d
theorem rr_X0_watch_at (d : Nat) {X : mX} {g : mG} {i : Nat} : mCall mD X (d + 4) 30 [mr i 0] g = some (none, mU g i (P_X0_watch (g i))) := by
  have h := rr_X0_watch (X := X) d (g := g) (c := g i) (i := i)
  rw [mU_self] at h
  exact h
theorem e_X0_passTick_0 {X : mX} {call : Nat → List mV → mG → mR} {g : mG} {i : Nat} : mEv X call 0 t_X0_passTick (mDrop t_X0_passTick 0) [some (mr i 0)] [] g = mEv X call 0 t_X0_passTick (mDrop t_X0_passTick 10) [some (mr i 0)] [] (mU g i (mP (g i) 0 12 ((g i 0 12) + 1))) := (mEv_6 _ _ _ _).trans rfl
theorem e_X0_passTick_10 {X : mX} {call : Nat → List mV → mG → mR} {g : mG} {i : Nat} : mEv X call 0 t_X0_passTick (mDrop t_X0_passTick 10) [some (mr i 0)] [] g = mAns (mEv X call 0 t_X0_passTick) (mDrop t_X0_passTick 14) [some (mr i 0)] [] (call 23 [mr i 0] g) := (mEv_2 _ _ _ _).trans rfl
theorem e_X0_passTick_14 {X : mX} {call : Nat → List mV → mG → mR} {g : mG} {i : Nat} : mEv X call 0 t_X0_passTick (mDrop t_X0_passTick 14) [some (mr i 0)] [] g = if ((g i 0 15) &&& 1) = 0 then mEv X call 0 t_X0_passTick (mDrop t_X0_passTick 21) [some (mr i 0)] [] g else mEv X call 0 t_X0_passTick (mDrop t_X0_passTick 82) [some (mr i 0)] [] g := (mEv_3 _ _ _ _).trans rfl
theorem e_X0_passTick_21 {X : mX} {call : Nat → List mV → mG → mR} {g : mG} {i : Nat} : mEv X call 0 t_X0_passTick (mDrop t_X0_passTick 21) [some (mr i 0)] [] g = mAns (mEv X call 0 t_X0_passTick) (mDrop t_X0_passTick 29) [some (mr i 0)] [] (call 26 [mr i 0, mr i 8] g) := (mEv_4 _ _ _ _).trans rfl
theorem e_X0_passTick_29 {X : mX} {call : Nat → List mV → mG → mR} {g : mG} {i : Nat} : mEv X call 0 t_X0_passTick (mDrop t_X0_passTick 29) [some (mr i 0)] [] g = mAns (mEv X call 0 t_X0_passTick) (mDrop t_X0_passTick 37) [some (mr i 0)] [] (call 26 [mr i 0, mr i 9] g) := (mEv_4 _ _ _ _).trans rfl
theorem e_X0_passTick_37 {X : mX} {call : Nat → List mV → mG → mR} {g : mG} {i : Nat} : mEv X call 0 t_X0_passTick (mDrop t_X0_passTick 37) [some (mr i 0)] [] g = mEv X call 0 t_X0_passTick (mDrop t_X0_passTick 42) [some (mr i 0)] [] (mU g i (mP (g i) 0 9 0)) := (mEv_3 _ _ _ _).trans rfl
theorem e_X0_passTick_42 {X : mX} {call : Nat → List mV → mG → mR} {g : mG} {i : Nat} : mEv X call 0 t_X0_passTick (mDrop t_X0_passTick 42) [some (mr i 0)] [] g = mAns (mEv X call 0 t_X0_passTick) (mDrop t_X0_passTick 46) [some (mr i 0)] [] (call 37 [mr i 0] g) := (mEv_2 _ _ _ _).trans rfl
theorem e_X0_passTick_46 {X : mX} {call : Nat → List mV → mG → mR} {g : mG} {i : Nat} : mEv X call 0 t_X0_passTick (mDrop t_X0_passTick 46) [some (mr i 0)] [] g = if (g i 0 16) = (-1) then mEv X call 0 t_X0_passTick (mDrop t_X0_passTick 54) [some (mr i 0)] [] g else mEv X call 0 t_X0_passTick (mDrop t_X0_passTick 58) [some (mr i 0)] [] g := (mEv_4 _ _ _ _).trans rfl
theorem e_X0_passTick_54 {X : mX} {call : Nat → List mV → mG → mR} {g : mG} {i : Nat} : mEv X call 0 t_X0_passTick (mDrop t_X0_passTick 54) [some (mr i 0)] [] g = mAns (mEv X call 0 t_X0_passTick) (mDrop t_X0_passTick 58) [some (mr i 0)] [] (call 32 [mr i 0] g) := (mEv_2 _ _ _ _).trans rfl
theorem e_X0_passTick_58 {X : mX} {call : Nat → List mV → mG → mR} {g : mG} {i : Nat} : mEv X call 0 t_X0_passTick (mDrop t_X0_passTick 58) [some (mr i 0)] [] g = mAns (mEv X call 0 t_X0_passTick) (mDrop t_X0_passTick 70) [some (mr i 0)] [] (call 29 [mr i 0, mr i 8, mr i 9] g) := (mEv_6 _ _ _ _).trans rfl
theorem e_X0_passTick_70 {X : mX} {call : Nat → List mV → mG → mR} {g : mG} {i : Nat} : mEv X call 0 t_X0_passTick (mDrop t_X0_passTick 70) [some (mr i 0)] [] g = mAns (mEv X call 0 t_X0_passTick) (mDrop t_X0_passTick 82) [some (mr i 0)] [] (call 29 [mr i 0, mr i 9, mr i 8] g) := (mEv_6 _ _ _ _).trans rfl
theorem e_X0_passTick_82 {X : mX} {call : Nat → List mV → mG → mR} {g : mG} {i : Nat} : mEv X call 0 t_X0_passTick (mDrop t_X0_passTick 82) [some (mr i 0)] [] g = mAns (mEv X call 0 t_X0_passTick) (mDrop t_X0_passTick 86) [some (mr i 0)] [] (call 30 [mr i 0] g) := (mEv_2 _ _ _ _).trans rfl
theorem e_X0_passTick_86 {X : mX} {call : Nat → List mV → mG → mR} {g : mG} {i : Nat} : mEv X call 0 t_X0_passTick (mDrop t_X0_passTick 86) [some (mr i 0)] [] g = mAns (mEv X call 0 t_X0_passTick) (mDrop t_X0_passTick 98) [some (mr i 0)] [mi (g i 0 14), mr i 0] (call 146 [mr i 14] g) := (mEv_6 _ _ _ _).trans rfl
theorem e_X0_passTick_98 {X : mX} {call : Nat → List mV → mG → mR} {g : mG} {s1 s2 : Int32} {i : Nat} : mEv X call 0 t_X0_passTick (mDrop t_X0_passTick 98) [some (mr i 0)] [mi s2, mi s1, mr i 0] g = mEv X call 0 t_X0_passTick (mDrop t_X0_passTick 102) [some (mr i 0)] [] (mU g i (mP (g i) 0 14 (s1 + s2))) := (mEv_2 _ _ _ _).trans rfl
theorem e_X0_passTick_102 {X : mX} {call : Nat → List mV → mG → mR} {g : mG} {i : Nat} : mEv X call 0 t_X0_passTick (mDrop t_X0_passTick 102) [some (mr i 0)] [] g = some (none, g) := (mEv_1 _ _ _ _).trans rfl
noncomputable def J_X0_passTick_82 (c : mC) : (mC) := (mBd (α := mC) (P_X0_watch c) (fun c1 => (mBd (α := Int32) (mTt 8 (c1 14)) (fun v2 => (mP c1 0 14 ((c1 0 14) + v2))))))
theorem rj_X0_passTick_82 (d : Nat) {X : mX} {g : mG} {i : Nat} {c : mC} : mEv X (mCall mD X (d + 6)) 0 t_X0_passTick (mDrop t_X0_passTick 82) [some (mr i 0)] [] (mU g i c) = (wV g i) (J_X0_passTick_82 c) := by
  refine Eq.trans (e_X0_passTick_82) ?_
  try simp only [mU_same, mU_mU]
  refine mw_cV (rr_X0_watch (d + 2)) (fun c1 => ?_)
  refine Eq.trans (e_X0_passTick_86) ?_
  try simp only [mU_same, mU_mU]
  refine mw_cI (rr_X5_total_14 (d + 5)) (fun v2 => ?_)
  refine Eq.trans (e_X0_passTick_98) ?_
  try simp only [mU_same, mU_mU]
  refine Eq.trans (e_X0_passTick_102) ?_
  try simp only [mU_same, mU_mU]
  all_goals rfl
noncomputable def J_X0_passTick_58 (c : mC) : (mC) := (mBd (α := mC) (P_X0_turnGreen 8 9 c) (fun c1 => (mBd (α := mC) (P_X0_turnGreen 9 8 c1) (fun c2 => (J_X0_passTick_82 c2)))))
theorem rj_X0_passTick_58 (d : Nat) {X : mX} {g : mG} {i : Nat} {c : mC} : mEv X (mCall mD X (d + 6)) 0 t_X0_passTick (mDrop t_X0_passTick 58) [some (mr i 0)] [] (mU g i c) = (wV g i) (J_X0_passTick_58 c) := by
  refine Eq.trans (e_X0_passTick_58) ?_
  try simp only [mU_same, mU_mU]
  refine mw_cV (rr_X0_turnGreen (d + 3) (Or.inl rfl) (Or.inr rfl)) (fun c1 => ?_)
  refine Eq.trans (e_X0_passTick_70) ?_
  try simp only [mU_same, mU_mU]
  refine mw_cV (rr_X0_turnGreen (d + 3) (Or.inr rfl) (Or.inl rfl)) (fun c2 => ?_)
  exact rj_X0_passTick_82 d
noncomputable def P_X0_passTick (c : mC) : (mC) := (mBd (α := mC) (P_X0_moveClock (mP c 0 12 ((c 0 12) + 1))) (fun c1 => (if ((c1 0 15) &&& 1) = 0 then (mBd (α := mC) (P_X0_ageRing 8 c1) (fun c2 => (mBd (α := mC) (P_X0_ageRing 9 c2) (fun c3 => (mBd (α := mC) (P_X0_moveBreaks (mP c3 0 9 0)) (fun c4 => (if (c4 0 16) = (-1) then (mBd (α := mC) (P_X0_moveOn c4) (fun c5 => (J_X0_passTick_58 c5))) else (J_X0_passTick_58 c4)))))))) else (J_X0_passTick_82 c1))))
theorem rr_X0_passTick (d : Nat) {X : mX} {g : mG} {i : Nat} {c : mC} : mCall mD X (d + 7) 22 [mr i 0] (mU g i c) = (wV g i) (P_X0_passTick c) := by
  refine Eq.trans (mCall_eq (d := d + 6) rfl) ?_
  show mEv X (mCall mD X (d + 6)) 0 t_X0_passTick (mDrop t_X0_passTick 0) [some (mr i 0)] [] (mU g i c) = _
  refine Eq.trans (e_X0_passTick_0) ?_
  try simp only [mU_same, mU_mU]
  refine Eq.trans (e_X0_passTick_10) ?_
  try simp only [mU_same, mU_mU]
  refine mw_cV (rr_X0_moveClock (d + 3)) (fun c1 => ?_)
  refine Eq.trans (e_X0_passTick_14) ?_
  try simp only [mU_same, mU_mU]
  refine mw_ite (fun h7 => ?_) (fun h7 => ?_)
  · refine Eq.trans (e_X0_passTick_21) ?_
    try simp only [mU_same, mU_mU]
    refine mw_cV (rr_X0_ageRing (d + 1) (Or.inl rfl)) (fun c2 => ?_)
    refine Eq.trans (e_X0_passTick_29) ?_
    try simp only [mU_same, mU_mU]
    refine mw_cV (rr_X0_ageRing (d + 1) (Or.inr rfl)) (fun c3 => ?_)
    refine Eq.trans (e_X0_passTick_37) ?_
    try simp only [mU_same, mU_mU]
    refine Eq.trans (e_X0_passTick_42) ?_
    try simp only [mU_same, mU_mU]
    refine mw_cV (rr_X0_moveBreaks d) (fun c4 => ?_)
    refine Eq.trans (e_X0_passTick_46) ?_
    try simp only [mU_same, mU_mU]
    refine mw_ite (fun h6 => ?_) (fun h6 => ?_)
    · refine Eq.trans (e_X0_passTick_54) ?_
      try simp only [mU_same, mU_mU]
      refine mw_cV (rr_X0_moveOn d) (fun c5 => ?_)
      exact rj_X0_passTick_58 d
    · exact rj_X0_passTick_58 d
  · exact rj_X0_passTick_82 d
theorem rr_X0_passTick_at (d : Nat) {X : mX} {g : mG} {i : Nat} : mCall mD X (d + 7) 22 [mr i 0] g = some (none, mU g i (P_X0_passTick (g i))) := by
  have h := rr_X0_passTick (X := X) d (g := g) (c := g i) (i := i)
  rw [mU_self] at h
  exact h
theorem e_X0_passTicks_0 {X : mX} {call : Nat → List mV → mG → mR} {g : mG} {x1 : Int32} {i : Nat} : mEv X call 0 t_X0_passTicks (mDrop t_X0_passTicks 0) [some (mr i 0), some (mi x1), none] [] g = mEv X call 0 t_X0_passTicks (mDrop t_X0_passTicks 2) [some (mr i 0), some (mi x1), some (mi 0)] [] g := (mEv_2 _ _ _ _).trans rfl
theorem e_X0_passTicks_2 {X : mX} {call : Nat → List mV → mG → mR} {g : mG} {x1 x2 : Int32} {i : Nat} : mEv X call 0 t_X0_passTicks (mDrop t_X0_passTicks 2) [some (mr i 0), some (mi x1), some (mi x2)] [] g = if x1 ≤ x2 then mEv X call 0 t_X0_passTicks (mDrop t_X0_passTicks 17) [some (mr i 0), some (mi x1), some (mi x2)] [] g else mEv X call 0 t_X0_passTicks (mDrop t_X0_passTicks 7) [some (mr i 0), some (mi x1), some (mi x2)] [] g := (mEv_3 _ _ _ _).trans rfl
theorem e_X0_passTicks_17 {X : mX} {call : Nat → List mV → mG → mR} {g : mG} {x1 x2 : Int32} {i : Nat} : mEv X call 0 t_X0_passTicks (mDrop t_X0_passTicks 17) [some (mr i 0), some (mi x1), some (mi x2)] [] g = some (none, g) := (mEv_1 _ _ _ _).trans rfl
theorem e_X0_passTicks_7 {X : mX} {call : Nat → List mV → mG → mR} {g : mG} {x1 x2 : Int32} {i : Nat} : mEv X call 0 t_X0_passTicks (mDrop t_X0_passTicks 7) [some (mr i 0), some (mi x1), some (mi x2)] [] g = mAns (mEv X call 0 t_X0_passTicks) (mDrop t_X0_passTicks 11) [some (mr i 0), some (mi x1), some (mi x2)] [] (call 22 [mr i 0] g) := (mEv_2 _ _ _ _).trans rfl
theorem e_X0_passTicks_11 {X : mX} {call : Nat → List mV → mG → mR} {g : mG} {x1 x2 : Int32} {i : Nat} : mEv X call 0 t_X0_passTicks (mDrop t_X0_passTicks 11) [some (mr i 0), some (mi x1), some (mi x2)] [] g = mEv X call 0 t_X0_passTicks (mDrop t_X0_passTicks 2) [some (mr i 0), some (mi x1), some (mi (x2 + 1))] [] g := (mEv_2 _ _ _ _).trans rfl
noncomputable def B_X0_passTicks_2 (x1 : Int32) : (Int32 × mC) → (Int32 × mC) ⊕ (mC) := fun s => match s with | (x2, c) => (if x1 ≤ x2 then (.inr c) else (mBd (α := mC) (P_X0_passTick c) (fun c1 => (.inl ((x2 + 1), c1)))))
set_option maxRecDepth 100000 in
theorem tm_X0_passTicks_2 {x1 : Int32} : mTm (B_X0_passTicks_2 x1) := by
  refine ⟨fun s => match s with | (x2, c) => ((x1 : Int32).toInt - (x2 : Int32).toInt).toNat, fun s s2 h => ?_⟩
  obtain ⟨x2, c⟩ := s
  simp only [B_X0_passTicks_2, mBd] at h
  (repeat' split at h) <;> first | (have h2 := Sum.inl.inj h; subst h2; dsimp only; exact mtm_up (by assumption)) | (cases h; done)
theorem rl_X0_passTicks_2 (d : Nat) {X : mX} {g : mG} {i : Nat} {x1 x2 : Int32} {c : mC} : mEv X (mCall mD X (d + 7)) 0 t_X0_passTicks (mDrop t_X0_passTicks 2) [some (mr i 0), some (mi x1), some (mi x2)] [] (mU g i c) = (wV g i) (mWh (fun _ _ => 0) (B_X0_passTicks_2 x1) (x2, c)) := by
  refine mWh_ev (B := (B_X0_passTicks_2 x1)) (ev := fun s : (Int32 × mC) => match s with | (x2, c) => mEv X (mCall mD X (d + 7)) 0 t_X0_passTicks (mDrop t_X0_passTicks 2) [some (mr i 0), some (mi x1), some (mi x2)] [] (mU g i c)) (w := (wV g i)) (tm_X0_passTicks_2) ?_ (x2, c)
  rintro ⟨x2, c⟩
  show mEv X (mCall mD X (d + 7)) 0 t_X0_passTicks (mDrop t_X0_passTicks 2) [some (mr i 0), some (mi x1), some (mi x2)] [] (mU g i c) = wB (fun s : (Int32 × mC) => match s with | (x2, c) => mEv X (mCall mD X (d + 7)) 0 t_X0_passTicks (mDrop t_X0_passTicks 2) [some (mr i 0), some (mi x1), some (mi x2)] [] (mU g i c)) (wV g i) (B_X0_passTicks_2 x1 (x2, c))
  refine Eq.trans (e_X0_passTicks_2) ?_
  try simp only [mU_same, mU_mU]
  refine mw_ite (fun h2 => ?_) (fun h2 => ?_)
  · refine mw_inr ?_
    refine Eq.trans (e_X0_passTicks_17) ?_
    try simp only [mU_same, mU_mU]
    all_goals rfl
  · refine Eq.trans (e_X0_passTicks_7) ?_
    try simp only [mU_same, mU_mU]
    refine mw_cV (rr_X0_passTick d) (fun c1 => ?_)
    refine Eq.trans (e_X0_passTicks_11) ?_
    try simp only [mU_same, mU_mU]
    exact mw_inl rfl
noncomputable def P_X0_passTicks (c : mC) (x1 : Int32) : (mC) := (mWh (fun _ _ => 0) (B_X0_passTicks_2 x1) (0, c))
theorem rr_X0_passTicks (d : Nat) {X : mX} {g : mG} {i : Nat} {x1 : Int32} {c : mC} : mCall mD X (d + 8) 21 [mr i 0, mi x1] (mU g i c) = (wV g i) (P_X0_passTicks c x1) := by
  refine Eq.trans (mCall_eq (d := d + 7) rfl) ?_
  show mEv X (mCall mD X (d + 7)) 0 t_X0_passTicks (mDrop t_X0_passTicks 0) [some (mr i 0), some (mi x1), none] [] (mU g i c) = _
  refine Eq.trans (e_X0_passTicks_0) ?_
  try simp only [mU_same, mU_mU]
  exact rl_X0_passTicks_2 d
theorem rr_X0_passTicks_at (d : Nat) {X : mX} {g : mG} {i : Nat} {x1 : Int32} : mCall mD X (d + 8) 21 [mr i 0, mi x1] g = some (none, mU g i (P_X0_passTicks (g i) x1)) := by
  have h := rr_X0_passTicks (X := X) d (g := g) (c := g i) (x1 := x1) (i := i)
  rw [mU_self] at h
  exact h
theorem e_X2_wipe_0 {X : mX} {call : Nat → List mV → mG → mR} {g : mG} {i : Nat} : mEv X call 0 t_X2_wipe (mDrop t_X2_wipe 0) [some (mr i 1)] [] g = mEv X call 0 t_X2_wipe (mDrop t_X2_wipe 5) [some (mr i 1)] [] (mU g i (mP (g i) 1 0 0)) := (mEv_3 _ _ _ _).trans rfl
theorem e_X2_wipe_5 {X : mX} {call : Nat → List mV → mG → mR} {g : mG} {i : Nat} : mEv X call 0 t_X2_wipe (mDrop t_X2_wipe 5) [some (mr i 1)] [] g = mEv X call 0 t_X2_wipe (mDrop t_X2_wipe 10) [some (mr i 1)] [] (mU g i (mP (g i) 1 9 0)) := (mEv_3 _ _ _ _).trans rfl
theorem e_X2_wipe_10 {X : mX} {call : Nat → List mV → mG → mR} {g : mG} {i : Nat} : mEv X call 0 t_X2_wipe (mDrop t_X2_wipe 10) [some (mr i 1)] [] g = mEv X call 0 t_X2_wipe (mDrop t_X2_wipe 15) [some (mr i 1)] [] (mU g i (mP (g i) 1 10 0)) := (mEv_3 _ _ _ _).trans rfl
theorem e_X2_wipe_15 {X : mX} {call : Nat → List mV → mG → mR} {g : mG} {i : Nat} : mEv X call 0 t_X2_wipe (mDrop t_X2_wipe 15) [some (mr i 1)] [] g = mEv X call 0 t_X2_wipe (mDrop t_X2_wipe 20) [some (mr i 1)] [] (mU g i (mP (g i) 1 11 0)) := (mEv_3 _ _ _ _).trans rfl
theorem e_X2_wipe_20 {X : mX} {call : Nat → List mV → mG → mR} {g : mG} {i : Nat} : mEv X call 0 t_X2_wipe (mDrop t_X2_wipe 20) [some (mr i 1)] [] g = mEv X call 0 t_X2_wipe (mDrop t_X2_wipe 25) [some (mr i 1)] [] (mU g i (mP (g i) 1 1 0)) := (mEv_3 _ _ _ _).trans rfl
theorem e_X2_wipe_25 {X : mX} {call : Nat → List mV → mG → mR} {g : mG} {i : Nat} : mEv X call 0 t_X2_wipe (mDrop t_X2_wipe 25) [some (mr i 1)] [] g = mEv X call 0 t_X2_wipe (mDrop t_X2_wipe 30) [some (mr i 1)] [] (mU g i (mP (g i) 1 2 0)) := (mEv_3 _ _ _ _).trans rfl
theorem e_X2_wipe_30 {X : mX} {call : Nat → List mV → mG → mR} {g : mG} {i : Nat} : mEv X call 0 t_X2_wipe (mDrop t_X2_wipe 30) [some (mr i 1)] [] g = mAns (mEv X call 0 t_X2_wipe) (mDrop t_X2_wipe 38) [some (mr i 1)] [] (call 145 [mr i 2, mi 0] g) := (mEv_4 _ _ _ _).trans rfl
theorem e_X2_wipe_38 {X : mX} {call : Nat → List mV → mG → mR} {g : mG} {i : Nat} : mEv X call 0 t_X2_wipe (mDrop t_X2_wipe 38) [some (mr i 1)] [] g = mAns (mEv X call 0 t_X2_wipe) (mDrop t_X2_wipe 46) [some (mr i 1)] [] (call 145 [mr i 3, mi 0] g) := (mEv_4 _ _ _ _).trans rfl
theorem e_X2_wipe_46 {X : mX} {call : Nat → List mV → mG → mR} {g : mG} {i : Nat} : mEv X call 0 t_X2_wipe (mDrop t_X2_wipe 46) [some (mr i 1)] [] g = mAns (mEv X call 0 t_X2_wipe) (mDrop t_X2_wipe 54) [some (mr i 1)] [] (call 145 [mr i 4, mi 0] g) := (mEv_4 _ _ _ _).trans rfl
theorem e_X2_wipe_54 {X : mX} {call : Nat → List mV → mG → mR} {g : mG} {i : Nat} : mEv X call 0 t_X2_wipe (mDrop t_X2_wipe 54) [some (mr i 1)] [] g = mAns (mEv X call 0 t_X2_wipe) (mDrop t_X2_wipe 62) [some (mr i 1)] [] (call 145 [mr i 5, mi 0] g) := (mEv_4 _ _ _ _).trans rfl
theorem e_X2_wipe_62 {X : mX} {call : Nat → List mV → mG → mR} {g : mG} {i : Nat} : mEv X call 0 t_X2_wipe (mDrop t_X2_wipe 62) [some (mr i 1)] [] g = mAns (mEv X call 0 t_X2_wipe) (mDrop t_X2_wipe 70) [some (mr i 1)] [] (call 145 [mr i 6, mi 0] g) := (mEv_4 _ _ _ _).trans rfl
theorem e_X2_wipe_70 {X : mX} {call : Nat → List mV → mG → mR} {g : mG} {i : Nat} : mEv X call 0 t_X2_wipe (mDrop t_X2_wipe 70) [some (mr i 1)] [] g = mAns (mEv X call 0 t_X2_wipe) (mDrop t_X2_wipe 78) [some (mr i 1)] [] (call 145 [mr i 7, mi 0] g) := (mEv_4 _ _ _ _).trans rfl
theorem e_X2_wipe_78 {X : mX} {call : Nat → List mV → mG → mR} {g : mG} {i : Nat} : mEv X call 0 t_X2_wipe (mDrop t_X2_wipe 78) [some (mr i 1)] [] g = some (none, g) := (mEv_1 _ _ _ _).trans rfl
noncomputable def P_X2_wipe (c : mC) : (mC) := (mBd (α := mC) (mFi 8 (mP (mP (mP (mP (mP (mP c 1 0 0) 1 9 0) 1 10 0) 1 11 0) 1 1 0) 1 2 0) 2 0) (fun c1 => (mBd (α := mC) (mFi 8 c1 3 0) (fun c2 => (mBd (α := mC) (mFi 8 c2 4 0) (fun c3 => (mBd (α := mC) (mFi 80 c3 5 0) (fun c4 => (mBd (α := mC) (mFi 10 c4 6 0) (fun c5 => (mBd (α := mC) (mFi 4 c5 7 0) (fun c6 => c6))))))))))))
theorem rr_X2_wipe (d : Nat) {X : mX} {g : mG} {i : Nat} {c : mC} : mCall mD X (d + 2) 51 [mr i 1] (mU g i c) = (wV g i) (P_X2_wipe c) := by
  refine Eq.trans (mCall_eq (d := d + 1) rfl) ?_
  show mEv X (mCall mD X (d + 1)) 0 t_X2_wipe (mDrop t_X2_wipe 0) [some (mr i 1)] [] (mU g i c) = _
  refine Eq.trans (e_X2_wipe_0) ?_
  try simp only [mU_same, mU_mU]
  refine Eq.trans (e_X2_wipe_5) ?_
  try simp only [mU_same, mU_mU]
  refine Eq.trans (e_X2_wipe_10) ?_
  try simp only [mU_same, mU_mU]
  refine Eq.trans (e_X2_wipe_15) ?_
  try simp only [mU_same, mU_mU]
  refine Eq.trans (e_X2_wipe_20) ?_
  try simp only [mU_same, mU_mU]
  refine Eq.trans (e_X2_wipe_25) ?_
  try simp only [mU_same, mU_mU]
  refine Eq.trans (e_X2_wipe_30) ?_
  try simp only [mU_same, mU_mU]
  refine mw_cV (rr_X5_fillRow_2 d) (fun c1 => ?_)
  refine Eq.trans (e_X2_wipe_38) ?_
  try simp only [mU_same, mU_mU]
  refine mw_cV (rr_X5_fillRow_3 d) (fun c2 => ?_)
  refine Eq.trans (e_X2_wipe_46) ?_
  try simp only [mU_same, mU_mU]
  refine mw_cV (rr_X5_fillRow_4 d) (fun c3 => ?_)
  refine Eq.trans (e_X2_wipe_54) ?_
  try simp only [mU_same, mU_mU]
  refine mw_cV (rr_X5_fillRow_5 d) (fun c4 => ?_)
  refine Eq.trans (e_X2_wipe_62) ?_
  try simp only [mU_same, mU_mU]
  refine mw_cV (rr_X5_fillRow_6 d) (fun c5 => ?_)
  refine Eq.trans (e_X2_wipe_70) ?_
  try simp only [mU_same, mU_mU]
  refine mw_cV (rr_X5_fillRow_7 d) (fun c6 => ?_)
  refine Eq.trans (e_X2_wipe_78) ?_
  try simp only [mU_same, mU_mU]
  all_goals rfl
theorem rr_X2_wipe_at (d : Nat) {X : mX} {g : mG} {i : Nat} : mCall mD X (d + 2) 51 [mr i 1] g = some (none, mU g i (P_X2_wipe (g i))) := by
  have h := rr_X2_wipe (X := X) d (g := g) (c := g i) (i := i)
  rw [mU_self] at h
  exact h
theorem e_X2_putMark_0 {X : mX} {call : Nat → List mV → mG → mR} {g : mG} {x1 x2 x3 : Int32} {i : Nat} : mEv X call 0 t_X2_putMark (mDrop t_X2_putMark 0) [some (mr i 1), some (mi x1), some (mi x2), some (mi x3)] [] g = mAns (mEv X call 0 t_X2_putMark) (mDrop t_X2_putMark 14) [some (mr i 1), some (mi x1), some (mi x2), some (mi x3)] [] (call 143 [mr i 5, mi ((x1 * 10) + x2), mi x3] g) := (mEv_9 _ _ _ _).trans rfl
theorem e_X2_putMark_14 {X : mX} {call : Nat → List mV → mG → mR} {g : mG} {x1 x2 x3 : Int32} {i : Nat} : mEv X call 0 t_X2_putMark (mDrop t_X2_putMark 14) [some (mr i 1), some (mi x1), some (mi x2), some (mi x3)] [] g = if x2 = 7 then mEv X call 0 t_X2_putMark (mDrop t_X2_putMark 20) [some (mr i 1), some (mi x1), some (mi x2), some (mi x3)] [] g else mEv X call 0 t_X2_putMark (mDrop t_X2_putMark 66) [some (mr i 1), some (mi x1), some (mi x2), some (mi x3)] [] g := (mEv_3 _ _ _ _).trans rfl
theorem e_X2_putMark_20 {X : mX} {call : Nat → List mV → mG → mR} {g : mG} {x1 x2 x3 : Int32} {i : Nat} : mEv X call 0 t_X2_putMark (mDrop t_X2_putMark 20) [some (mr i 1), some (mi x1), some (mi x2), some (mi x3)] [] g = if x3 = 0 then mEv X call 0 t_X2_putMark (mDrop t_X2_putMark 34) [some (mr i 1), some (mi x1), some (mi x2), some (mi x3)] [mi x1, mi (g i 1 9), mr i 1] g else mEv X call 0 t_X2_putMark (mDrop t_X2_putMark 30) [some (mr i 1), some (mi x1), some (mi x2), some (mi x3)] [mi x1, mi (g i 1 9), mr i 1] g := (mEv_6 _ _ _ _).trans rfl
theorem e_X2_putMark_34 {X : mX} {call : Nat → List mV → mG → mR} {g : mG} {x1 x2 x3 s1 s2 : Int32} {i : Nat} : mEv X call 0 t_X2_putMark (mDrop t_X2_putMark 34) [some (mr i 1), some (mi x1), some (mi x2), some (mi x3)] [mi s2, mi s1, mr i 1] g = mEv X call 0 t_X2_putMark (mDrop t_X2_putMark 35) [some (mr i 1), some (mi x1), some (mi x2), some (mi x3)] [mi 0, mi s2, mi s1, mr i 1] g := (mEv_1 _ _ _ _).trans rfl
theorem e_X2_putMark_35 {X : mX} {call : Nat → List mV → mG → mR} {g : mG} {x1 x2 x3 s1 s2 s3 : Int32} {i : Nat} : mEv X call 0 t_X2_putMark (mDrop t_X2_putMark 35) [some (mr i 1), some (mi x1), some (mi x2), some (mi x3)] [mi s3, mi s2, mi s1, mr i 1] g = mAns (mEv X call 0 t_X2_putMark) (mDrop t_X2_putMark 38) [some (mr i 1), some (mi x1), some (mi x2), some (mi x3)] [mr i 1] (call 148 [mi s1, mi s2, mi s3] g) := (mEv_1 _ _ _ _).trans rfl
theorem e_X2_putMark_38 {X : mX} {call : Nat → List mV → mG → mR} {g : mG} {x1 x2 x3 s1 : Int32} {i : Nat} : mEv X call 0 t_X2_putMark (mDrop t_X2_putMark 38) [some (mr i 1), some (mi x1), some (mi x2), some (mi x3)] [mi s1, mr i 1] g = mEv X call 0 t_X2_putMark (mDrop t_X2_putMark 41) [some (mr i 1), some (mi x1), some (mi x2), some (mi x3)] [] (mU g i (mP (g i) 1 9 s1)) := (mEv_1 _ _ _ _).trans rfl
theorem e_X2_putMark_41 {X : mX} {call : Nat → List mV → mG → mR} {g : mG} {x1 x2 x3 : Int32} {i : Nat} : mEv X call 0 t_X2_putMark (mDrop t_X2_putMark 41) [some (mr i 1), some (mi x1), some (mi x2), some (mi x3)] [] g = if x3 = 3 then mEv X call 0 t_X2_putMark (mDrop t_X2_putMark 52) [some (mr i 1), some (mi x1), some (mi x2), some (mi x3)] [mi x1, mi (g i 1 10), mr i 1] g else mEv X call 0 t_X2_putMark (mDrop t_X2_putMark 56) [some (mr i 1), some (mi x1), some (mi x2), some (mi x3)] [mi x1, mi (g i 1 10), mr i 1] g := (mEv_7 _ _ _ _).trans rfl
theorem e_X2_putMark_52 {X : mX} {call : Nat → List mV → mG → mR} {g : mG} {x1 x2 x3 s1 s2 : Int32} {i : Nat} : mEv X call 0 t_X2_putMark (mDrop t_X2_putMark 52) [some (mr i 1), some (mi x1), some (mi x2), some (mi x3)] [mi s2, mi s1, mr i 1] g = mEv X call 0 t_X2_putMark (mDrop t_X2_putMark 57) [some (mr i 1), some (mi x1), some (mi x2), some (mi x3)] [mi 1, mi s2, mi s1, mr i 1] g := (mEv_2 _ _ _ _).trans rfl
theorem e_X2_putMark_57 {X : mX} {call : Nat → List mV → mG → mR} {g : mG} {x1 x2 x3 s1 s2 s3 : Int32} {i : Nat} : mEv X call 0 t_X2_putMark (mDrop t_X2_putMark 57) [some (mr i 1), some (mi x1), some (mi x2), some (mi x3)] [mi s3, mi s2, mi s1, mr i 1] g = mAns (mEv X call 0 t_X2_putMark) (mDrop t_X2_putMark 60) [some (mr i 1), some (mi x1), some (mi x2), some (mi x3)] [mr i 1] (call 148 [mi s1, mi s2, mi s3] g) := (mEv_1 _ _ _ _).trans rfl
theorem e_X2_putMark_60 {X : mX} {call : Nat → List mV → mG → mR} {g : mG} {x1 x2 x3 s1 : Int32} {i : Nat} : mEv X call 0 t_X2_putMark (mDrop t_X2_putMark 60) [some (mr i 1), some (mi x1), some (mi x2), some (mi x3)] [mi s1, mr i 1] g = mEv X call 0 t_X2_putMark (mDrop t_X2_putMark 63) [some (mr i 1), some (mi x1), some (mi x2), some (mi x3)] [] (mU g i (mP (g i) 1 10 s1)) := (mEv_1 _ _ _ _).trans rfl
theorem e_X2_putMark_63 {X : mX} {call : Nat → List mV → mG → mR} {g : mG} {x1 x2 x3 : Int32} {i : Nat} : mEv X call 0 t_X2_putMark (mDrop t_X2_putMark 63) [some (mr i 1), some (mi x1), some (mi x2), some (mi x3)] [] g = mEv X call 0 t_X2_putMark (mDrop t_X2_putMark 92) [some (mr i 1), some (mi x1), some (mi x2), some (mi x3)] [] g := (mEv_1 _ _ _ _).trans rfl
theorem e_X2_putMark_92 {X : mX} {call : Nat → List mV → mG → mR} {g : mG} {x1 x2 x3 : Int32} {i : Nat} : mEv X call 0 t_X2_putMark (mDrop t_X2_putMark 92) [some (mr i 1), some (mi x1), some (mi x2), some (mi x3)] [] g = some (none, g) := (mEv_1 _ _ _ _).trans rfl
noncomputable def J_X2_putMark_57 (c : mC) (s1 : Int32) (s2 : Int32) (s3 : Int32) : (mC) := (mBd (α := Int32) (P_X5_withBit s1 s2 s3) (fun v1 => (mP c 1 10 v1)))
theorem rj_X2_putMark_57 (d : Nat) {X : mX} {g : mG} {i : Nat} {x1 x2 x3 s1 s2 s3 : Int32} {c : mC} : mEv X (mCall mD X (d + 2)) 0 t_X2_putMark (mDrop t_X2_putMark 57) [some (mr i 1), some (mi x1), some (mi x2), some (mi x3)] [mi s3, mi s2, mi s1, mr i 1] (mU g i c) = (wV g i) (J_X2_putMark_57 c s1 s2 s3) := by
  refine Eq.trans (e_X2_putMark_57) ?_
  try simp only [mU_same, mU_mU]
  refine mw_cI (rr_X5_withBit d) (fun v1 => ?_)
  refine Eq.trans (e_X2_putMark_60) ?_
  try simp only [mU_same, mU_mU]
  refine Eq.trans (e_X2_putMark_63) ?_
  try simp only [mU_same, mU_mU]
  refine Eq.trans (e_X2_putMark_92) ?_
  try simp only [mU_same, mU_mU]
  all_goals rfl
theorem e_X2_putMark_56 {X : mX} {call : Nat → List mV → mG → mR} {g : mG} {x1 x2 x3 s1 s2 : Int32} {i : Nat} : mEv X call 0 t_X2_putMark (mDrop t_X2_putMark 56) [some (mr i 1), some (mi x1), some (mi x2), some (mi x3)] [mi s2, mi s1, mr i 1] g = mEv X call 0 t_X2_putMark (mDrop t_X2_putMark 57) [some (mr i 1), some (mi x1), some (mi x2), some (mi x3)] [mi 0, mi s2, mi s1, mr i 1] g := (mEv_1 _ _ _ _).trans rfl
noncomputable def J_X2_putMark_35 (c : mC) (x1 : Int32) (x3 : Int32) (s1 : Int32) (s2 : Int32) (s3 : Int32) : (mC) := (mBd (α := Int32) (P_X5_withBit s1 s2 s3) (fun v1 => (if x3 = 3 then (J_X2_putMark_57 (mP c 1 9 v1) ((mP c 1 9 v1) 1 10) x1 1) else (J_X2_putMark_57 (mP c 1 9 v1) ((mP c 1 9 v1) 1 10) x1 0))))
theorem rj_X2_putMark_35 (d : Nat) {X : mX} {g : mG} {i : Nat} {x1 x2 x3 s1 s2 s3 : Int32} {c : mC} : mEv X (mCall mD X (d + 2)) 0 t_X2_putMark (mDrop t_X2_putMark 35) [some (mr i 1), some (mi x1), some (mi x2), some (mi x3)] [mi s3, mi s2, mi s1, mr i 1] (mU g i c) = (wV g i) (J_X2_putMark_35 c x1 x3 s1 s2 s3) := by
  refine Eq.trans (e_X2_putMark_35) ?_
  try simp only [mU_same, mU_mU]
  refine mw_cI (rr_X5_withBit d) (fun v1 => ?_)
  refine Eq.trans (e_X2_putMark_38) ?_
  try simp only [mU_same, mU_mU]
  refine Eq.trans (e_X2_putMark_41) ?_
  try simp only [mU_same, mU_mU]
  refine mw_ite (fun h2 => ?_) (fun h2 => ?_)
  · refine Eq.trans (e_X2_putMark_52) ?_
    try simp only [mU_same, mU_mU]
    exact rj_X2_putMark_57 d
  · refine Eq.trans (e_X2_putMark_56) ?_
    try simp only [mU_same, mU_mU]
    exact rj_X2_putMark_57 d
theorem e_X2_putMark_30 {X : mX} {call : Nat → List mV → mG → mR} {g : mG} {x1 x2 x3 s1 s2 : Int32} {i : Nat} : mEv X call 0 t_X2_putMark (mDrop t_X2_putMark 30) [some (mr i 1), some (mi x1), some (mi x2), some (mi x3)] [mi s2, mi s1, mr i 1] g = mEv X call 0 t_X2_putMark (mDrop t_X2_putMark 35) [some (mr i 1), some (mi x1), some (mi x2), some (mi x3)] [mi 1, mi s2, mi s1, mr i 1] g := (mEv_2 _ _ _ _).trans rfl
theorem e_X2_putMark_66 {X : mX} {call : Nat → List mV → mG → mR} {g : mG} {x1 x2 x3 : Int32} {i : Nat} : mEv X call 0 t_X2_putMark (mDrop t_X2_putMark 66) [some (mr i 1), some (mi x1), some (mi x2), some (mi x3)] [] g = if x2 = 5 then mEv X call 0 t_X2_putMark (mDrop t_X2_putMark 71) [some (mr i 1), some (mi x1), some (mi x2), some (mi x3)] [] g else mEv X call 0 t_X2_putMark (mDrop t_X2_putMark 92) [some (mr i 1), some (mi x1), some (mi x2), some (mi x3)] [] g := (mEv_3 _ _ _ _).trans rfl
theorem e_X2_putMark_71 {X : mX} {call : Nat → List mV → mG → mR} {g : mG} {x1 x2 x3 : Int32} {i : Nat} : mEv X call 0 t_X2_putMark (mDrop t_X2_putMark 71) [some (mr i 1), some (mi x1), some (mi x2), some (mi x3)] [] g = if x3 ≤ 0 then mEv X call 0 t_X2_putMark (mDrop t_X2_putMark 85) [some (mr i 1), some (mi x1), some (mi x2), some (mi x3)] [mi x1, mi (g i 1 11), mr i 1] g else mEv X call 0 t_X2_putMark (mDrop t_X2_putMark 81) [some (mr i 1), some (mi x1), some (mi x2), some (mi x3)] [mi x1, mi (g i 1 11), mr i 1] g := (mEv_6 _ _ _ _).trans rfl
theorem e_X2_putMark_85 {X : mX} {call : Nat → List mV → mG → mR} {g : mG} {x1 x2 x3 s1 s2 : Int32} {i : Nat} : mEv X call 0 t_X2_putMark (mDrop t_X2_putMark 85) [some (mr i 1), some (mi x1), some (mi x2), some (mi x3)] [mi s2, mi s1, mr i 1] g = mEv X call 0 t_X2_putMark (mDrop t_X2_putMark 86) [some (mr i 1), some (mi x1), some (mi x2), some (mi x3)] [mi 0, mi s2, mi s1, mr i 1] g := (mEv_1 _ _ _ _).trans rfl
theorem e_X2_putMark_86 {X : mX} {call : Nat → List mV → mG → mR} {g : mG} {x1 x2 x3 s1 s2 s3 : Int32} {i : Nat} : mEv X call 0 t_X2_putMark (mDrop t_X2_putMark 86) [some (mr i 1), some (mi x1), some (mi x2), some (mi x3)] [mi s3, mi s2, mi s1, mr i 1] g = mAns (mEv X call 0 t_X2_putMark) (mDrop t_X2_putMark 89) [some (mr i 1), some (mi x1), some (mi x2), some (mi x3)] [mr i 1] (call 148 [mi s1, mi s2, mi s3] g) := (mEv_1 _ _ _ _).trans rfl
theorem e_X2_putMark_89 {X : mX} {call : Nat → List mV → mG → mR} {g : mG} {x1 x2 x3 s1 : Int32} {i : Nat} : mEv X call 0 t_X2_putMark (mDrop t_X2_putMark 89) [some (mr i 1), some (mi x1), some (mi x2), some (mi x3)] [mi s1, mr i 1] g = mEv X call 0 t_X2_putMark (mDrop t_X2_putMark 92) [some (mr i 1), some (mi x1), some (mi x2), some (mi x3)] [] (mU g i (mP (g i) 1 11 s1)) := (mEv_1 _ _ _ _).trans rfl
noncomputable def J_X2_putMark_86 (c : mC) (s1 : Int32) (s2 : Int32) (s3 : Int32) : (mC) := (mBd (α := Int32) (P_X5_withBit s1 s2 s3) (fun v1 => (mP c 1 11 v1)))
theorem rj_X2_putMark_86 (d : Nat) {X : mX} {g : mG} {i : Nat} {x1 x2 x3 s1 s2 s3 : Int32} {c : mC} : mEv X (mCall mD X (d + 2)) 0 t_X2_putMark (mDrop t_X2_putMark 86) [some (mr i 1), some (mi x1), some (mi x2), some (mi x3)] [mi s3, mi s2, mi s1, mr i 1] (mU g i c) = (wV g i) (J_X2_putMark_86 c s1 s2 s3) := by
  refine Eq.trans (e_X2_putMark_86) ?_
  try simp only [mU_same, mU_mU]
  refine mw_cI (rr_X5_withBit d) (fun v1 => ?_)
  refine Eq.trans (e_X2_putMark_89) ?_
  try simp only [mU_same, mU_mU]
  refine Eq.trans (e_X2_putMark_92) ?_
  try simp only [mU_same, mU_mU]
  all_goals rfl
theorem e_X2_putMark_81 {X : mX} {call : Nat → List mV → mG → mR} {g : mG} {x1 x2 x3 s1 s2 : Int32} {i : Nat} : mEv X call 0 t_X2_putMark (mDrop t_X2_putMark 81) [some (mr i 1), some (mi x1), some (mi x2), some (mi x3)] [mi s2, mi s1, mr i 1] g = mEv X call 0 t_X2_putMark (mDrop t_X2_putMark 86) [some (mr i 1), some (mi x1), some (mi x2), some (mi x3)] [mi 1, mi s2, mi s1, mr i 1] g := (mEv_2 _ _ _ _).trans rfl
noncomputable def P_X2_putMark (c : mC) (x1 : Int32) (x2 : Int32) (x3 : Int32) : (mC) := (mBd (α := mC) (pt 80 c 5 ((x1 * 10) + x2) x3) (fun c1 => (if x2 = 7 then (if x3 = 0 then (J_X2_putMark_35 c1 x1 x3 (c1 1 9) x1 0) else (J_X2_putMark_35 c1 x1 x3 (c1 1 9) x1 1)) else (if x2 = 5 then (if x3 ≤ 0 then (J_X2_putMark_86 c1 (c1 1 11) x1 0) else (J_X2_putMark_86 c1 (c1 1 11) x1 1)) else c1))))
theorem rr_X2_putMark (d : Nat) {X : mX} {g : mG} {i : Nat} {x1 x2 x3 : Int32} {c : mC} : mCall mD X (d + 3) 58 [mr i 1, mi x1, mi x2, mi x3] (mU g i c) = (wV g i) (P_X2_putMark c x1 x2 x3) := by
  refine Eq.trans (mCall_eq (d := d + 2) rfl) ?_
  show mEv X (mCall mD X (d + 2)) 0 t_X2_putMark (mDrop t_X2_putMark 0) [some (mr i 1), some (mi x1), some (mi x2), some (mi x3)] [] (mU g i c) = _
  refine Eq.trans (e_X2_putMark_0) ?_
  try simp only [mU_same, mU_mU]
  refine mw_cV (rr_X5_put_5 (d + 1)) (fun c1 => ?_)
  refine Eq.trans (e_X2_putMark_14) ?_
  try simp only [mU_same, mU_mU]
  refine mw_ite (fun h5 => ?_) (fun h5 => ?_)
  · refine Eq.trans (e_X2_putMark_20) ?_
    try simp only [mU_same, mU_mU]
    refine mw_ite (fun h2 => ?_) (fun h2 => ?_)
    · refine Eq.trans (e_X2_putMark_34) ?_
      try simp only [mU_same, mU_mU]
      exact rj_X2_putMark_35 d
    · refine Eq.trans (e_X2_putMark_30) ?_
      try simp only [mU_same, mU_mU]
      exact rj_X2_putMark_35 d
  · refine Eq.trans (e_X2_putMark_66) ?_
    try simp only [mU_same, mU_mU]
    refine mw_ite (fun h4 => ?_) (fun h4 => ?_)
    · refine Eq.trans (e_X2_putMark_71) ?_
      try simp only [mU_same, mU_mU]
      refine mw_ite (fun h3 => ?_) (fun h3 => ?_)
      · refine Eq.trans (e_X2_putMark_85) ?_
        try simp only [mU_same, mU_mU]
        exact rj_X2_putMark_86 d
      · refine Eq.trans (e_X2_putMark_81) ?_
        try simp only [mU_same, mU_mU]
        exact rj_X2_putMark_86 d
    · refine Eq.trans (e_X2_putMark_92) ?_
      try simp only [mU_same, mU_mU]
      all_goals rfl
theorem rr_X2_putMark_at (d : Nat) {X : mX} {g : mG} {i : Nat} {x1 x2 x3 : Int32} : mCall mD X (d + 3) 58 [mr i 1, mi x1, mi x2, mi x3] g = some (none, mU g i (P_X2_putMark (g i) x1 x2 x3)) := by
  have h := rr_X2_putMark (X := X) d (g := g) (c := g i) (x1 := x1) (x2 := x2) (x3 := x3) (i := i)
  rw [mU_self] at h
  exact h
theorem e_X2_addPhase_0 {X : mX} {call : Nat → List mV → mG → mR} {g : mG} {x1 x2 : Int32} {i : Nat} : mEv X call 0 t_X2_addPhase (mDrop t_X2_addPhase 0) [some (mr i 1), some (mi x1), some (mi x2), none] [] g = mEv X call 0 t_X2_addPhase (mDrop t_X2_addPhase 2) [some (mr i 1), some (mi x1), some (mi x2), some (mi 0)] [] g := (mEv_2 _ _ _ _).trans rfl
theorem e_X2_addPhase_2 {X : mX} {call : Nat → List mV → mG → mR} {g : mG} {x1 x2 x3 : Int32} {i : Nat} : mEv X call 0 t_X2_addPhase (mDrop t_X2_addPhase 2) [some (mr i 1), some (mi x1), some (mi x2), some (mi x3)] [] g = if (g i 1 0) ≤ x3 then mEv X call 0 t_X2_addPhase (mDrop t_X2_addPhase 85) [some (mr i 1), some (mi x1), some (mi x2), some (mi x3)] [] g else mEv X call 0 t_X2_addPhase (mDrop t_X2_addPhase 10) [some (mr i 1), some (mi x1), some (mi x2), some (mi x3)] [] g := (mEv_4 _ _ _ _).trans rfl
theorem e_X2_addPhase_85 {X : mX} {call : Nat → List mV → mG → mR} {g : mG} {x1 x2 x3 : Int32} {i : Nat} : mEv X call 0 t_X2_addPhase (mDrop t_X2_addPhase 85) [some (mr i 1), some (mi x1), some (mi x2), some (mi x3)] [] g = mAns (mEv X call 0 t_X2_addPhase) (mDrop t_X2_addPhase 97) [some (mr i 1), some (mi x1), some (mi x2), some (mi x3)] [] (call 143 [mr i 2, mi (g i 1 0), mi x1] g) := (mEv_6 _ _ _ _).trans rfl
theorem e_X2_addPhase_97 {X : mX} {call : Nat → List mV → mG → mR} {g : mG} {x1 x2 x3 : Int32} {i : Nat} : mEv X call 0 t_X2_addPhase (mDrop t_X2_addPhase 97) [some (mr i 1), some (mi x1), some (mi x2), some (mi x3)] [] g = mAns (mEv X call 0 t_X2_addPhase) (mDrop t_X2_addPhase 109) [some (mr i 1), some (mi x1), some (mi x2), some (mi x3)] [] (call 143 [mr i 3, mi (g i 1 0), mi x2] g) := (mEv_6 _ _ _ _).trans rfl
theorem e_X2_addPhase_109 {X : mX} {call : Nat → List mV → mG → mR} {g : mG} {x1 x2 x3 : Int32} {i : Nat} : mEv X call 0 t_X2_addPhase (mDrop t_X2_addPhase 109) [some (mr i 1), some (mi x1), some (mi x2), some (mi x3)] [] g = mAns (mEv X call 0 t_X2_addPhase) (mDrop t_X2_addPhase 124) [some (mr i 1), some (mi x1), some (mi x2), some (mi x3)] [mi ((x1 * 2) + x2), mr i 7] (call 61 [mr i 1, mi x1, mi x2] g) := (mEv_11 _ _ _ _).trans rfl
theorem e_X2_addPhase_124 {X : mX} {call : Nat → List mV → mG → mR} {g : mG} {x1 x2 x3 s1 s2 : Int32} {i : Nat} : mEv X call 0 t_X2_addPhase (mDrop t_X2_addPhase 124) [some (mr i 1), some (mi x1), some (mi x2), some (mi x3)] [mi s2, mi s1, mr i 7] g = mAns (mEv X call 0 t_X2_addPhase) (mDrop t_X2_addPhase 131) [some (mr i 1), some (mi x1), some (mi x2), some (mi x3)] [mi s2, mi s1, mr i 7] (call 147 [mi (g i 1 0)] g) := (mEv_3 _ _ _ _).trans rfl
theorem e_X2_addPhase_131 {X : mX} {call : Nat → List mV → mG → mR} {g : mG} {x1 x2 x3 s1 s2 s3 : Int32} {i : Nat} : mEv X call 0 t_X2_addPhase (mDrop t_X2_addPhase 131) [some (mr i 1), some (mi x1), some (mi x2), some (mi x3)] [mi s3, mi s2, mi s1, mr i 7] g = mAns (mEv X call 0 t_X2_addPhase) (mDrop t_X2_addPhase 135) [some (mr i 1), some (mi x1), some (mi x2), some (mi x3)] [] (call 143 [mr i 7, mi s1, mi (s2 ||| s3)] g) := (mEv_2 _ _ _ _).trans rfl
theorem e_X2_addPhase_135 {X : mX} {call : Nat → List mV → mG → mR} {g : mG} {x1 x2 x3 : Int32} {i : Nat} : mEv X call 0 t_X2_addPhase (mDrop t_X2_addPhase 135) [some (mr i 1), some (mi x1), some (mi x2), some (mi x3)] [] g = mEv X call 0 t_X2_addPhase (mDrop t_X2_addPhase 137) [some (mr i 1), some (mi x1), some (mi x2), some (mi 0)] [] g := (mEv_2 _ _ _ _).trans rfl
theorem e_X2_addPhase_137 {X : mX} {call : Nat → List mV → mG → mR} {g : mG} {x1 x2 x3 : Int32} {i : Nat} : mEv X call 0 t_X2_addPhase (mDrop t_X2_addPhase 137) [some (mr i 1), some (mi x1), some (mi x2), some (mi x3)] [] g = if 10 ≤ x3 then mEv X call 0 t_X2_addPhase (mDrop t_X2_addPhase 165) [some (mr i 1), some (mi x1), some (mi x2), some (mi x3)] [] g else mEv X call 0 t_X2_addPhase (mDrop t_X2_addPhase 143) [some (mr i 1), some (mi x1), some (mi x2), some (mi x3)] [] g := (mEv_3 _ _ _ _).trans rfl
theorem e_X2_addPhase_165 {X : mX} {call : Nat → List mV → mG → mR} {g : mG} {x1 x2 x3 : Int32} {i : Nat} : mEv X call 0 t_X2_addPhase (mDrop t_X2_addPhase 165) [some (mr i 1), some (mi x1), some (mi x2), some (mi x3)] [] g = mEv X call 0 t_X2_addPhase (mDrop t_X2_addPhase 175) [some (mr i 1), some (mi x1), some (mi x2), some (mi x3)] [] (mU g i (mP (g i) 1 0 ((g i 1 0) + 1))) := (mEv_6 _ _ _ _).trans rfl
theorem e_X2_addPhase_175 {X : mX} {call : Nat → List mV → mG → mR} {g : mG} {x1 x2 x3 : Int32} {i : Nat} : mEv X call 0 t_X2_addPhase (mDrop t_X2_addPhase 175) [some (mr i 1), some (mi x1), some (mi x2), some (mi x3)] [] g = some (none, g) := (mEv_1 _ _ _ _).trans rfl
theorem e_X2_addPhase_143 {X : mX} {call : Nat → List mV → mG → mR} {g : mG} {x1 x2 x3 : Int32} {i : Nat} : mEv X call 0 t_X2_addPhase (mDrop t_X2_addPhase 143) [some (mr i 1), some (mi x1), some (mi x2), some (mi x3)] [] g = mAns (mEv X call 0 t_X2_addPhase) (mDrop t_X2_addPhase 156) [some (mr i 1), some (mi x1), some (mi x2), some (mi x3)] [mi x3, mi (g i 1 0), mr i 1] (call 142 [mr 9 29, mi x3] g) := (mEv_7 _ _ _ _).trans rfl
theorem e_X2_addPhase_156 {X : mX} {call : Nat → List mV → mG → mR} {g : mG} {x1 x2 x3 s1 s2 s3 : Int32} {i : Nat} : mEv X call 0 t_X2_addPhase (mDrop t_X2_addPhase 156) [some (mr i 1), some (mi x1), some (mi x2), some (mi x3)] [mi s3, mi s2, mi s1, mr i 1] g = mAns (mEv X call 0 t_X2_addPhase) (mDrop t_X2_addPhase 159) [some (mr i 1), some (mi x1), some (mi x2), some (mi x3)] [] (call 58 [mr i 1, mi s1, mi s2, mi s3] g) := (mEv_1 _ _ _ _).trans rfl
theorem e_X2_addPhase_159 {X : mX} {call : Nat → List mV → mG → mR} {g : mG} {x1 x2 x3 : Int32} {i : Nat} : mEv X call 0 t_X2_addPhase (mDrop t_X2_addPhase 159) [some (mr i 1), some (mi x1), some (mi x2), some (mi x3)] [] g = mEv X call 0 t_X2_addPhase (mDrop t_X2_addPhase 137) [some (mr i 1), some (mi x1), some (mi x2), some (mi (x3 + 1))] [] g := (mEv_2 _ _ _ _).trans rfl
noncomputable def B_X2_addPhase_137  : (Int32 × mC) → (Int32 × mC) ⊕ (mC) := fun s => match s with | (x3, c) => (if 10 ≤ x3 then (.inr (mP c 1 0 ((c 1 0) + 1))) else (mBd (α := Int32) (cl 10 (mRO (fun _ => 0, 0) 9 29) x3) (fun v1 => (mBd (α := mC) (P_X2_putMark c (c 1 0) x3 v1) (fun c2 => (.inl ((x3 + 1), c2)))))))
set_option maxRecDepth 100000 in
theorem tm_X2_addPhase_137  : mTm (B_X2_addPhase_137 ) := by
  refine ⟨fun s => match s with | (x3, c) => ((10 : Int32).toInt - (x3 : Int32).toInt).toNat, fun s s2 h => ?_⟩
  obtain ⟨x3, c⟩ := s
  simp only [B_X2_addPhase_137, mBd] at h
  (repeat' split at h) <;> first | (have h2 := Sum.inl.inj h; subst h2; dsimp only; exact mtm_up (by assumption)) | (cases h; done)
theorem rl_X2_addPhase_137 (d : Nat) {X : mX} {g : mG} {i : Nat} {x1 x2 x3 : Int32} {c : mC} : mEv X (mCall mD X (d + 3)) 0 t_X2_addPhase (mDrop t_X2_addPhase 137) [some (mr i 1), some (mi x1), some (mi x2), some (mi x3)] [] (mU g i c) = (wV g i) (mWh (fun _ _ => 0) B_X2_addPhase_137 (x3, c)) := by
  refine mWh_ev (B := B_X2_addPhase_137) (ev := fun s : (Int32 × mC) => match s with | (x3, c) => mEv X (mCall mD X (d + 3)) 0 t_X2_addPhase (mDrop t_X2_addPhase 137) [some (mr i 1), some (mi x1), some (mi x2), some (mi x3)] [] (mU g i c)) (w := (wV g i)) (tm_X2_addPhase_137) ?_ (x3, c)
  rintro ⟨x3, c⟩
  show mEv X (mCall mD X (d + 3)) 0 t_X2_addPhase (mDrop t_X2_addPhase 137) [some (mr i 1), some (mi x1), some (mi x2), some (mi x3)] [] (mU g i c) = wB (fun s : (Int32 × mC) => match s with | (x3, c) => mEv X (mCall mD X (d + 3)) 0 t_X2_addPhase (mDrop t_X2_addPhase 137) [some (mr i 1), some (mi x1), some (mi x2), some (mi x3)] [] (mU g i c)) (wV g i) (B_X2_addPhase_137  (x3, c))
  refine Eq.trans (e_X2_addPhase_137) ?_
  try simp only [mU_same, mU_mU]
  refine mw_ite (fun h3 => ?_) (fun h3 => ?_)
  · refine mw_inr ?_
    refine Eq.trans (e_X2_addPhase_165) ?_
    try simp only [mU_same, mU_mU]
    refine Eq.trans (e_X2_addPhase_175) ?_
    try simp only [mU_same, mU_mU]
    all_goals rfl
  · refine Eq.trans (e_X2_addPhase_143) ?_
    try simp only [mU_same, mU_mU]
    refine mw_cI (rr_X5_cell_29_at (d + 2)) (fun v1 => ?_)
    refine Eq.trans (e_X2_addPhase_156) ?_
    try simp only [mU_same, mU_mU]
    refine mw_cV (rr_X2_putMark d) (fun c2 => ?_)
    refine Eq.trans (e_X2_addPhase_159) ?_
    try simp only [mU_same, mU_mU]
    exact mw_inl rfl
theorem e_X2_addPhase_10 {X : mX} {call : Nat → List mV → mG → mR} {g : mG} {x1 x2 x3 : Int32} {i : Nat} : mEv X call 0 t_X2_addPhase (mDrop t_X2_addPhase 10) [some (mr i 1), some (mi x1), some (mi x2), some (mi x3)] [] g = mAns (mEv X call 0 t_X2_addPhase) (mDrop t_X2_addPhase 18) [some (mr i 1), some (mi x1), some (mi x2), some (mi x3)] [] (call 142 [mr i 2, mi x3] g) := (mEv_4 _ _ _ _).trans rfl
theorem e_X2_addPhase_18 {X : mX} {call : Nat → List mV → mG → mR} {g : mG} {x1 x2 x3 s0 : Int32} {i : Nat} : mEv X call 0 t_X2_addPhase (mDrop t_X2_addPhase 18) [some (mr i 1), some (mi x1), some (mi x2), some (mi x3)] [mi s0] g = if s0 = x1 then mEv X call 0 t_X2_addPhase (mDrop t_X2_addPhase 34) [some (mr i 1), some (mi x1), some (mi x2), some (mi x3)] [] g else mEv X call 0 t_X2_addPhase (mDrop t_X2_addPhase 22) [some (mr i 1), some (mi x1), some (mi x2), some (mi x3)] [] g := (mEv_2 _ _ _ _).trans rfl
theorem e_X2_addPhase_34 {X : mX} {call : Nat → List mV → mG → mR} {g : mG} {x1 x2 x3 : Int32} {i : Nat} : mEv X call 0 t_X2_addPhase (mDrop t_X2_addPhase 34) [some (mr i 1), some (mi x1), some (mi x2), some (mi x3)] [] g = mAns (mEv X call 0 t_X2_addPhase) (mDrop t_X2_addPhase 44) [some (mr i 1), some (mi x1), some (mi x2), some (mi x3)] [mi x3, mr i 4] (call 63 [mr i 1, mi x3] g) := (mEv_6 _ _ _ _).trans rfl
theorem e_X2_addPhase_44 {X : mX} {call : Nat → List mV → mG → mR} {g : mG} {x1 x2 x3 s1 s2 : Int32} {i : Nat} : mEv X call 0 t_X2_addPhase (mDrop t_X2_addPhase 44) [some (mr i 1), some (mi x1), some (mi x2), some (mi x3)] [mi s2, mi s1, mr i 4] g = mAns (mEv X call 0 t_X2_addPhase) (mDrop t_X2_addPhase 51) [some (mr i 1), some (mi x1), some (mi x2), some (mi x3)] [mi s2, mi s1, mr i 4] (call 147 [mi (g i 1 0)] g) := (mEv_3 _ _ _ _).trans rfl
theorem e_X2_addPhase_51 {X : mX} {call : Nat → List mV → mG → mR} {g : mG} {x1 x2 x3 s1 s2 s3 : Int32} {i : Nat} : mEv X call 0 t_X2_addPhase (mDrop t_X2_addPhase 51) [some (mr i 1), some (mi x1), some (mi x2), some (mi x3)] [mi s3, mi s2, mi s1, mr i 4] g = mAns (mEv X call 0 t_X2_addPhase) (mDrop t_X2_addPhase 55) [some (mr i 1), some (mi x1), some (mi x2), some (mi x3)] [] (call 143 [mr i 4, mi s1, mi (s2 ||| s3)] g) := (mEv_2 _ _ _ _).trans rfl
theorem e_X2_addPhase_55 {X : mX} {call : Nat → List mV → mG → mR} {g : mG} {x1 x2 x3 : Int32} {i : Nat} : mEv X call 0 t_X2_addPhase (mDrop t_X2_addPhase 55) [some (mr i 1), some (mi x1), some (mi x2), some (mi x3)] [] g = mAns (mEv X call 0 t_X2_addPhase) (mDrop t_X2_addPhase 71) [some (mr i 1), some (mi x1), some (mi x2), some (mi x3)] [mi (g i 1 0), mr i 4] (call 63 [mr i 1, mi (g i 1 0)] g) := (mEv_8 _ _ _ _).trans rfl
theorem e_X2_addPhase_71 {X : mX} {call : Nat → List mV → mG → mR} {g : mG} {x1 x2 x3 s1 s2 : Int32} {i : Nat} : mEv X call 0 t_X2_addPhase (mDrop t_X2_addPhase 71) [some (mr i 1), some (mi x1), some (mi x2), some (mi x3)] [mi s2, mi s1, mr i 4] g = mAns (mEv X call 0 t_X2_addPhase) (mDrop t_X2_addPhase 75) [some (mr i 1), some (mi x1), some (mi x2), some (mi x3)] [mi s2, mi s1, mr i 4] (call 147 [mi x3] g) := (mEv_2 _ _ _ _).trans rfl
theorem e_X2_addPhase_75 {X : mX} {call : Nat → List mV → mG → mR} {g : mG} {x1 x2 x3 s1 s2 s3 : Int32} {i : Nat} : mEv X call 0 t_X2_addPhase (mDrop t_X2_addPhase 75) [some (mr i 1), some (mi x1), some (mi x2), some (mi x3)] [mi s3, mi s2, mi s1, mr i 4] g = mAns (mEv X call 0 t_X2_addPhase) (mDrop t_X2_addPhase 79) [some (mr i 1), some (mi x1), some (mi x2), some (mi x3)] [] (call 143 [mr i 4, mi s1, mi (s2 ||| s3)] g) := (mEv_2 _ _ _ _).trans rfl
theorem e_X2_addPhase_79 {X : mX} {call : Nat → List mV → mG → mR} {g : mG} {x1 x2 x3 : Int32} {i : Nat} : mEv X call 0 t_X2_addPhase (mDrop t_X2_addPhase 79) [some (mr i 1), some (mi x1), some (mi x2), some (mi x3)] [] g = mEv X call 0 t_X2_addPhase (mDrop t_X2_addPhase 2) [some (mr i 1), some (mi x1), some (mi x2), some (mi (x3 + 1))] [] g := (mEv_2 _ _ _ _).trans rfl
noncomputable def J_X2_addPhase_79 (c : mC) (x1 : Int32) (x2 : Int32) (x3 : Int32) : ((Int32 × mC) ⊕ (mC)) := (.inl ((x3 + 1), c))
theorem rj_X2_addPhase_79 (d : Nat) {X : mX} {g : mG} {i : Nat} {x1 x2 x3 : Int32} {c : mC} : mEv X (mCall mD X (d + 3)) 0 t_X2_addPhase (mDrop t_X2_addPhase 79) [some (mr i 1), some (mi x1), some (mi x2), some (mi x3)] [] (mU g i c) = (wB (fun s : (Int32 × mC) => match s with | (x3, c) => mEv X (mCall mD X (d + 3)) 0 t_X2_addPhase (mDrop t_X2_addPhase 2) [some (mr i 1), some (mi x1), some (mi x2), some (mi x3)] [] (mU g i c)) (wV g i)) (J_X2_addPhase_79 c x1 x2 x3) := by
  refine Eq.trans (e_X2_addPhase_79) ?_
  try simp only [mU_same, mU_mU]
  exact mw_inl rfl
noncomputable def J_X2_addPhase_34 (c : mC) (x1 : Int32) (x2 : Int32) (x3 : Int32) : ((Int32 × mC) ⊕ (mC)) := (mBd (α := Int32) (P_X2_foesOf c x3) (fun v1 => (mBd (α := Int32) (P_X5_bit (c 1 0)) (fun v2 => (mBd (α := mC) (pt 8 c 4 x3 (v1 ||| v2)) (fun c3 => (mBd (α := Int32) (P_X2_foesOf c3 (c3 1 0)) (fun v4 => (mBd (α := Int32) (P_X5_bit x3) (fun v5 => (mBd (α := mC) (pt 8 c3 4 (c3 1 0) (v4 ||| v5)) (fun c6 => (J_X2_addPhase_79 c6 x1 x2 x3)))))))))))))
theorem rj_X2_addPhase_34 (d : Nat) {X : mX} {g : mG} {i : Nat} {x1 x2 x3 : Int32} {c : mC} : mEv X (mCall mD X (d + 3)) 0 t_X2_addPhase (mDrop t_X2_addPhase 34) [some (mr i 1), some (mi x1), some (mi x2), some (mi x3)] [] (mU g i c) = (wB (fun s : (Int32 × mC) => match s with | (x3, c) => mEv X (mCall mD X (d + 3)) 0 t_X2_addPhase (mDrop t_X2_addPhase 2) [some (mr i 1), some (mi x1), some (mi x2), some (mi x3)] [] (mU g i c)) (wV g i)) (J_X2_addPhase_34 c x1 x2 x3) := by
  refine Eq.trans (e_X2_addPhase_34) ?_
  try simp only [mU_same, mU_mU]
  refine mw_cI (rr_X2_foesOf (d + 1)) (fun v1 => ?_)
  refine Eq.trans (e_X2_addPhase_44) ?_
  try simp only [mU_same, mU_mU]
  refine mw_cI (rr_X5_bit (d + 2)) (fun v2 => ?_)
  refine Eq.trans (e_X2_addPhase_51) ?_
  try simp only [mU_same, mU_mU]
  refine mw_cV (rr_X5_put_4 (d + 2)) (fun c3 => ?_)
  refine Eq.trans (e_X2_addPhase_55) ?_
  try simp only [mU_same, mU_mU]
  refine mw_cI (rr_X2_foesOf (d + 1)) (fun v4 => ?_)
  refine Eq.trans (e_X2_addPhase_71) ?_
  try simp only [mU_same, mU_mU]
  refine mw_cI (rr_X5_bit (d + 2)) (fun v5 => ?_)
  refine Eq.trans (e_X2_addPhase_75) ?_
  try simp only [mU_same, mU_mU]
  refine mw_cV (rr_X5_put_4 (d + 2)) (fun c6 => ?_)
  exact rj_X2_addPhase_79 d
theorem e_X2_addPhase_22 {X : mX} {call : Nat → List mV → mG → mR} {g : mG} {x1 x2 x3 : Int32} {i : Nat} : mEv X call 0 t_X2_addPhase (mDrop t_X2_addPhase 22) [some (mr i 1), some (mi x1), some (mi x2), some (mi x3)] [] g = mAns (mEv X call 0 t_X2_addPhase) (mDrop t_X2_addPhase 30) [some (mr i 1), some (mi x1), some (mi x2), some (mi x3)] [] (call 142 [mr i 3, mi x3] g) := (mEv_4 _ _ _ _).trans rfl
theorem e_X2_addPhase_30 {X : mX} {call : Nat → List mV → mG → mR} {g : mG} {x1 x2 x3 s0 : Int32} {i : Nat} : mEv X call 0 t_X2_addPhase (mDrop t_X2_addPhase 30) [some (mr i 1), some (mi x1), some (mi x2), some (mi x3)] [mi s0] g = if s0 = x2 then mEv X call 0 t_X2_addPhase (mDrop t_X2_addPhase 79) [some (mr i 1), some (mi x1), some (mi x2), some (mi x3)] [] g else mEv X call 0 t_X2_addPhase (mDrop t_X2_addPhase 34) [some (mr i 1), some (mi x1), some (mi x2), some (mi x3)] [] g := (mEv_2 _ _ _ _).trans rfl
noncomputable def B_X2_addPhase_2 (x1 : Int32) (x2 : Int32) : (Int32 × mC) → (Int32 × mC) ⊕ (mC) := fun s => match s with | (x3, c) => (if (c 1 0) ≤ x3 then (.inr (mBd (α := mC) (pt 8 c 2 (c 1 0) x1) (fun c1 => (mBd (α := mC) (pt 8 c1 3 (c1 1 0) x2) (fun c2 => (mBd (α := Int32) (P_X2_partOf c2 x1 x2) (fun v3 => (mBd (α := Int32) (P_X5_bit (c2 1 0)) (fun v4 => (mBd (α := mC) (pt 4 c2 7 ((x1 * 2) + x2) (v3 ||| v4)) (fun c5 => (mWh (fun _ _ => 0) B_X2_addPhase_137 (0, c5))))))))))))) else (mBd (α := Int32) (cl 8 (c 2) x3) (fun v6 => (if v6 = x1 then (J_X2_addPhase_34 c x1 x2 x3) else (mBd (α := Int32) (cl 8 (c 3) x3) (fun v7 => (if v7 = x2 then (J_X2_addPhase_79 c x1 x2 x3) else (J_X2_addPhase_34 c x1 x2 x3))))))))
set_option maxRecDepth 100000 in
theorem tm_X2_addPhase_2 {x1 : Int32} {x2 : Int32} : mTm (B_X2_addPhase_2 x1 x2) := by
  refine ⟨fun s => match s with | (x3, c) => (((c 1 0) : Int32).toInt - (x3 : Int32).toInt).toNat, fun s s2 h => ?_⟩
  obtain ⟨x3, c⟩ := s
  simp only [B_X2_addPhase_2, J_X2_addPhase_79, mBd] at h
  (repeat' split at h) <;> first | (have h2 := Sum.inl.inj h; subst h2; dsimp only; (try rw [pt_o (by decide), pt_o (by decide)]); exact mtm_up (by assumption)) | (cases h; done)
theorem rl_X2_addPhase_2 (d : Nat) {X : mX} {g : mG} {i : Nat} {x1 x2 x3 : Int32} {c : mC} : mEv X (mCall mD X (d + 3)) 0 t_X2_addPhase (mDrop t_X2_addPhase 2) [some (mr i 1), some (mi x1), some (mi x2), some (mi x3)] [] (mU g i c) = (wV g i) (mWh (fun _ _ => 0) (B_X2_addPhase_2 x1 x2) (x3, c)) := by
  refine mWh_ev (B := (B_X2_addPhase_2 x1 x2)) (ev := fun s : (Int32 × mC) => match s with | (x3, c) => mEv X (mCall mD X (d + 3)) 0 t_X2_addPhase (mDrop t_X2_addPhase 2) [some (mr i 1), some (mi x1), some (mi x2), some (mi x3)] [] (mU g i c)) (w := (wV g i)) (tm_X2_addPhase_2) ?_ (x3, c)
  rintro ⟨x3, c⟩
  show mEv X (mCall mD X (d + 3)) 0 t_X2_addPhase (mDrop t_X2_addPhase 2) [some (mr i 1), some (mi x1), some (mi x2), some (mi x3)] [] (mU g i c) = wB (fun s : (Int32 × mC) => match s with | (x3, c) => mEv X (mCall mD X (d + 3)) 0 t_X2_addPhase (mDrop t_X2_addPhase 2) [some (mr i 1), some (mi x1), some (mi x2), some (mi x3)] [] (mU g i c)) (wV g i) (B_X2_addPhase_2 x1 x2 (x3, c))
  refine Eq.trans (e_X2_addPhase_2) ?_
  try simp only [mU_same, mU_mU]
  refine mw_ite (fun h10 => ?_) (fun h10 => ?_)
  · refine mw_inr ?_
    refine Eq.trans (e_X2_addPhase_85) ?_
    try simp only [mU_same, mU_mU]
    refine mw_cV (rr_X5_put_2 (d + 2)) (fun c1 => ?_)
    refine Eq.trans (e_X2_addPhase_97) ?_
    try simp only [mU_same, mU_mU]
    refine mw_cV (rr_X5_put_3 (d + 2)) (fun c2 => ?_)
    refine Eq.trans (e_X2_addPhase_109) ?_
    try simp only [mU_same, mU_mU]
    refine mw_cI (rr_X2_partOf (d + 2)) (fun v3 => ?_)
    refine Eq.trans (e_X2_addPhase_124) ?_
    try simp only [mU_same, mU_mU]
    refine mw_cI (rr_X5_bit (d + 2)) (fun v4 => ?_)
    refine Eq.trans (e_X2_addPhase_131) ?_
    try simp only [mU_same, mU_mU]
    refine mw_cV (rr_X5_put_7 (d + 2)) (fun c5 => ?_)
    refine Eq.trans (e_X2_addPhase_135) ?_
    try simp only [mU_same, mU_mU]
    exact rl_X2_addPhase_137 d
  · refine Eq.trans (e_X2_addPhase_10) ?_
    try simp only [mU_same, mU_mU]
    refine mw_cI (rr_X5_cell_2 (d + 2)) (fun v6 => ?_)
    refine Eq.trans (e_X2_addPhase_18) ?_
    try simp only [mU_same, mU_mU]
    refine mw_ite (fun h9 => ?_) (fun h9 => ?_)
    · exact rj_X2_addPhase_34 d
    · refine Eq.trans (e_X2_addPhase_22) ?_
      try simp only [mU_same, mU_mU]
      refine mw_cI (rr_X5_cell_3 (d + 2)) (fun v7 => ?_)
      refine Eq.trans (e_X2_addPhase_30) ?_
      try simp only [mU_same, mU_mU]
      refine mw_ite (fun h8 => ?_) (fun h8 => ?_)
      · exact rj_X2_addPhase_79 d
      · exact rj_X2_addPhase_34 d
noncomputable def P_X2_addPhase (c : mC) (x1 : Int32) (x2 : Int32) : (mC) := (mWh (fun _ _ => 0) (B_X2_addPhase_2 x1 x2) (0, c))
theorem rr_X2_addPhase (d : Nat) {X : mX} {g : mG} {i : Nat} {x1 x2 : Int32} {c : mC} : mCall mD X (d + 4) 53 [mr i 1, mi x1, mi x2] (mU g i c) = (wV g i) (P_X2_addPhase c x1 x2) := by
  refine Eq.trans (mCall_eq (d := d + 3) rfl) ?_
  show mEv X (mCall mD X (d + 3)) 0 t_X2_addPhase (mDrop t_X2_addPhase 0) [some (mr i 1), some (mi x1), some (mi x2), none] [] (mU g i c) = _
  refine Eq.trans (e_X2_addPhase_0) ?_
  try simp only [mU_same, mU_mU]
  exact rl_X2_addPhase_2 d
theorem rr_X2_addPhase_at (d : Nat) {X : mX} {g : mG} {i : Nat} {x1 x2 : Int32} : mCall mD X (d + 4) 53 [mr i 1, mi x1, mi x2] g = some (none, mU g i (P_X2_addPhase (g i) x1 x2)) := by
  have h := rr_X2_addPhase (X := X) d (g := g) (c := g i) (x1 := x1) (x2 := x2) (i := i)
  rw [mU_self] at h
  exact h
theorem e_X2_hasPhase_0 {X : mX} {call : Nat → List mV → mG → mR} {g : mG} {x1 : Int32} {i : Nat} : mEv X call 2 t_X2_hasPhase (mDrop t_X2_hasPhase 0) [some (mr i 1), some (mi x1)] [] g = if x1 < 0 then mEv X call 2 t_X2_hasPhase (mDrop t_X2_hasPhase 16) [some (mr i 1), some (mi x1)] [] g else mEv X call 2 t_X2_hasPhase (mDrop t_X2_hasPhase 4) [some (mr i 1), some (mi x1)] [] g := (mEv_2 _ _ _ _).trans rfl
theorem e_X2_hasPhase_16 {X : mX} {call : Nat → List mV → mG → mR} {g : mG} {x1 : Int32} {i : Nat} : mEv X call 2 t_X2_hasPhase (mDrop t_X2_hasPhase 16) [some (mr i 1), some (mi x1)] [] g = mEv X call 2 t_X2_hasPhase (mDrop t_X2_hasPhase 17) [some (mr i 1), some (mi x1)] [mi 0] g := (mEv_1 _ _ _ _).trans rfl
theorem e_X2_hasPhase_17 {X : mX} {call : Nat → List mV → mG → mR} {g : mG} {x1 s0 : Int32} {i : Nat} : mEv X call 2 t_X2_hasPhase (mDrop t_X2_hasPhase 17) [some (mr i 1), some (mi x1)] [mi s0] g = if (s0 : Int32) &&& 1 = s0 then some (some (mi s0), g) else none := (mEv_1 _ _ _ _).trans rfl
noncomputable def J_X2_hasPhase_16 (c : mC) : (Int32) := 0
theorem rj_X2_hasPhase_16 (d : Nat) {X : mX} {g : mG} {i : Nat} {x1 : Int32} {c : mC} : mEv X (mCall mD X (d + 0)) 2 t_X2_hasPhase (mDrop t_X2_hasPhase 16) [some (mr i 1), some (mi x1)] [] (mU g i c) = (wI g i c) (J_X2_hasPhase_16 c) := by
  refine Eq.trans (e_X2_hasPhase_16) ?_
  try simp only [mU_same, mU_mU]
  refine Eq.trans (e_X2_hasPhase_17) ?_
  try simp only [mU_same, mU_mU]
  exact if_pos (by decide)
theorem e_X2_hasPhase_4 {X : mX} {call : Nat → List mV → mG → mR} {g : mG} {x1 : Int32} {i : Nat} : mEv X call 2 t_X2_hasPhase (mDrop t_X2_hasPhase 4) [some (mr i 1), some (mi x1)] [] g = if (g i 1 0) ≤ x1 then mEv X call 2 t_X2_hasPhase (mDrop t_X2_hasPhase 16) [some (mr i 1), some (mi x1)] [] g else mEv X call 2 t_X2_hasPhase (mDrop t_X2_hasPhase 12) [some (mr i 1), some (mi x1)] [] g := (mEv_4 _ _ _ _).trans rfl
theorem e_X2_hasPhase_12 {X : mX} {call : Nat → List mV → mG → mR} {g : mG} {x1 : Int32} {i : Nat} : mEv X call 2 t_X2_hasPhase (mDrop t_X2_hasPhase 12) [some (mr i 1), some (mi x1)] [] g = mEv X call 2 t_X2_hasPhase (mDrop t_X2_hasPhase 17) [some (mr i 1), some (mi x1)] [mi 1] g := (mEv_2 _ _ _ _).trans rfl
noncomputable def P_X2_hasPhase (c : mC) (x1 : Int32) : (Int32) := (if x1 < 0 then (J_X2_hasPhase_16 c) else (if (c 1 0) ≤ x1 then (J_X2_hasPhase_16 c) else 1))
theorem rr_X2_hasPhase (d : Nat) {X : mX} {g : mG} {i : Nat} {x1 : Int32} {c : mC} : mCall mD X (d + 1) 54 [mr i 1, mi x1] (mU g i c) = (wI g i c) (P_X2_hasPhase c x1) := by
  refine Eq.trans (mCall_eq (d := d + 0) rfl) ?_
  show mEv X (mCall mD X (d + 0)) 2 t_X2_hasPhase (mDrop t_X2_hasPhase 0) [some (mr i 1), some (mi x1)] [] (mU g i c) = _
  refine Eq.trans (e_X2_hasPhase_0) ?_
  try simp only [mU_same, mU_mU]
  refine mw_ite (fun h2 => ?_) (fun h2 => ?_)
  · exact rj_X2_hasPhase_16 d
  · refine Eq.trans (e_X2_hasPhase_4) ?_
    try simp only [mU_same, mU_mU]
    refine mw_ite (fun h1 => ?_) (fun h1 => ?_)
    · exact rj_X2_hasPhase_16 d
    · refine Eq.trans (e_X2_hasPhase_12) ?_
      try simp only [mU_same, mU_mU]
      refine Eq.trans (e_X2_hasPhase_17) ?_
      try simp only [mU_same, mU_mU]
      exact if_pos (by decide)
theorem rr_X2_hasPhase_at (d : Nat) {X : mX} {g : mG} {i : Nat} {x1 : Int32} : mCall mD X (d + 1) 54 [mr i 1, mi x1] g = wN g (P_X2_hasPhase (g i) x1) := by
  have h := rr_X2_hasPhase (X := X) d (g := g) (c := g i) (x1 := x1) (i := i)
  rw [mU_self] at h
  exact h.trans (wI_self _ _ _)
theorem e_X2_allSet_0 {X : mX} {call : Nat → List mV → mG → mR} {g : mG} {i : Nat} : mEv X call 1 t_X2_allSet (mDrop t_X2_allSet 0) [some (mr i 1)] [] g = some (some (mi ((1 <<< ((g i 1 0) &&& 31)) - 1)), g) := (mEv_7 _ _ _ _).trans rfl
noncomputable def P_X2_allSet (c : mC) : (Int32) := ((1 <<< ((c 1 0) &&& 31)) - 1)
theorem rr_X2_allSet (d : Nat) {X : mX} {g : mG} {i : Nat} {c : mC} : mCall mD X (d + 1) 55 [mr i 1] (mU g i c) = (wI g i c) (P_X2_allSet c) := by
  refine Eq.trans (mCall_eq (d := d + 0) rfl) ?_
  show mEv X (mCall mD X (d + 0)) 1 t_X2_allSet (mDrop t_X2_allSet 0) [some (mr i 1)] [] (mU g i c) = _
  refine Eq.trans (e_X2_allSet_0) ?_
  try simp only [mU_same, mU_mU]
  all_goals rfl
theorem rr_X2_allSet_at (d : Nat) {X : mX} {g : mG} {i : Nat} : mCall mD X (d + 1) 55 [mr i 1] g = wN g (P_X2_allSet (g i)) := by
  have h := rr_X2_allSet (X := X) d (g := g) (c := g i) (i := i)
  rw [mU_self] at h
  exact h.trans (wI_self _ _ _)
theorem e_X2_hasAll_0 {X : mX} {call : Nat → List mV → mG → mR} {g : mG} {x1 : Int32} {i : Nat} : mEv X call 2 t_X2_hasAll (mDrop t_X2_hasAll 0) [some (mr i 1), some (mi x1)] [] g = if x1 < 0 then mEv X call 2 t_X2_hasAll (mDrop t_X2_hasAll 16) [some (mr i 1), some (mi x1)] [] g else mEv X call 2 t_X2_hasAll (mDrop t_X2_hasAll 4) [some (mr i 1), some (mi x1)] [] g := (mEv_2 _ _ _ _).trans rfl
theorem e_X2_hasAll_16 {X : mX} {call : Nat → List mV → mG → mR} {g : mG} {x1 : Int32} {i : Nat} : mEv X call 2 t_X2_hasAll (mDrop t_X2_hasAll 16) [some (mr i 1), some (mi x1)] [] g = mEv X call 2 t_X2_hasAll (mDrop t_X2_hasAll 17) [some (mr i 1), some (mi x1)] [mi 0] g := (mEv_1 _ _ _ _).trans rfl
theorem e_X2_hasAll_17 {X : mX} {call : Nat → List mV → mG → mR} {g : mG} {x1 s0 : Int32} {i : Nat} : mEv X call 2 t_X2_hasAll (mDrop t_X2_hasAll 17) [some (mr i 1), some (mi x1)] [mi s0] g = if (s0 : Int32) &&& 1 = s0 then some (some (mi s0), g) else none := (mEv_1 _ _ _ _).trans rfl
noncomputable def J_X2_hasAll_16 (c : mC) : (Int32) := 0
theorem rj_X2_hasAll_16 (d : Nat) {X : mX} {g : mG} {i : Nat} {x1 : Int32} {c : mC} : mEv X (mCall mD X (d + 1)) 2 t_X2_hasAll (mDrop t_X2_hasAll 16) [some (mr i 1), some (mi x1)] [] (mU g i c) = (wI g i c) (J_X2_hasAll_16 c) := by
  refine Eq.trans (e_X2_hasAll_16) ?_
  try simp only [mU_same, mU_mU]
  refine Eq.trans (e_X2_hasAll_17) ?_
  try simp only [mU_same, mU_mU]
  exact if_pos (by decide)
theorem e_X2_hasAll_4 {X : mX} {call : Nat → List mV → mG → mR} {g : mG} {x1 : Int32} {i : Nat} : mEv X call 2 t_X2_hasAll (mDrop t_X2_hasAll 4) [some (mr i 1), some (mi x1)] [] g = mAns (mEv X call 2 t_X2_hasAll) (mDrop t_X2_hasAll 9) [some (mr i 1), some (mi x1)] [mi x1] (call 55 [mr i 1] g) := (mEv_3 _ _ _ _).trans rfl
theorem e_X2_hasAll_9 {X : mX} {call : Nat → List mV → mG → mR} {g : mG} {x1 s0 s1 : Int32} {i : Nat} : mEv X call 2 t_X2_hasAll (mDrop t_X2_hasAll 9) [some (mr i 1), some (mi x1)] [mi s1, mi s0] g = if s1 < s0 then mEv X call 2 t_X2_hasAll (mDrop t_X2_hasAll 16) [some (mr i 1), some (mi x1)] [] g else mEv X call 2 t_X2_hasAll (mDrop t_X2_hasAll 12) [some (mr i 1), some (mi x1)] [] g := (mEv_1 _ _ _ _).trans rfl
theorem e_X2_hasAll_12 {X : mX} {call : Nat → List mV → mG → mR} {g : mG} {x1 : Int32} {i : Nat} : mEv X call 2 t_X2_hasAll (mDrop t_X2_hasAll 12) [some (mr i 1), some (mi x1)] [] g = mEv X call 2 t_X2_hasAll (mDrop t_X2_hasAll 17) [some (mr i 1), some (mi x1)] [mi 1] g := (mEv_2 _ _ _ _).trans rfl
noncomputable def P_X2_hasAll (c : mC) (x1 : Int32) : (Int32) := (if x1 < 0 then (J_X2_hasAll_16 c) else (mBd (α := Int32) (P_X2_allSet c) (fun v1 => (if v1 < x1 then (J_X2_hasAll_16 c) else 1))))
theorem rr_X2_hasAll (d : Nat) {X : mX} {g : mG} {i : Nat} {x1 : Int32} {c : mC} : mCall mD X (d + 2) 56 [mr i 1, mi x1] (mU g i c) = (wI g i c) (P_X2_hasAll c x1) := by
  refine Eq.trans (mCall_eq (d := d + 1) rfl) ?_
  show mEv X (mCall mD X (d + 1)) 2 t_X2_hasAll (mDrop t_X2_hasAll 0) [some (mr i 1), some (mi x1)] [] (mU g i c) = _
  refine Eq.trans (e_X2_hasAll_0) ?_
  try simp only [mU_same, mU_mU]
  refine mw_ite (fun h3 => ?_) (fun h3 => ?_)
  · exact rj_X2_hasAll_16 d
  · refine Eq.trans (e_X2_hasAll_4) ?_
    try simp only [mU_same, mU_mU]
    refine mw_cI (rr_X2_allSet d) (fun v1 => ?_)
    refine Eq.trans (e_X2_hasAll_9) ?_
    try simp only [mU_same, mU_mU]
    refine mw_ite (fun h2 => ?_) (fun h2 => ?_)
    · exact rj_X2_hasAll_16 d
    · refine Eq.trans (e_X2_hasAll_12) ?_
      try simp only [mU_same, mU_mU]
      refine Eq.trans (e_X2_hasAll_17) ?_
      try simp only [mU_same, mU_mU]
      exact if_pos (by decide)
theorem rr_X2_hasAll_at (d : Nat) {X : mX} {g : mG} {i : Nat} {x1 : Int32} : mCall mD X (d + 2) 56 [mr i 1, mi x1] g = wN g (P_X2_hasAll (g i) x1) := by
  have h := rr_X2_hasAll (X := X) d (g := g) (c := g i) (x1 := x1) (i := i)
  rw [mU_self] at h
  exact h.trans (wI_self _ _ _)
theorem e_X2_putBreak_0 {X : mX} {call : Nat → List mV → mG → mR} {g : mG} {x1 x2 x3 : Int32} {i : Nat} : mEv X call 0 t_X2_putBreak (mDrop t_X2_putBreak 0) [some (mr i 1), some (mi x1), some (mi x2), some (mi x3)] [] g = mAns (mEv X call 0 t_X2_putBreak) (mDrop t_X2_putBreak 13) [some (mr i 1), some (mi x1), some (mi x2), some (mi x3)] [] (call 143 [mr i 6, mi ((x1 * 5) + x2), mi x3] g) := (mEv_9 _ _ _ _).trans rfl
theorem e_X2_putBreak_13 {X : mX} {call : Nat → List mV → mG → mR} {g : mG} {x1 x2 x3 : Int32} {i : Nat} : mEv X call 0 t_X2_putBreak (mDrop t_X2_putBreak 13) [some (mr i 1), some (mi x1), some (mi x2), some (mi x3)] [] g = some (none, g) := (mEv_1 _ _ _ _).trans rfl
noncomputable def P_X2_putBreak (c : mC) (x1 : Int32) (x2 : Int32) (x3 : Int32) : (mC) := (mBd (α := mC) (pt 10 c 6 ((x1 * 5) + x2) x3) (fun c1 => c1))
theorem rr_X2_putBreak (d : Nat) {X : mX} {g : mG} {i : Nat} {x1 x2 x3 : Int32} {c : mC} : mCall mD X (d + 2) 60 [mr i 1, mi x1, mi x2, mi x3] (mU g i c) = (wV g i) (P_X2_putBreak c x1 x2 x3) := by
  refine Eq.trans (mCall_eq (d := d + 1) rfl) ?_
  show mEv X (mCall mD X (d + 1)) 0 t_X2_putBreak (mDrop t_X2_putBreak 0) [some (mr i 1), some (mi x1), some (mi x2), some (mi x3)] [] (mU g i c) = _
  refine Eq.trans (e_X2_putBreak_0) ?_
  try simp only [mU_same, mU_mU]
  refine mw_cV (rr_X5_put_6 d) (fun c1 => ?_)
  refine Eq.trans (e_X2_putBreak_13) ?_
  try simp only [mU_same, mU_mU]
  all_goals rfl
theorem rr_X2_putBreak_at (d : Nat) {X : mX} {g : mG} {i : Nat} {x1 x2 x3 : Int32} : mCall mD X (d + 2) 60 [mr i 1, mi x1, mi x2, mi x3] g = some (none, mU g i (P_X2_putBreak (g i) x1 x2 x3)) := by
  have h := rr_X2_putBreak (X := X) d (g := g) (c := g i) (x1 := x1) (x2 := x2) (x3 := x3) (i := i)
  rw [mU_self] at h
  exact h
theorem e_X2_holdsFoes_0 {X : mX} {call : Nat → List mV → mG → mR} {g : mG} {x1 : Int32} {i : Nat} : mEv X call 2 t_X2_holdsFoes (mDrop t_X2_holdsFoes 0) [some (mr i 1), some (mi x1)] [] g = mAns (mEv X call 2 t_X2_holdsFoes) (mDrop t_X2_holdsFoes 5) [some (mr i 1), some (mi x1)] [] (call 65 [mr i 1, mi x1] g) := (mEv_3 _ _ _ _).trans rfl
theorem e_X2_holdsFoes_5 {X : mX} {call : Nat → List mV → mG → mR} {g : mG} {x1 s0 : Int32} {i : Nat} : mEv X call 2 t_X2_holdsFoes (mDrop t_X2_holdsFoes 5) [some (mr i 1), some (mi x1)] [mi s0] g = if s0 = (-1) then mEv X call 2 t_X2_holdsFoes (mDrop t_X2_holdsFoes 13) [some (mr i 1), some (mi x1)] [] g else mEv X call 2 t_X2_holdsFoes (mDrop t_X2_holdsFoes 9) [some (mr i 1), some (mi x1)] [] g := (mEv_2 _ _ _ _).trans rfl
theorem e_X2_holdsFoes_13 {X : mX} {call : Nat → List mV → mG → mR} {g : mG} {x1 : Int32} {i : Nat} : mEv X call 2 t_X2_holdsFoes (mDrop t_X2_holdsFoes 13) [some (mr i 1), some (mi x1)] [] g = mEv X call 2 t_X2_holdsFoes (mDrop t_X2_holdsFoes 14) [some (mr i 1), some (mi x1)] [mi 0] g := (mEv_1 _ _ _ _).trans rfl
theorem e_X2_holdsFoes_14 {X : mX} {call : Nat → List mV → mG → mR} {g : mG} {x1 s0 : Int32} {i : Nat} : mEv X call 2 t_X2_holdsFoes (mDrop t_X2_holdsFoes 14) [some (mr i 1), some (mi x1)] [mi s0] g = if (s0 : Int32) &&& 1 = s0 then some (some (mi s0), g) else none := (mEv_1 _ _ _ _).trans rfl
theorem e_X2_holdsFoes_9 {X : mX} {call : Nat → List mV → mG → mR} {g : mG} {x1 : Int32} {i : Nat} : mEv X call 2 t_X2_holdsFoes (mDrop t_X2_holdsFoes 9) [some (mr i 1), some (mi x1)] [] g = mEv X call 2 t_X2_holdsFoes (mDrop t_X2_holdsFoes 14) [some (mr i 1), some (mi x1)] [mi 1] g := (mEv_2 _ _ _ _).trans rfl
noncomputable def P_X2_holdsFoes (c : mC) (x1 : Int32) : (Int32) := (mBd (α := Int32) (P_X2_firstWithFoe c x1) (fun v1 => (if v1 = (-1) then 0 else 1)))
theorem rr_X2_holdsFoes (d : Nat) {X : mX} {g : mG} {i : Nat} {x1 : Int32} {c : mC} : mCall mD X (d + 4) 64 [mr i 1, mi x1] (mU g i c) = (wI g i c) (P_X2_holdsFoes c x1) := by
  refine Eq.trans (mCall_eq (d := d + 3) rfl) ?_
  show mEv X (mCall mD X (d + 3)) 2 t_X2_holdsFoes (mDrop t_X2_holdsFoes 0) [some (mr i 1), some (mi x1)] [] (mU g i c) = _
  refine Eq.trans (e_X2_holdsFoes_0) ?_
  try simp only [mU_same, mU_mU]
  refine mw_cI (rr_X2_firstWithFoe d) (fun v1 => ?_)
  refine Eq.trans (e_X2_holdsFoes_5) ?_
  try simp only [mU_same, mU_mU]
  refine mw_ite (fun h2 => ?_) (fun h2 => ?_)
  · refine Eq.trans (e_X2_holdsFoes_13) ?_
    try simp only [mU_same, mU_mU]
    refine Eq.trans (e_X2_holdsFoes_14) ?_
    try simp only [mU_same, mU_mU]
    exact if_pos (by decide)
  · refine Eq.trans (e_X2_holdsFoes_9) ?_
    try simp only [mU_same, mU_mU]
    refine Eq.trans (e_X2_holdsFoes_14) ?_
    try simp only [mU_same, mU_mU]
    exact if_pos (by decide)
theorem rr_X2_holdsFoes_at (d : Nat) {X : mX} {g : mG} {i : Nat} {x1 : Int32} : mCall mD X (d + 4) 64 [mr i 1, mi x1] g = wN g (P_X2_holdsFoes (g i) x1) := by
  have h := rr_X2_holdsFoes (X := X) d (g := g) (c := g i) (x1 := x1) (i := i)
  rw [mU_self] at h
  exact h.trans (wI_self _ _ _)
theorem e_X2_isFull_0 {X : mX} {call : Nat → List mV → mG → mR} {g : mG} {x1 : Int32} {i : Nat} : mEv X call 2 t_X2_isFull (mDrop t_X2_isFull 0) [some (mr i 1), some (mi x1), none, none] [] g = mEv X call 2 t_X2_isFull (mDrop t_X2_isFull 2) [some (mr i 1), some (mi x1), some (mi 0), none] [] g := (mEv_2 _ _ _ _).trans rfl
theorem hk_X2_isFull_2 {X : mX} {call : Nat → List mV → mG → mR} {g : mG} {x1 x2 : Int32} {k3 : Option mV} {i : Nat} : mEv X call 2 t_X2_isFull (mDrop t_X2_isFull 2) [some (mr i 1), some (mi x1), some (mi x2), k3] [] g = mEv X call 2 t_X2_isFull (mDrop t_X2_isFull 2) [some (mr i 1), some (mi x1), some (mi x2), none] [] g := Eq.trans (mEv_1 _ _ _ _) (Eq.symm (Eq.trans (mEv_1 _ _ _ _) rfl))
theorem e_X2_isFull_2 {X : mX} {call : Nat → List mV → mG → mR} {g : mG} {x1 x2 : Int32} {u3 : Option mV} {i : Nat} : mEv X call 2 t_X2_isFull (mDrop t_X2_isFull 2) [some (mr i 1), some (mi x1), some (mi x2), u3] [] g = if (g i 1 0) ≤ x2 then mEv X call 2 t_X2_isFull (mDrop t_X2_isFull 43) [some (mr i 1), some (mi x1), some (mi x2), none] [] g else mEv X call 2 t_X2_isFull (mDrop t_X2_isFull 10) [some (mr i 1), some (mi x1), some (mi x2), none] [] g := (mEv_4 _ _ _ _).trans rfl
theorem e_X2_isFull_43 {X : mX} {call : Nat → List mV → mG → mR} {g : mG} {x1 x2 : Int32} {u3 : Option mV} {i : Nat} : mEv X call 2 t_X2_isFull (mDrop t_X2_isFull 43) [some (mr i 1), some (mi x1), some (mi x2), u3] [] g = if (1 : Int32) &&& 1 = 1 then some (some (mi 1), g) else none := (mEv_2 _ _ _ _).trans rfl
theorem e_X2_isFull_10 {X : mX} {call : Nat → List mV → mG → mR} {g : mG} {x1 x2 : Int32} {u3 : Option mV} {i : Nat} : mEv X call 2 t_X2_isFull (mDrop t_X2_isFull 10) [some (mr i 1), some (mi x1), some (mi x2), u3] [] g = mAns (mEv X call 2 t_X2_isFull) (mDrop t_X2_isFull 15) [some (mr i 1), some (mi x1), some (mi x2), u3] [] (call 149 [mi x1, mi x2] g) := (mEv_3 _ _ _ _).trans rfl
theorem e_X2_isFull_15 {X : mX} {call : Nat → List mV → mG → mR} {g : mG} {x1 x2 s0 : Int32} {u3 : Option mV} {i : Nat} : mEv X call 2 t_X2_isFull (mDrop t_X2_isFull 15) [some (mr i 1), some (mi x1), some (mi x2), u3] [mi s0] g = mAns (mEv X call 2 t_X2_isFull) (mDrop t_X2_isFull 22) [some (mr i 1), some (mi x1), some (mi x2), some (mi s0)] [mi s0] (call 63 [mr i 1, mi x2] g) := (mEv_5 _ _ _ _).trans rfl
theorem e_X2_isFull_22 {X : mX} {call : Nat → List mV → mG → mR} {g : mG} {x1 x2 x3 s0 s1 : Int32} {i : Nat} : mEv X call 2 t_X2_isFull (mDrop t_X2_isFull 22) [some (mr i 1), some (mi x1), some (mi x2), some (mi x3)] [mi s1, mi s0] g = if (s1 &&& x1) = 0 then mEv X call 2 t_X2_isFull (mDrop t_X2_isFull 31) [some (mr i 1), some (mi x1), some (mi x2), some (mi x3)] [mi s0] g else mEv X call 2 t_X2_isFull (mDrop t_X2_isFull 27) [some (mr i 1), some (mi x1), some (mi x2), some (mi x3)] [mi s0] g := (mEv_3 _ _ _ _).trans rfl
theorem e_X2_isFull_31 {X : mX} {call : Nat → List mV → mG → mR} {g : mG} {x1 x2 x3 s0 : Int32} {i : Nat} : mEv X call 2 t_X2_isFull (mDrop t_X2_isFull 31) [some (mr i 1), some (mi x1), some (mi x2), some (mi x3)] [mi s0] g = mEv X call 2 t_X2_isFull (mDrop t_X2_isFull 32) [some (mr i 1), some (mi x1), some (mi x2), some (mi x3)] [mi 0, mi s0] g := (mEv_1 _ _ _ _).trans rfl
theorem e_X2_isFull_32 {X : mX} {call : Nat → List mV → mG → mR} {g : mG} {x1 x2 x3 s0 s1 : Int32} {i : Nat} : mEv X call 2 t_X2_isFull (mDrop t_X2_isFull 32) [some (mr i 1), some (mi x1), some (mi x2), some (mi x3)] [mi s1, mi s0] g = if s0 = s1 then mEv X call 2 t_X2_isFull (mDrop t_X2_isFull 35) [some (mr i 1), some (mi x1), some (mi x2), some (mi x3)] [] g else mEv X call 2 t_X2_isFull (mDrop t_X2_isFull 37) [some (mr i 1), some (mi x1), some (mi x2), some (mi x3)] [] g := (mEv_1 _ _ _ _).trans rfl
theorem e_X2_isFull_35 {X : mX} {call : Nat → List mV → mG → mR} {g : mG} {x1 x2 x3 : Int32} {i : Nat} : mEv X call 2 t_X2_isFull (mDrop t_X2_isFull 35) [some (mr i 1), some (mi x1), some (mi x2), some (mi x3)] [] g = if (0 : Int32) &&& 1 = 0 then some (some (mi 0), g) else none := (mEv_2 _ _ _ _).trans rfl
theorem e_X2_isFull_37 {X : mX} {call : Nat → List mV → mG → mR} {g : mG} {x1 x2 x3 : Int32} {i : Nat} : mEv X call 2 t_X2_isFull (mDrop t_X2_isFull 37) [some (mr i 1), some (mi x1), some (mi x2), some (mi x3)] [] g = mEv X call 2 t_X2_isFull (mDrop t_X2_isFull 2) [some (mr i 1), some (mi x1), some (mi (x2 + 1)), some (mi x3)] [] g := (mEv_2 _ _ _ _).trans rfl
noncomputable def J_X2_isFull_32 (c : mC) (x1 : Int32) (x2 : Int32) (s0 : Int32) (s1 : Int32) : ((Int32) ⊕ (Int32)) := (if s0 = s1 then (.inr 0) else (.inl (x2 + 1)))
theorem rj_X2_isFull_32 (d : Nat) {X : mX} {g : mG} {i : Nat} {x1 x2 x3 s0 s1 : Int32} {c : mC} : mEv X (mCall mD X (d + 2)) 2 t_X2_isFull (mDrop t_X2_isFull 32) [some (mr i 1), some (mi x1), some (mi x2), some (mi x3)] [mi s1, mi s0] (mU g i c) = (wB (fun x2 : (Int32) => mEv X (mCall mD X (d + 2)) 2 t_X2_isFull (mDrop t_X2_isFull 2) [some (mr i 1), some (mi x1), some (mi x2), none] [] (mU g i c)) (wI g i c)) (J_X2_isFull_32 c x1 x2 s0 s1) := by
  refine Eq.trans (e_X2_isFull_32) ?_
  try simp only [mU_same, mU_mU]
  refine mw_ite (fun h1 => ?_) (fun h1 => ?_)
  · refine mw_inr ?_
    refine Eq.trans (e_X2_isFull_35) ?_
    try simp only [mU_same, mU_mU]
    exact if_pos (by decide)
  · refine Eq.trans (e_X2_isFull_37) ?_
    try simp only [mU_same, mU_mU]
    exact mw_inl hk_X2_isFull_2
theorem e_X2_isFull_27 {X : mX} {call : Nat → List mV → mG → mR} {g : mG} {x1 x2 x3 s0 : Int32} {i : Nat} : mEv X call 2 t_X2_isFull (mDrop t_X2_isFull 27) [some (mr i 1), some (mi x1), some (mi x2), some (mi x3)] [mi s0] g = mEv X call 2 t_X2_isFull (mDrop t_X2_isFull 32) [some (mr i 1), some (mi x1), some (mi x2), some (mi x3)] [mi 1, mi s0] g := (mEv_2 _ _ _ _).trans rfl
noncomputable def B_X2_isFull_2 (c : mC) (x1 : Int32) : (Int32) → (Int32) ⊕ (Int32) := fun x2 => (if (c 1 0) ≤ x2 then (.inr 1) else (mBd (α := Int32) (P_X5_inSet x1 x2) (fun v1 => (mBd (α := Int32) (P_X2_foesOf c x2) (fun v2 => (if (v2 &&& x1) = 0 then (J_X2_isFull_32 c x1 x2 v1 0) else (J_X2_isFull_32 c x1 x2 v1 1)))))))
set_option maxRecDepth 100000 in
theorem tm_X2_isFull_2 {c : mC} {x1 : Int32} : mTm (B_X2_isFull_2 c x1) := by
  refine ⟨fun x2 => (((c 1 0) : Int32).toInt - (x2 : Int32).toInt).toNat, fun s s2 h => ?_⟩
  skip
  simp only [B_X2_isFull_2, J_X2_isFull_32, mBd] at h
  (repeat' split at h) <;> first | (have h2 := Sum.inl.inj h; subst h2; dsimp only; exact mtm_up (by assumption)) | (cases h; done)
theorem rl_X2_isFull_2 (d : Nat) {X : mX} {g : mG} {i : Nat} {x1 x2 : Int32} {c : mC} : mEv X (mCall mD X (d + 2)) 2 t_X2_isFull (mDrop t_X2_isFull 2) [some (mr i 1), some (mi x1), some (mi x2), none] [] (mU g i c) = (wI g i c) (mWh 0 (B_X2_isFull_2 c x1) x2) := by
  refine mWh_ev (B := (B_X2_isFull_2 c x1)) (ev := fun x2 : (Int32) => mEv X (mCall mD X (d + 2)) 2 t_X2_isFull (mDrop t_X2_isFull 2) [some (mr i 1), some (mi x1), some (mi x2), none] [] (mU g i c)) (w := (wI g i c)) (tm_X2_isFull_2) ?_ x2
  intro x2
  show mEv X (mCall mD X (d + 2)) 2 t_X2_isFull (mDrop t_X2_isFull 2) [some (mr i 1), some (mi x1), some (mi x2), none] [] (mU g i c) = wB (fun x2 : (Int32) => mEv X (mCall mD X (d + 2)) 2 t_X2_isFull (mDrop t_X2_isFull 2) [some (mr i 1), some (mi x1), some (mi x2), none] [] (mU g i c)) (wI g i c) (B_X2_isFull_2 c x1 x2)
  refine Eq.trans (e_X2_isFull_2) ?_
  try simp only [mU_same, mU_mU]
  refine mw_ite (fun h4 => ?_) (fun h4 => ?_)
  · refine mw_inr ?_
    refine Eq.trans (e_X2_isFull_43) ?_
    try simp only [mU_same, mU_mU]
    exact if_pos (by decide)
  · refine Eq.trans (e_X2_isFull_10) ?_
    try simp only [mU_same, mU_mU]
    refine mw_cZ (rr_X5_inSet (d + 1)) rfl (fun v1 hv1 => ?_)
    refine Eq.trans (e_X2_isFull_15) ?_
    try simp only [mU_same, mU_mU]
    refine mw_cI (rr_X2_foesOf d) (fun v2 => ?_)
    refine Eq.trans (e_X2_isFull_22) ?_
    try simp only [mU_same, mU_mU]
    refine mw_ite (fun h3 => ?_) (fun h3 => ?_)
    · refine Eq.trans (e_X2_isFull_31) ?_
      try simp only [mU_same, mU_mU]
      exact rj_X2_isFull_32 d
    · refine Eq.trans (e_X2_isFull_27) ?_
      try simp only [mU_same, mU_mU]
      exact rj_X2_isFull_32 d
noncomputable def P_X2_isFull (c : mC) (x1 : Int32) : (Int32) := (mWh 0 (B_X2_isFull_2 c x1) 0)
theorem rr_X2_isFull (d : Nat) {X : mX} {g : mG} {i : Nat} {x1 : Int32} {c : mC} : mCall mD X (d + 3) 66 [mr i 1, mi x1] (mU g i c) = (wI g i c) (P_X2_isFull c x1) := by
  refine Eq.trans (mCall_eq (d := d + 2) rfl) ?_
  show mEv X (mCall mD X (d + 2)) 2 t_X2_isFull (mDrop t_X2_isFull 0) [some (mr i 1), some (mi x1), none, none] [] (mU g i c) = _
  refine Eq.trans (e_X2_isFull_0) ?_
  try simp only [mU_same, mU_mU]
  exact Eq.trans hk_X2_isFull_2 (rl_X2_isFull_2 d)
theorem rr_X2_isFull_at (d : Nat) {X : mX} {g : mG} {i : Nat} {x1 : Int32} : mCall mD X (d + 3) 66 [mr i 1, mi x1] g = wN g (P_X2_isFull (g i) x1) := by
  have h := rr_X2_isFull (X := X) d (g := g) (c := g i) (x1 := x1) (i := i)
  rw [mU_self] at h
  exact h.trans (wI_self _ _ _)
