theorem e_J9_min_7cf53_0 {X : mX} {call : Nat → List mV → mG → mR} {g : mG} {x0 x1 : Int32} : mEv X call 1 t_J9_min_7cf53 (mDrop t_J9_min_7cf53 0) [some (mi x0), some (mi x1)] [] g = if x1 < x0 then mEv X call 1 t_J9_min_7cf53 (mDrop t_J9_min_7cf53 9) [some (mi x0), some (mi x1)] [] g else mEv X call 1 t_J9_min_7cf53 (mDrop t_J9_min_7cf53 5) [some (mi x0), some (mi x1)] [] g := (mEv_3 _ _ _ _).trans rfl
theorem e_J9_min_7cf53_9 {X : mX} {call : Nat → List mV → mG → mR} {g : mG} {x0 x1 : Int32} : mEv X call 1 t_J9_min_7cf53 (mDrop t_J9_min_7cf53 9) [some (mi x0), some (mi x1)] [] g = mEv X call 1 t_J9_min_7cf53 (mDrop t_J9_min_7cf53 10) [some (mi x0), some (mi x1)] [mi x1] g := (mEv_1 _ _ _ _).trans rfl
theorem e_J9_min_7cf53_10 {X : mX} {call : Nat → List mV → mG → mR} {g : mG} {x0 x1 s0 : Int32} : mEv X call 1 t_J9_min_7cf53 (mDrop t_J9_min_7cf53 10) [some (mi x0), some (mi x1)] [mi s0] g = some (some (mi s0), g) := (mEv_1 _ _ _ _).trans rfl
theorem e_J9_min_7cf53_5 {X : mX} {call : Nat → List mV → mG → mR} {g : mG} {x0 x1 : Int32} : mEv X call 1 t_J9_min_7cf53 (mDrop t_J9_min_7cf53 5) [some (mi x0), some (mi x1)] [] g = mEv X call 1 t_J9_min_7cf53 (mDrop t_J9_min_7cf53 10) [some (mi x0), some (mi x1)] [mi x0] g := (mEv_2 _ _ _ _).trans rfl
noncomputable def P_J9_min_7cf53 (x0 : Int32) (x1 : Int32) : (Int32) := (if x1 < x0 then x1 else x0)
theorem rr_J9_min_7cf53 (d : Nat) {X : mX} {g : mG} {x0 x1 : Int32} : mCall mD X (d + 1) 278 [mi x0, mi x1] g = (wN g) (P_J9_min_7cf53 x0 x1) := by
  refine Eq.trans (mCall_eq (d := d + 0) rfl) ?_
  show mEv X (mCall mD X (d + 0)) 1 t_J9_min_7cf53 (mDrop t_J9_min_7cf53 0) [some (mi x0), some (mi x1)] [] g = _
  refine Eq.trans (e_J9_min_7cf53_0) ?_
  refine mw_ite (fun h1 => ?_) (fun h1 => ?_)
  · refine Eq.trans (e_J9_min_7cf53_9) ?_
    refine Eq.trans (e_J9_min_7cf53_10) ?_
    all_goals rfl
  · refine Eq.trans (e_J9_min_7cf53_5) ?_
    refine Eq.trans (e_J9_min_7cf53_10) ?_
    all_goals rfl
theorem e_J9_max_7cf53_0 {X : mX} {call : Nat → List mV → mG → mR} {g : mG} {x0 x1 : Int32} : mEv X call 1 t_J9_max_7cf53 (mDrop t_J9_max_7cf53 0) [some (mi x0), some (mi x1)] [] g = if x0 < x1 then mEv X call 1 t_J9_max_7cf53 (mDrop t_J9_max_7cf53 9) [some (mi x0), some (mi x1)] [] g else mEv X call 1 t_J9_max_7cf53 (mDrop t_J9_max_7cf53 5) [some (mi x0), some (mi x1)] [] g := (mEv_3 _ _ _ _).trans rfl
theorem e_J9_max_7cf53_9 {X : mX} {call : Nat → List mV → mG → mR} {g : mG} {x0 x1 : Int32} : mEv X call 1 t_J9_max_7cf53 (mDrop t_J9_max_7cf53 9) [some (mi x0), some (mi x1)] [] g = mEv X call 1 t_J9_max_7cf53 (mDrop t_J9_max_7cf53 10) [some (mi x0), some (mi x1)] [mi x1] g := (mEv_1 _ _ _ _).trans rfl
theorem e_J9_max_7cf53_10 {X : mX} {call : Nat → List mV → mG → mR} {g : mG} {x0 x1 s0 : Int32} : mEv X call 1 t_J9_max_7cf53 (mDrop t_J9_max_7cf53 10) [some (mi x0), some (mi x1)] [mi s0] g = some (some (mi s0), g) := (mEv_1 _ _ _ _).trans rfl
theorem e_J9_max_7cf53_5 {X : mX} {call : Nat → List mV → mG → mR} {g : mG} {x0 x1 : Int32} : mEv X call 1 t_J9_max_7cf53 (mDrop t_J9_max_7cf53 5) [some (mi x0), some (mi x1)] [] g = mEv X call 1 t_J9_max_7cf53 (mDrop t_J9_max_7cf53 10) [some (mi x0), some (mi x1)] [mi x0] g := (mEv_2 _ _ _ _).trans rfl
noncomputable def P_J9_max_7cf53 (x0 : Int32) (x1 : Int32) : (Int32) := (if x0 < x1 then x1 else x0)
theorem rr_J9_max_7cf53 (d : Nat) {X : mX} {g : mG} {x0 x1 : Int32} : mCall mD X (d + 1) 277 [mi x0, mi x1] g = (wN g) (P_J9_max_7cf53 x0 x1) := by
  refine Eq.trans (mCall_eq (d := d + 0) rfl) ?_
  show mEv X (mCall mD X (d + 0)) 1 t_J9_max_7cf53 (mDrop t_J9_max_7cf53 0) [some (mi x0), some (mi x1)] [] g = _
  refine Eq.trans (e_J9_max_7cf53_0) ?_
  refine mw_ite (fun h1 => ?_) (fun h1 => ?_)
  · refine Eq.trans (e_J9_max_7cf53_9) ?_
    refine Eq.trans (e_J9_max_7cf53_10) ?_
    all_goals rfl
  · refine Eq.trans (e_J9_max_7cf53_5) ?_
    refine Eq.trans (e_J9_max_7cf53_10) ?_
    all_goals rfl
/-! the leaves: rows of cells -/
section LEAF
variable {X : mX}
def cl (n : Nat) (f : Nat → Int32) (k : Int32) : Int32 := if k < 0 ∨ n ≤ k.toNatClampNeg then 0 else f k.toNatClampNeg
def pt (n : Nat) (c : mC) (j : Nat) (k v : Int32) : mC := if k < 0 ∨ n ≤ k.toNatClampNeg then c else mP c j k.toNatClampNeg v
def mCp (n : Nat) (c : mC) (j : Nat) (f : Nat → Int32) : mC := mA c j (fun q => if q < n then f q else c j q)
def mFi (n : Nat) (c : mC) (j : Nat) (v : Int32) : mC := mA c j (fun q => if q < n then v else c j q)
theorem pt_o {n : Nat} {c : mC} {j : Nat} {k v : Int32} {j' : Nat} (h : j' ≠ j) : pt n c j k v j' = c j' := by
  unfold pt
  split
  · rfl
  · exact mP_other _ _ _ _ _ h
theorem mP_o {c : mC} {j k : Nat} {v : Int32} {j' : Nat} (h : j' ≠ j) : mP c j k v j' = c j' := mP_other _ _ _ _ _ h
theorem mCp_o {n : Nat} {c : mC} {j : Nat} {f : Nat → Int32} {j' : Nat} (h : j' ≠ j) : mCp n c j f j' = c j' := mA_other _ _ _ _ h
theorem mFi_o {n : Nat} {c : mC} {j : Nat} {v : Int32} {j' : Nat} (h : j' ≠ j) : mFi n c j v j' = c j' := mA_other _ _ _ _ h
def mTs (f : Nat → Int32) : Nat → Int32
  | 0 => 0
  | n + 1 => mTs f n + f n
def mTt (n : Nat) (f : Nat → Int32) : Int32 := mTs f n
def mFm (x y : Int32) : Int32 := if 0 ≤ (x ^^^ y) then x - x / y * y else if x - x / y * y = 0 then x - x / y * y else x - x / y * y + y
theorem wI_self (g : mG) (i : Nat) (x : Int32) : wI g i (g i) x = wN g x := by
  show some (some (mi x), mU g i (g i)) = _
  rw [mU_self]
theorem wOI_self (g : mG) (i : Nat) (o : Option Int32) : wO (wI g i (g i)) o = wO (wN g) o := by
  cases o with
  | none => rfl
  | some x => exact wI_self g i x
theorem mw_cR {R : mR} {k : mK} {nx : List mT} {L : mL} {st : List mV} {x : mR} {a b : Nat} {g : mG} (h : x = some (some (mr a b), g)) (hk : k nx L (mr a b :: st) g = R) : mAns k nx L st x = R := by
  rw [h]; exact hk
theorem mtm_up {i N : Int32} (h : ¬ N ≤ i) : (N.toInt - (i + 1).toInt).toNat < (N.toInt - i.toInt).toNat := by
  have h1 : ¬ N.toInt ≤ i.toInt := fun z => h (Int32.le_iff_toInt_le.mpr z)
  have h2 := N.toInt_lt
  have h3 := i.le_toInt
  have e : (i + 1).toInt = i.toInt + 1 := by
    rw [Int32.toInt_add]
    have : (1 : Int32).toInt = 1 := by decide
    rw [this]
    simp only [Int.bmod]
    omega
  omega
theorem mle_iff {k : Int32} {n : Nat} (hn : n < 2 ^ 31) (h0 : ¬ k < 0) : Int32.ofNat n ≤ k ↔ n ≤ k.toNatClampNeg := by
  obtain ⟨q, hq, rfl⟩ := nI_of h0
  rw [nI_clamp hq]
  exact nI_leI hn hq
theorem mrng {k : Int32} {n : Nat} (hn : n < 2 ^ 31) (h0 : ¬ k < 0) (h1 : ¬ Int32.ofNat n ≤ k) : ¬ (k < 0 ∨ n ≤ k.toNatClampNeg) := fun z => z.elim h0 (fun z => h1 ((mle_iff hn h0).mpr z))
theorem rr_J9_floorMod_7cf53 (d : Nat) {g : mG} {x y : Int32} (h : y ≠ 0) : mCall mD X (d + 1) 276 [mi x, mi y] g = wN g (mFm x y) := by
  refine Eq.trans (mCall_eq (d := d) rfl) ?_
  show mEv X (mCall mD X d) 1 t_J9_floorMod_7cf53 (mDrop t_J9_floorMod_7cf53 0) [some (mi x), some (mi y), none] [] g = _
  refine Eq.trans (mEv_3 _ _ _ _) (Eq.trans (if_neg h) ?_)
  unfold mFm
  by_cases h1 : 0 ≤ (x ^^^ y)
  · rw [if_pos h1]
    refine Eq.trans (mEv_5 _ _ _ _) (Eq.trans (if_pos h1) ?_)
    exact Eq.trans (mEv_2 _ _ _ _) rfl
  · rw [if_neg h1]
    refine Eq.trans (mEv_5 _ _ _ _) (Eq.trans (if_neg h1) ?_)
    by_cases h2 : x - x / y * y = 0
    · rw [if_pos h2]
      refine Eq.trans (mEv_2 _ _ _ _) (Eq.trans (if_pos h2) ?_)
      exact Eq.trans (mEv_2 _ _ _ _) rfl
    · rw [if_neg h2]
      refine Eq.trans (mEv_2 _ _ _ _) (Eq.trans (if_neg h2) ?_)
      exact Eq.trans (mEv_4 _ _ _ _) rfl
theorem rr_X5_cell_2_at (d : Nat) {g : mG} {i : Nat} {k : Int32} : mCall mD X (d + 1) 142 [mr i 2, mi k] g = wN g (cl 8 (g i 2) k) := by
  refine Eq.trans (mCall_eq (d := d) rfl) ?_
  show mEv X (mCall mD X d) 1 t_X5_cell (mDrop t_X5_cell 0) [some (mr i 2), some (mi k)] [] g = _
  unfold cl
  by_cases h0 : k < 0
  · rw [if_pos (Or.inl h0)]
    exact Eq.trans (mEv_2 _ _ _ _) (Eq.trans (if_pos h0) (Eq.trans (mEv_2 _ _ _ _) rfl))
  · refine Eq.trans (mEv_2 _ _ _ _) (Eq.trans (if_neg h0) ?_)
    by_cases h1 : Int32.ofNat 8 ≤ k
    · rw [if_pos (Or.inr ((mle_iff (by decide) h0).mp h1))]
      exact Eq.trans (mEv_4 _ _ _ _) (Eq.trans (if_pos h1) (Eq.trans (mEv_2 _ _ _ _) rfl))
    · have h2 : ¬ (k < 0 ∨ 8 ≤ k.toNatClampNeg) := fun z => z.elim h0 (fun z => h1 ((mle_iff (by decide) h0).mpr z))
      rw [if_neg h2]
      refine Eq.trans (mEv_4 _ _ _ _) (Eq.trans (if_neg h1) ?_)
      refine Eq.trans (mEv_3 _ _ _ _) (Eq.trans (if_neg h2) ?_)
      exact Eq.trans (mEv_2 _ _ _ _) rfl
theorem rr_X5_cell_2 (d : Nat) {g : mG} {c : mC} {i : Nat} {k : Int32} : mCall mD X (d + 1) 142 [mr i 2, mi k] (mU g i c) = wI g i c (cl 8 (c 2) k) := by
  rw [rr_X5_cell_2_at, mU_same]
theorem rr_X5_cell_3_at (d : Nat) {g : mG} {i : Nat} {k : Int32} : mCall mD X (d + 1) 142 [mr i 3, mi k] g = wN g (cl 8 (g i 3) k) := by
  refine Eq.trans (mCall_eq (d := d) rfl) ?_
  show mEv X (mCall mD X d) 1 t_X5_cell (mDrop t_X5_cell 0) [some (mr i 3), some (mi k)] [] g = _
  unfold cl
  by_cases h0 : k < 0
  · rw [if_pos (Or.inl h0)]
    exact Eq.trans (mEv_2 _ _ _ _) (Eq.trans (if_pos h0) (Eq.trans (mEv_2 _ _ _ _) rfl))
  · refine Eq.trans (mEv_2 _ _ _ _) (Eq.trans (if_neg h0) ?_)
    by_cases h1 : Int32.ofNat 8 ≤ k
    · rw [if_pos (Or.inr ((mle_iff (by decide) h0).mp h1))]
      exact Eq.trans (mEv_4 _ _ _ _) (Eq.trans (if_pos h1) (Eq.trans (mEv_2 _ _ _ _) rfl))
    · have h2 : ¬ (k < 0 ∨ 8 ≤ k.toNatClampNeg) := fun z => z.elim h0 (fun z => h1 ((mle_iff (by decide) h0).mpr z))
      rw [if_neg h2]
      refine Eq.trans (mEv_4 _ _ _ _) (Eq.trans (if_neg h1) ?_)
      refine Eq.trans (mEv_3 _ _ _ _) (Eq.trans (if_neg h2) ?_)
      exact Eq.trans (mEv_2 _ _ _ _) rfl
theorem rr_X5_cell_3 (d : Nat) {g : mG} {c : mC} {i : Nat} {k : Int32} : mCall mD X (d + 1) 142 [mr i 3, mi k] (mU g i c) = wI g i c (cl 8 (c 3) k) := by
  rw [rr_X5_cell_3_at, mU_same]
theorem rr_X5_cell_4_at (d : Nat) {g : mG} {i : Nat} {k : Int32} : mCall mD X (d + 1) 142 [mr i 4, mi k] g = wN g (cl 8 (g i 4) k) := by
  refine Eq.trans (mCall_eq (d := d) rfl) ?_
  show mEv X (mCall mD X d) 1 t_X5_cell (mDrop t_X5_cell 0) [some (mr i 4), some (mi k)] [] g = _
  unfold cl
  by_cases h0 : k < 0
  · rw [if_pos (Or.inl h0)]
    exact Eq.trans (mEv_2 _ _ _ _) (Eq.trans (if_pos h0) (Eq.trans (mEv_2 _ _ _ _) rfl))
  · refine Eq.trans (mEv_2 _ _ _ _) (Eq.trans (if_neg h0) ?_)
    by_cases h1 : Int32.ofNat 8 ≤ k
    · rw [if_pos (Or.inr ((mle_iff (by decide) h0).mp h1))]
      exact Eq.trans (mEv_4 _ _ _ _) (Eq.trans (if_pos h1) (Eq.trans (mEv_2 _ _ _ _) rfl))
    · have h2 : ¬ (k < 0 ∨ 8 ≤ k.toNatClampNeg) := fun z => z.elim h0 (fun z => h1 ((mle_iff (by decide) h0).mpr z))
      rw [if_neg h2]
      refine Eq.trans (mEv_4 _ _ _ _) (Eq.trans (if_neg h1) ?_)
      refine Eq.trans (mEv_3 _ _ _ _) (Eq.trans (if_neg h2) ?_)
      exact Eq.trans (mEv_2 _ _ _ _) rfl
theorem rr_X5_cell_4 (d : Nat) {g : mG} {c : mC} {i : Nat} {k : Int32} : mCall mD X (d + 1) 142 [mr i 4, mi k] (mU g i c) = wI g i c (cl 8 (c 4) k) := by
  rw [rr_X5_cell_4_at, mU_same]
theorem rr_X5_cell_6_at (d : Nat) {g : mG} {i : Nat} {k : Int32} : mCall mD X (d + 1) 142 [mr i 6, mi k] g = wN g (cl 10 (g i 6) k) := by
  refine Eq.trans (mCall_eq (d := d) rfl) ?_
  show mEv X (mCall mD X d) 1 t_X5_cell (mDrop t_X5_cell 0) [some (mr i 6), some (mi k)] [] g = _
  unfold cl
  by_cases h0 : k < 0
  · rw [if_pos (Or.inl h0)]
    exact Eq.trans (mEv_2 _ _ _ _) (Eq.trans (if_pos h0) (Eq.trans (mEv_2 _ _ _ _) rfl))
  · refine Eq.trans (mEv_2 _ _ _ _) (Eq.trans (if_neg h0) ?_)
    by_cases h1 : Int32.ofNat 10 ≤ k
    · rw [if_pos (Or.inr ((mle_iff (by decide) h0).mp h1))]
      exact Eq.trans (mEv_4 _ _ _ _) (Eq.trans (if_pos h1) (Eq.trans (mEv_2 _ _ _ _) rfl))
    · have h2 : ¬ (k < 0 ∨ 10 ≤ k.toNatClampNeg) := fun z => z.elim h0 (fun z => h1 ((mle_iff (by decide) h0).mpr z))
      rw [if_neg h2]
      refine Eq.trans (mEv_4 _ _ _ _) (Eq.trans (if_neg h1) ?_)
      refine Eq.trans (mEv_3 _ _ _ _) (Eq.trans (if_neg h2) ?_)
      exact Eq.trans (mEv_2 _ _ _ _) rfl
theorem rr_X5_cell_6 (d : Nat) {g : mG} {c : mC} {i : Nat} {k : Int32} : mCall mD X (d + 1) 142 [mr i 6, mi k] (mU g i c) = wI g i c (cl 10 (c 6) k) := by
  rw [rr_X5_cell_6_at, mU_same]
theorem rr_X5_cell_11_at (d : Nat) {g : mG} {i : Nat} {k : Int32} : mCall mD X (d + 1) 142 [mr i 11, mi k] g = wN g (cl 32 (g i 11) k) := by
  refine Eq.trans (mCall_eq (d := d) rfl) ?_
  show mEv X (mCall mD X d) 1 t_X5_cell (mDrop t_X5_cell 0) [some (mr i 11), some (mi k)] [] g = _
  unfold cl
  by_cases h0 : k < 0
  · rw [if_pos (Or.inl h0)]
    exact Eq.trans (mEv_2 _ _ _ _) (Eq.trans (if_pos h0) (Eq.trans (mEv_2 _ _ _ _) rfl))
  · refine Eq.trans (mEv_2 _ _ _ _) (Eq.trans (if_neg h0) ?_)
    by_cases h1 : Int32.ofNat 32 ≤ k
    · rw [if_pos (Or.inr ((mle_iff (by decide) h0).mp h1))]
      exact Eq.trans (mEv_4 _ _ _ _) (Eq.trans (if_pos h1) (Eq.trans (mEv_2 _ _ _ _) rfl))
    · have h2 : ¬ (k < 0 ∨ 32 ≤ k.toNatClampNeg) := fun z => z.elim h0 (fun z => h1 ((mle_iff (by decide) h0).mpr z))
      rw [if_neg h2]
      refine Eq.trans (mEv_4 _ _ _ _) (Eq.trans (if_neg h1) ?_)
      refine Eq.trans (mEv_3 _ _ _ _) (Eq.trans (if_neg h2) ?_)
      exact Eq.trans (mEv_2 _ _ _ _) rfl
theorem rr_X5_cell_11 (d : Nat) {g : mG} {c : mC} {i : Nat} {k : Int32} : mCall mD X (d + 1) 142 [mr i 11, mi k] (mU g i c) = wI g i c (cl 32 (c 11) k) := by
  rw [rr_X5_cell_11_at, mU_same]
theorem rr_X5_cell_12_at (d : Nat) {g : mG} {i : Nat} {k : Int32} : mCall mD X (d + 1) 142 [mr i 12, mi k] g = wN g (cl 32 (g i 12) k) := by
  refine Eq.trans (mCall_eq (d := d) rfl) ?_
  show mEv X (mCall mD X d) 1 t_X5_cell (mDrop t_X5_cell 0) [some (mr i 12), some (mi k)] [] g = _
  unfold cl
  by_cases h0 : k < 0
  · rw [if_pos (Or.inl h0)]
    exact Eq.trans (mEv_2 _ _ _ _) (Eq.trans (if_pos h0) (Eq.trans (mEv_2 _ _ _ _) rfl))
  · refine Eq.trans (mEv_2 _ _ _ _) (Eq.trans (if_neg h0) ?_)
    by_cases h1 : Int32.ofNat 32 ≤ k
    · rw [if_pos (Or.inr ((mle_iff (by decide) h0).mp h1))]
      exact Eq.trans (mEv_4 _ _ _ _) (Eq.trans (if_pos h1) (Eq.trans (mEv_2 _ _ _ _) rfl))
    · have h2 : ¬ (k < 0 ∨ 32 ≤ k.toNatClampNeg) := fun z => z.elim h0 (fun z => h1 ((mle_iff (by decide) h0).mpr z))
      rw [if_neg h2]
      refine Eq.trans (mEv_4 _ _ _ _) (Eq.trans (if_neg h1) ?_)
      refine Eq.trans (mEv_3 _ _ _ _) (Eq.trans (if_neg h2) ?_)
      exact Eq.trans (mEv_2 _ _ _ _) rfl
theorem rr_X5_cell_12 (d : Nat) {g : mG} {c : mC} {i : Nat} {k : Int32} : mCall mD X (d + 1) 142 [mr i 12, mi k] (mU g i c) = wI g i c (cl 32 (c 12) k) := by
  rw [rr_X5_cell_12_at, mU_same]
theorem rr_X5_cell_13_at (d : Nat) {g : mG} {i : Nat} {k : Int32} : mCall mD X (d + 1) 142 [mr i 13, mi k] g = wN g (cl 32 (g i 13) k) := by
  refine Eq.trans (mCall_eq (d := d) rfl) ?_
  show mEv X (mCall mD X d) 1 t_X5_cell (mDrop t_X5_cell 0) [some (mr i 13), some (mi k)] [] g = _
  unfold cl
  by_cases h0 : k < 0
  · rw [if_pos (Or.inl h0)]
    exact Eq.trans (mEv_2 _ _ _ _) (Eq.trans (if_pos h0) (Eq.trans (mEv_2 _ _ _ _) rfl))
  · refine Eq.trans (mEv_2 _ _ _ _) (Eq.trans (if_neg h0) ?_)
    by_cases h1 : Int32.ofNat 32 ≤ k
    · rw [if_pos (Or.inr ((mle_iff (by decide) h0).mp h1))]
      exact Eq.trans (mEv_4 _ _ _ _) (Eq.trans (if_pos h1) (Eq.trans (mEv_2 _ _ _ _) rfl))
    · have h2 : ¬ (k < 0 ∨ 32 ≤ k.toNatClampNeg) := fun z => z.elim h0 (fun z => h1 ((mle_iff (by decide) h0).mpr z))
      rw [if_neg h2]
      refine Eq.trans (mEv_4 _ _ _ _) (Eq.trans (if_neg h1) ?_)
      refine Eq.trans (mEv_3 _ _ _ _) (Eq.trans (if_neg h2) ?_)
      exact Eq.trans (mEv_2 _ _ _ _) rfl
theorem rr_X5_cell_13 (d : Nat) {g : mG} {c : mC} {i : Nat} {k : Int32} : mCall mD X (d + 1) 142 [mr i 13, mi k] (mU g i c) = wI g i c (cl 32 (c 13) k) := by
  rw [rr_X5_cell_13_at, mU_same]
theorem rr_X5_cell_14_at (d : Nat) {g : mG} {i : Nat} {k : Int32} : mCall mD X (d + 1) 142 [mr i 14, mi k] g = wN g (cl 8 (g i 14) k) := by
  refine Eq.trans (mCall_eq (d := d) rfl) ?_
  show mEv X (mCall mD X d) 1 t_X5_cell (mDrop t_X5_cell 0) [some (mr i 14), some (mi k)] [] g = _
  unfold cl
  by_cases h0 : k < 0
  · rw [if_pos (Or.inl h0)]
    exact Eq.trans (mEv_2 _ _ _ _) (Eq.trans (if_pos h0) (Eq.trans (mEv_2 _ _ _ _) rfl))
  · refine Eq.trans (mEv_2 _ _ _ _) (Eq.trans (if_neg h0) ?_)
    by_cases h1 : Int32.ofNat 8 ≤ k
    · rw [if_pos (Or.inr ((mle_iff (by decide) h0).mp h1))]
      exact Eq.trans (mEv_4 _ _ _ _) (Eq.trans (if_pos h1) (Eq.trans (mEv_2 _ _ _ _) rfl))
    · have h2 : ¬ (k < 0 ∨ 8 ≤ k.toNatClampNeg) := fun z => z.elim h0 (fun z => h1 ((mle_iff (by decide) h0).mpr z))
      rw [if_neg h2]
      refine Eq.trans (mEv_4 _ _ _ _) (Eq.trans (if_neg h1) ?_)
      refine Eq.trans (mEv_3 _ _ _ _) (Eq.trans (if_neg h2) ?_)
      exact Eq.trans (mEv_2 _ _ _ _) rfl
theorem rr_X5_cell_14 (d : Nat) {g : mG} {c : mC} {i : Nat} {k : Int32} : mCall mD X (d + 1) 142 [mr i 14, mi k] (mU g i c) = wI g i c (cl 8 (c 14) k) := by
  rw [rr_X5_cell_14_at, mU_same]
theorem rr_X5_cell_15_at (d : Nat) {g : mG} {i : Nat} {k : Int32} : mCall mD X (d + 1) 142 [mr i 15, mi k] g = wN g (cl 8 (g i 15) k) := by
  refine Eq.trans (mCall_eq (d := d) rfl) ?_
  show mEv X (mCall mD X d) 1 t_X5_cell (mDrop t_X5_cell 0) [some (mr i 15), some (mi k)] [] g = _
  unfold cl
  by_cases h0 : k < 0
  · rw [if_pos (Or.inl h0)]
    exact Eq.trans (mEv_2 _ _ _ _) (Eq.trans (if_pos h0) (Eq.trans (mEv_2 _ _ _ _) rfl))
  · refine Eq.trans (mEv_2 _ _ _ _) (Eq.trans (if_neg h0) ?_)
    by_cases h1 : Int32.ofNat 8 ≤ k
    · rw [if_pos (Or.inr ((mle_iff (by decide) h0).mp h1))]
      exact Eq.trans (mEv_4 _ _ _ _) (Eq.trans (if_pos h1) (Eq.trans (mEv_2 _ _ _ _) rfl))
    · have h2 : ¬ (k < 0 ∨ 8 ≤ k.toNatClampNeg) := fun z => z.elim h0 (fun z => h1 ((mle_iff (by decide) h0).mpr z))
      rw [if_neg h2]
      refine Eq.trans (mEv_4 _ _ _ _) (Eq.trans (if_neg h1) ?_)
      refine Eq.trans (mEv_3 _ _ _ _) (Eq.trans (if_neg h2) ?_)
      exact Eq.trans (mEv_2 _ _ _ _) rfl
theorem rr_X5_cell_15 (d : Nat) {g : mG} {c : mC} {i : Nat} {k : Int32} : mCall mD X (d + 1) 142 [mr i 15, mi k] (mU g i c) = wI g i c (cl 8 (c 15) k) := by
  rw [rr_X5_cell_15_at, mU_same]
theorem rr_X5_cell_27_at (d : Nat) {g : mG} {k : Int32} : mCall mD X (d + 1) 142 [mr 9 27, mi k] g = wN g (cl 10 (mRO X 9 27) k) := by
  refine Eq.trans (mCall_eq (d := d) rfl) ?_
  show mEv X (mCall mD X d) 1 t_X5_cell (mDrop t_X5_cell 0) [some (mr 9 27), some (mi k)] [] g = _
  unfold cl
  by_cases h0 : k < 0
  · rw [if_pos (Or.inl h0)]
    exact Eq.trans (mEv_2 _ _ _ _) (Eq.trans (if_pos h0) (Eq.trans (mEv_2 _ _ _ _) rfl))
  · refine Eq.trans (mEv_2 _ _ _ _) (Eq.trans (if_neg h0) ?_)
    by_cases h1 : Int32.ofNat 10 ≤ k
    · rw [if_pos (Or.inr ((mle_iff (by decide) h0).mp h1))]
      exact Eq.trans (mEv_4 _ _ _ _) (Eq.trans (if_pos h1) (Eq.trans (mEv_2 _ _ _ _) rfl))
    · have h2 : ¬ (k < 0 ∨ 10 ≤ k.toNatClampNeg) := fun z => z.elim h0 (fun z => h1 ((mle_iff (by decide) h0).mpr z))
      rw [if_neg h2]
      refine Eq.trans (mEv_4 _ _ _ _) (Eq.trans (if_neg h1) ?_)
      refine Eq.trans (mEv_3 _ _ _ _) (Eq.trans (if_neg h2) ?_)
      exact Eq.trans (mEv_2 _ _ _ _) rfl
theorem rr_X5_cell_28_at (d : Nat) {g : mG} {k : Int32} : mCall mD X (d + 1) 142 [mr 9 28, mi k] g = wN g (cl 10 (mRO X 9 28) k) := by
  refine Eq.trans (mCall_eq (d := d) rfl) ?_
  show mEv X (mCall mD X d) 1 t_X5_cell (mDrop t_X5_cell 0) [some (mr 9 28), some (mi k)] [] g = _
  unfold cl
  by_cases h0 : k < 0
  · rw [if_pos (Or.inl h0)]
    exact Eq.trans (mEv_2 _ _ _ _) (Eq.trans (if_pos h0) (Eq.trans (mEv_2 _ _ _ _) rfl))
  · refine Eq.trans (mEv_2 _ _ _ _) (Eq.trans (if_neg h0) ?_)
    by_cases h1 : Int32.ofNat 10 ≤ k
    · rw [if_pos (Or.inr ((mle_iff (by decide) h0).mp h1))]
      exact Eq.trans (mEv_4 _ _ _ _) (Eq.trans (if_pos h1) (Eq.trans (mEv_2 _ _ _ _) rfl))
    · have h2 : ¬ (k < 0 ∨ 10 ≤ k.toNatClampNeg) := fun z => z.elim h0 (fun z => h1 ((mle_iff (by decide) h0).mpr z))
      rw [if_neg h2]
      refine Eq.trans (mEv_4 _ _ _ _) (Eq.trans (if_neg h1) ?_)
      refine Eq.trans (mEv_3 _ _ _ _) (Eq.trans (if_neg h2) ?_)
      exact Eq.trans (mEv_2 _ _ _ _) rfl
theorem rr_X5_cell_29_at (d : Nat) {g : mG} {k : Int32} : mCall mD X (d + 1) 142 [mr 9 29, mi k] g = wN g (cl 10 (mRO X 9 29) k) := by
  refine Eq.trans (mCall_eq (d := d) rfl) ?_
  show mEv X (mCall mD X d) 1 t_X5_cell (mDrop t_X5_cell 0) [some (mr 9 29), some (mi k)] [] g = _
  unfold cl
  by_cases h0 : k < 0
  · rw [if_pos (Or.inl h0)]
    exact Eq.trans (mEv_2 _ _ _ _) (Eq.trans (if_pos h0) (Eq.trans (mEv_2 _ _ _ _) rfl))
  · refine Eq.trans (mEv_2 _ _ _ _) (Eq.trans (if_neg h0) ?_)
    by_cases h1 : Int32.ofNat 10 ≤ k
    · rw [if_pos (Or.inr ((mle_iff (by decide) h0).mp h1))]
      exact Eq.trans (mEv_4 _ _ _ _) (Eq.trans (if_pos h1) (Eq.trans (mEv_2 _ _ _ _) rfl))
    · have h2 : ¬ (k < 0 ∨ 10 ≤ k.toNatClampNeg) := fun z => z.elim h0 (fun z => h1 ((mle_iff (by decide) h0).mpr z))
      rw [if_neg h2]
      refine Eq.trans (mEv_4 _ _ _ _) (Eq.trans (if_neg h1) ?_)
      refine Eq.trans (mEv_3 _ _ _ _) (Eq.trans (if_neg h2) ?_)
      exact Eq.trans (mEv_2 _ _ _ _) rfl
theorem rr_X5_put_2 (d : Nat) {g : mG} {c : mC} {i : Nat} {k v : Int32} : mCall mD X (d + 1) 143 [mr i 2, mi k, mi v] (mU g i c) = wV g i (pt 8 c 2 k v) := by
  refine Eq.trans (mCall_eq (d := d) rfl) ?_
  show mEv X (mCall mD X d) 0 t_X5_put (mDrop t_X5_put 0) [some (mr i 2), some (mi k), some (mi v)] [] (mU g i c) = _
  unfold pt
  by_cases h0 : k < 0
  · rw [if_pos (Or.inl h0)]
    exact Eq.trans (mEv_2 _ _ _ _) (Eq.trans (if_pos h0) (Eq.trans (mEv_1 _ _ _ _) rfl))
  · refine Eq.trans (mEv_2 _ _ _ _) (Eq.trans (if_neg h0) ?_)
    by_cases h1 : Int32.ofNat 8 ≤ k
    · rw [if_pos (Or.inr ((mle_iff (by decide) h0).mp h1))]
      exact Eq.trans (mEv_4 _ _ _ _) (Eq.trans (if_pos h1) (Eq.trans (mEv_1 _ _ _ _) rfl))
    · have h2 : ¬ (k < 0 ∨ 8 ≤ k.toNatClampNeg) := fun z => z.elim h0 (fun z => h1 ((mle_iff (by decide) h0).mpr z))
      rw [if_neg h2]
      refine Eq.trans (mEv_4 _ _ _ _) (Eq.trans (if_neg h1) ?_)
      refine Eq.trans (mEv_4 _ _ _ _) (Eq.trans (if_neg h2) ?_)
      refine Eq.trans (mEv_1 _ _ _ _) ?_
      show some (none, mU (mU g i c) i (mP (mU g i c i) 2 k.toNatClampNeg v)) = _
      rw [mU_same, mU_mU]
theorem rr_X5_put_3 (d : Nat) {g : mG} {c : mC} {i : Nat} {k v : Int32} : mCall mD X (d + 1) 143 [mr i 3, mi k, mi v] (mU g i c) = wV g i (pt 8 c 3 k v) := by
  refine Eq.trans (mCall_eq (d := d) rfl) ?_
  show mEv X (mCall mD X d) 0 t_X5_put (mDrop t_X5_put 0) [some (mr i 3), some (mi k), some (mi v)] [] (mU g i c) = _
  unfold pt
  by_cases h0 : k < 0
  · rw [if_pos (Or.inl h0)]
    exact Eq.trans (mEv_2 _ _ _ _) (Eq.trans (if_pos h0) (Eq.trans (mEv_1 _ _ _ _) rfl))
  · refine Eq.trans (mEv_2 _ _ _ _) (Eq.trans (if_neg h0) ?_)
    by_cases h1 : Int32.ofNat 8 ≤ k
    · rw [if_pos (Or.inr ((mle_iff (by decide) h0).mp h1))]
      exact Eq.trans (mEv_4 _ _ _ _) (Eq.trans (if_pos h1) (Eq.trans (mEv_1 _ _ _ _) rfl))
    · have h2 : ¬ (k < 0 ∨ 8 ≤ k.toNatClampNeg) := fun z => z.elim h0 (fun z => h1 ((mle_iff (by decide) h0).mpr z))
      rw [if_neg h2]
      refine Eq.trans (mEv_4 _ _ _ _) (Eq.trans (if_neg h1) ?_)
      refine Eq.trans (mEv_4 _ _ _ _) (Eq.trans (if_neg h2) ?_)
      refine Eq.trans (mEv_1 _ _ _ _) ?_
      show some (none, mU (mU g i c) i (mP (mU g i c i) 3 k.toNatClampNeg v)) = _
      rw [mU_same, mU_mU]
theorem rr_X5_put_4 (d : Nat) {g : mG} {c : mC} {i : Nat} {k v : Int32} : mCall mD X (d + 1) 143 [mr i 4, mi k, mi v] (mU g i c) = wV g i (pt 8 c 4 k v) := by
  refine Eq.trans (mCall_eq (d := d) rfl) ?_
  show mEv X (mCall mD X d) 0 t_X5_put (mDrop t_X5_put 0) [some (mr i 4), some (mi k), some (mi v)] [] (mU g i c) = _
  unfold pt
  by_cases h0 : k < 0
  · rw [if_pos (Or.inl h0)]
    exact Eq.trans (mEv_2 _ _ _ _) (Eq.trans (if_pos h0) (Eq.trans (mEv_1 _ _ _ _) rfl))
  · refine Eq.trans (mEv_2 _ _ _ _) (Eq.trans (if_neg h0) ?_)
    by_cases h1 : Int32.ofNat 8 ≤ k
    · rw [if_pos (Or.inr ((mle_iff (by decide) h0).mp h1))]
      exact Eq.trans (mEv_4 _ _ _ _) (Eq.trans (if_pos h1) (Eq.trans (mEv_1 _ _ _ _) rfl))
    · have h2 : ¬ (k < 0 ∨ 8 ≤ k.toNatClampNeg) := fun z => z.elim h0 (fun z => h1 ((mle_iff (by decide) h0).mpr z))
      rw [if_neg h2]
      refine Eq.trans (mEv_4 _ _ _ _) (Eq.trans (if_neg h1) ?_)
      refine Eq.trans (mEv_4 _ _ _ _) (Eq.trans (if_neg h2) ?_)
      refine Eq.trans (mEv_1 _ _ _ _) ?_
      show some (none, mU (mU g i c) i (mP (mU g i c i) 4 k.toNatClampNeg v)) = _
      rw [mU_same, mU_mU]
theorem rr_X5_put_5 (d : Nat) {g : mG} {c : mC} {i : Nat} {k v : Int32} : mCall mD X (d + 1) 143 [mr i 5, mi k, mi v] (mU g i c) = wV g i (pt 80 c 5 k v) := by
  refine Eq.trans (mCall_eq (d := d) rfl) ?_
  show mEv X (mCall mD X d) 0 t_X5_put (mDrop t_X5_put 0) [some (mr i 5), some (mi k), some (mi v)] [] (mU g i c) = _
  unfold pt
  by_cases h0 : k < 0
  · rw [if_pos (Or.inl h0)]
    exact Eq.trans (mEv_2 _ _ _ _) (Eq.trans (if_pos h0) (Eq.trans (mEv_1 _ _ _ _) rfl))
  · refine Eq.trans (mEv_2 _ _ _ _) (Eq.trans (if_neg h0) ?_)
    by_cases h1 : Int32.ofNat 80 ≤ k
    · rw [if_pos (Or.inr ((mle_iff (by decide) h0).mp h1))]
      exact Eq.trans (mEv_4 _ _ _ _) (Eq.trans (if_pos h1) (Eq.trans (mEv_1 _ _ _ _) rfl))
    · have h2 : ¬ (k < 0 ∨ 80 ≤ k.toNatClampNeg) := fun z => z.elim h0 (fun z => h1 ((mle_iff (by decide) h0).mpr z))
      rw [if_neg h2]
      refine Eq.trans (mEv_4 _ _ _ _) (Eq.trans (if_neg h1) ?_)
      refine Eq.trans (mEv_4 _ _ _ _) (Eq.trans (if_neg h2) ?_)
      refine Eq.trans (mEv_1 _ _ _ _) ?_
      show some (none, mU (mU g i c) i (mP (mU g i c i) 5 k.toNatClampNeg v)) = _
      rw [mU_same, mU_mU]
theorem rr_X5_put_6 (d : Nat) {g : mG} {c : mC} {i : Nat} {k v : Int32} : mCall mD X (d + 1) 143 [mr i 6, mi k, mi v] (mU g i c) = wV g i (pt 10 c 6 k v) := by
  refine Eq.trans (mCall_eq (d := d) rfl) ?_
  show mEv X (mCall mD X d) 0 t_X5_put (mDrop t_X5_put 0) [some (mr i 6), some (mi k), some (mi v)] [] (mU g i c) = _
  unfold pt
  by_cases h0 : k < 0
  · rw [if_pos (Or.inl h0)]
    exact Eq.trans (mEv_2 _ _ _ _) (Eq.trans (if_pos h0) (Eq.trans (mEv_1 _ _ _ _) rfl))
  · refine Eq.trans (mEv_2 _ _ _ _) (Eq.trans (if_neg h0) ?_)
    by_cases h1 : Int32.ofNat 10 ≤ k
    · rw [if_pos (Or.inr ((mle_iff (by decide) h0).mp h1))]
      exact Eq.trans (mEv_4 _ _ _ _) (Eq.trans (if_pos h1) (Eq.trans (mEv_1 _ _ _ _) rfl))
    · have h2 : ¬ (k < 0 ∨ 10 ≤ k.toNatClampNeg) := fun z => z.elim h0 (fun z => h1 ((mle_iff (by decide) h0).mpr z))
      rw [if_neg h2]
      refine Eq.trans (mEv_4 _ _ _ _) (Eq.trans (if_neg h1) ?_)
      refine Eq.trans (mEv_4 _ _ _ _) (Eq.trans (if_neg h2) ?_)
      refine Eq.trans (mEv_1 _ _ _ _) ?_
      show some (none, mU (mU g i c) i (mP (mU g i c i) 6 k.toNatClampNeg v)) = _
      rw [mU_same, mU_mU]
theorem rr_X5_put_7 (d : Nat) {g : mG} {c : mC} {i : Nat} {k v : Int32} : mCall mD X (d + 1) 143 [mr i 7, mi k, mi v] (mU g i c) = wV g i (pt 4 c 7 k v) := by
  refine Eq.trans (mCall_eq (d := d) rfl) ?_
  show mEv X (mCall mD X d) 0 t_X5_put (mDrop t_X5_put 0) [some (mr i 7), some (mi k), some (mi v)] [] (mU g i c) = _
  unfold pt
  by_cases h0 : k < 0
  · rw [if_pos (Or.inl h0)]
    exact Eq.trans (mEv_2 _ _ _ _) (Eq.trans (if_pos h0) (Eq.trans (mEv_1 _ _ _ _) rfl))
  · refine Eq.trans (mEv_2 _ _ _ _) (Eq.trans (if_neg h0) ?_)
    by_cases h1 : Int32.ofNat 4 ≤ k
    · rw [if_pos (Or.inr ((mle_iff (by decide) h0).mp h1))]
      exact Eq.trans (mEv_4 _ _ _ _) (Eq.trans (if_pos h1) (Eq.trans (mEv_1 _ _ _ _) rfl))
    · have h2 : ¬ (k < 0 ∨ 4 ≤ k.toNatClampNeg) := fun z => z.elim h0 (fun z => h1 ((mle_iff (by decide) h0).mpr z))
      rw [if_neg h2]
      refine Eq.trans (mEv_4 _ _ _ _) (Eq.trans (if_neg h1) ?_)
      refine Eq.trans (mEv_4 _ _ _ _) (Eq.trans (if_neg h2) ?_)
      refine Eq.trans (mEv_1 _ _ _ _) ?_
      show some (none, mU (mU g i c) i (mP (mU g i c i) 7 k.toNatClampNeg v)) = _
      rw [mU_same, mU_mU]
theorem rr_X5_put_14 (d : Nat) {g : mG} {c : mC} {i : Nat} {k v : Int32} : mCall mD X (d + 1) 143 [mr i 14, mi k, mi v] (mU g i c) = wV g i (pt 8 c 14 k v) := by
  refine Eq.trans (mCall_eq (d := d) rfl) ?_
  show mEv X (mCall mD X d) 0 t_X5_put (mDrop t_X5_put 0) [some (mr i 14), some (mi k), some (mi v)] [] (mU g i c) = _
  unfold pt
  by_cases h0 : k < 0
  · rw [if_pos (Or.inl h0)]
    exact Eq.trans (mEv_2 _ _ _ _) (Eq.trans (if_pos h0) (Eq.trans (mEv_1 _ _ _ _) rfl))
  · refine Eq.trans (mEv_2 _ _ _ _) (Eq.trans (if_neg h0) ?_)
    by_cases h1 : Int32.ofNat 8 ≤ k
    · rw [if_pos (Or.inr ((mle_iff (by decide) h0).mp h1))]
      exact Eq.trans (mEv_4 _ _ _ _) (Eq.trans (if_pos h1) (Eq.trans (mEv_1 _ _ _ _) rfl))
    · have h2 : ¬ (k < 0 ∨ 8 ≤ k.toNatClampNeg) := fun z => z.elim h0 (fun z => h1 ((mle_iff (by decide) h0).mpr z))
      rw [if_neg h2]
      refine Eq.trans (mEv_4 _ _ _ _) (Eq.trans (if_neg h1) ?_)
      refine Eq.trans (mEv_4 _ _ _ _) (Eq.trans (if_neg h2) ?_)
      refine Eq.trans (mEv_1 _ _ _ _) ?_
      show some (none, mU (mU g i c) i (mP (mU g i c i) 14 k.toNatClampNeg v)) = _
      rw [mU_same, mU_mU]
theorem rr_X5_put_15 (d : Nat) {g : mG} {c : mC} {i : Nat} {k v : Int32} : mCall mD X (d + 1) 143 [mr i 15, mi k, mi v] (mU g i c) = wV g i (pt 8 c 15 k v) := by
  refine Eq.trans (mCall_eq (d := d) rfl) ?_
  show mEv X (mCall mD X d) 0 t_X5_put (mDrop t_X5_put 0) [some (mr i 15), some (mi k), some (mi v)] [] (mU g i c) = _
  unfold pt
  by_cases h0 : k < 0
  · rw [if_pos (Or.inl h0)]
    exact Eq.trans (mEv_2 _ _ _ _) (Eq.trans (if_pos h0) (Eq.trans (mEv_1 _ _ _ _) rfl))
  · refine Eq.trans (mEv_2 _ _ _ _) (Eq.trans (if_neg h0) ?_)
    by_cases h1 : Int32.ofNat 8 ≤ k
    · rw [if_pos (Or.inr ((mle_iff (by decide) h0).mp h1))]
      exact Eq.trans (mEv_4 _ _ _ _) (Eq.trans (if_pos h1) (Eq.trans (mEv_1 _ _ _ _) rfl))
    · have h2 : ¬ (k < 0 ∨ 8 ≤ k.toNatClampNeg) := fun z => z.elim h0 (fun z => h1 ((mle_iff (by decide) h0).mpr z))
      rw [if_neg h2]
      refine Eq.trans (mEv_4 _ _ _ _) (Eq.trans (if_neg h1) ?_)
      refine Eq.trans (mEv_4 _ _ _ _) (Eq.trans (if_neg h2) ?_)
      refine Eq.trans (mEv_1 _ _ _ _) ?_
      show some (none, mU (mU g i c) i (mP (mU g i c i) 15 k.toNatClampNeg v)) = _
      rw [mU_same, mU_mU]
theorem rr_X5_copyRow_2 (d : Nat) {g : mG} {c : mC} {i o : Nat} (h_o : o ≠ i) : mCall mD X (d + 2) 144 [mr o 2, mr i 2] (mU g i c) = wV g i (mCp 8 c 2 (g o 2)) := by
  refine Eq.trans (mCall_eq (d := d + 1) rfl) ?_
  show mEv X (mCall mD X (d + 1)) 0 t_X5_copyRow (mDrop t_X5_copyRow 0) [some (mr o 2), some (mr i 2)] [] (mU g i c) = _
  refine Eq.trans (mEv_9 _ _ _ _) ?_
  show mAns (mEv X (mCall mD X (d + 1)) 0 t_X5_copyRow) (mDrop t_X5_copyRow 11) [some (mr o 2), some (mr i 2)] [mi 0, mr i 2, mi 0, mr o 2] (mCall mD X (d + 1) 278 [mi 8, mi 8] (mU g i c)) = _
  rw [rr_J9_min_7cf53 d, show P_J9_min_7cf53 8 8 = 8 by decide]
  show mEv X (mCall mD X (d + 1)) 0 t_X5_copyRow (mDrop t_X5_copyRow 11) [some (mr o 2), some (mr i 2)] [mi 8, mi 0, mr i 2, mi 0, mr o 2] (mU g i c) = _
  refine Eq.trans (mEv_1 _ _ _ _) ?_
  show mEv X (mCall mD X (d + 1)) 0 t_X5_copyRow (mDrop t_X5_copyRow 14) [some (mr o 2), some (mr i 2)] [] (mU (mU g i c) i (mA (mU g i c i) 2 (fun q => if q < (8 : Int32).toNatClampNeg then mU g i c o 2 q else mU g i c i 2 q))) = _
  refine Eq.trans (mEv_1 _ _ _ _) ?_
  show some (none, mU (mU g i c) i (mA (mU g i c i) 2 (fun q => if q < (8 : Int32).toNatClampNeg then mU g i c o 2 q else mU g i c i 2 q))) = _
  rw [mU_same, mU_mU, mU_ne _ _ h_o, show (8 : Int32).toNatClampNeg = 8 by decide]
  rfl
theorem rr_X5_copyRow_3 (d : Nat) {g : mG} {c : mC} {i o : Nat} (h_o : o ≠ i) : mCall mD X (d + 2) 144 [mr o 3, mr i 3] (mU g i c) = wV g i (mCp 8 c 3 (g o 3)) := by
  refine Eq.trans (mCall_eq (d := d + 1) rfl) ?_
  show mEv X (mCall mD X (d + 1)) 0 t_X5_copyRow (mDrop t_X5_copyRow 0) [some (mr o 3), some (mr i 3)] [] (mU g i c) = _
  refine Eq.trans (mEv_9 _ _ _ _) ?_
  show mAns (mEv X (mCall mD X (d + 1)) 0 t_X5_copyRow) (mDrop t_X5_copyRow 11) [some (mr o 3), some (mr i 3)] [mi 0, mr i 3, mi 0, mr o 3] (mCall mD X (d + 1) 278 [mi 8, mi 8] (mU g i c)) = _
  rw [rr_J9_min_7cf53 d, show P_J9_min_7cf53 8 8 = 8 by decide]
  show mEv X (mCall mD X (d + 1)) 0 t_X5_copyRow (mDrop t_X5_copyRow 11) [some (mr o 3), some (mr i 3)] [mi 8, mi 0, mr i 3, mi 0, mr o 3] (mU g i c) = _
  refine Eq.trans (mEv_1 _ _ _ _) ?_
  show mEv X (mCall mD X (d + 1)) 0 t_X5_copyRow (mDrop t_X5_copyRow 14) [some (mr o 3), some (mr i 3)] [] (mU (mU g i c) i (mA (mU g i c i) 3 (fun q => if q < (8 : Int32).toNatClampNeg then mU g i c o 3 q else mU g i c i 3 q))) = _
  refine Eq.trans (mEv_1 _ _ _ _) ?_
  show some (none, mU (mU g i c) i (mA (mU g i c i) 3 (fun q => if q < (8 : Int32).toNatClampNeg then mU g i c o 3 q else mU g i c i 3 q))) = _
  rw [mU_same, mU_mU, mU_ne _ _ h_o, show (8 : Int32).toNatClampNeg = 8 by decide]
  rfl
theorem rr_X5_copyRow_4 (d : Nat) {g : mG} {c : mC} {i o : Nat} (h_o : o ≠ i) : mCall mD X (d + 2) 144 [mr o 4, mr i 4] (mU g i c) = wV g i (mCp 8 c 4 (g o 4)) := by
  refine Eq.trans (mCall_eq (d := d + 1) rfl) ?_
  show mEv X (mCall mD X (d + 1)) 0 t_X5_copyRow (mDrop t_X5_copyRow 0) [some (mr o 4), some (mr i 4)] [] (mU g i c) = _
  refine Eq.trans (mEv_9 _ _ _ _) ?_
  show mAns (mEv X (mCall mD X (d + 1)) 0 t_X5_copyRow) (mDrop t_X5_copyRow 11) [some (mr o 4), some (mr i 4)] [mi 0, mr i 4, mi 0, mr o 4] (mCall mD X (d + 1) 278 [mi 8, mi 8] (mU g i c)) = _
  rw [rr_J9_min_7cf53 d, show P_J9_min_7cf53 8 8 = 8 by decide]
  show mEv X (mCall mD X (d + 1)) 0 t_X5_copyRow (mDrop t_X5_copyRow 11) [some (mr o 4), some (mr i 4)] [mi 8, mi 0, mr i 4, mi 0, mr o 4] (mU g i c) = _
  refine Eq.trans (mEv_1 _ _ _ _) ?_
  show mEv X (mCall mD X (d + 1)) 0 t_X5_copyRow (mDrop t_X5_copyRow 14) [some (mr o 4), some (mr i 4)] [] (mU (mU g i c) i (mA (mU g i c i) 4 (fun q => if q < (8 : Int32).toNatClampNeg then mU g i c o 4 q else mU g i c i 4 q))) = _
  refine Eq.trans (mEv_1 _ _ _ _) ?_
  show some (none, mU (mU g i c) i (mA (mU g i c i) 4 (fun q => if q < (8 : Int32).toNatClampNeg then mU g i c o 4 q else mU g i c i 4 q))) = _
  rw [mU_same, mU_mU, mU_ne _ _ h_o, show (8 : Int32).toNatClampNeg = 8 by decide]
  rfl
theorem rr_X5_copyRow_5 (d : Nat) {g : mG} {c : mC} {i o : Nat} (h_o : o ≠ i) : mCall mD X (d + 2) 144 [mr o 5, mr i 5] (mU g i c) = wV g i (mCp 80 c 5 (g o 5)) := by
  refine Eq.trans (mCall_eq (d := d + 1) rfl) ?_
  show mEv X (mCall mD X (d + 1)) 0 t_X5_copyRow (mDrop t_X5_copyRow 0) [some (mr o 5), some (mr i 5)] [] (mU g i c) = _
  refine Eq.trans (mEv_9 _ _ _ _) ?_
  show mAns (mEv X (mCall mD X (d + 1)) 0 t_X5_copyRow) (mDrop t_X5_copyRow 11) [some (mr o 5), some (mr i 5)] [mi 0, mr i 5, mi 0, mr o 5] (mCall mD X (d + 1) 278 [mi 80, mi 80] (mU g i c)) = _
  rw [rr_J9_min_7cf53 d, show P_J9_min_7cf53 80 80 = 80 by decide]
  show mEv X (mCall mD X (d + 1)) 0 t_X5_copyRow (mDrop t_X5_copyRow 11) [some (mr o 5), some (mr i 5)] [mi 80, mi 0, mr i 5, mi 0, mr o 5] (mU g i c) = _
  refine Eq.trans (mEv_1 _ _ _ _) ?_
  show mEv X (mCall mD X (d + 1)) 0 t_X5_copyRow (mDrop t_X5_copyRow 14) [some (mr o 5), some (mr i 5)] [] (mU (mU g i c) i (mA (mU g i c i) 5 (fun q => if q < (80 : Int32).toNatClampNeg then mU g i c o 5 q else mU g i c i 5 q))) = _
  refine Eq.trans (mEv_1 _ _ _ _) ?_
  show some (none, mU (mU g i c) i (mA (mU g i c i) 5 (fun q => if q < (80 : Int32).toNatClampNeg then mU g i c o 5 q else mU g i c i 5 q))) = _
  rw [mU_same, mU_mU, mU_ne _ _ h_o, show (80 : Int32).toNatClampNeg = 80 by decide]
  rfl
theorem rr_X5_copyRow_6 (d : Nat) {g : mG} {c : mC} {i o : Nat} (h_o : o ≠ i) : mCall mD X (d + 2) 144 [mr o 6, mr i 6] (mU g i c) = wV g i (mCp 10 c 6 (g o 6)) := by
  refine Eq.trans (mCall_eq (d := d + 1) rfl) ?_
  show mEv X (mCall mD X (d + 1)) 0 t_X5_copyRow (mDrop t_X5_copyRow 0) [some (mr o 6), some (mr i 6)] [] (mU g i c) = _
  refine Eq.trans (mEv_9 _ _ _ _) ?_
  show mAns (mEv X (mCall mD X (d + 1)) 0 t_X5_copyRow) (mDrop t_X5_copyRow 11) [some (mr o 6), some (mr i 6)] [mi 0, mr i 6, mi 0, mr o 6] (mCall mD X (d + 1) 278 [mi 10, mi 10] (mU g i c)) = _
  rw [rr_J9_min_7cf53 d, show P_J9_min_7cf53 10 10 = 10 by decide]
  show mEv X (mCall mD X (d + 1)) 0 t_X5_copyRow (mDrop t_X5_copyRow 11) [some (mr o 6), some (mr i 6)] [mi 10, mi 0, mr i 6, mi 0, mr o 6] (mU g i c) = _
  refine Eq.trans (mEv_1 _ _ _ _) ?_
  show mEv X (mCall mD X (d + 1)) 0 t_X5_copyRow (mDrop t_X5_copyRow 14) [some (mr o 6), some (mr i 6)] [] (mU (mU g i c) i (mA (mU g i c i) 6 (fun q => if q < (10 : Int32).toNatClampNeg then mU g i c o 6 q else mU g i c i 6 q))) = _
  refine Eq.trans (mEv_1 _ _ _ _) ?_
  show some (none, mU (mU g i c) i (mA (mU g i c i) 6 (fun q => if q < (10 : Int32).toNatClampNeg then mU g i c o 6 q else mU g i c i 6 q))) = _
  rw [mU_same, mU_mU, mU_ne _ _ h_o, show (10 : Int32).toNatClampNeg = 10 by decide]
  rfl
theorem rr_X5_copyRow_7 (d : Nat) {g : mG} {c : mC} {i o : Nat} (h_o : o ≠ i) : mCall mD X (d + 2) 144 [mr o 7, mr i 7] (mU g i c) = wV g i (mCp 4 c 7 (g o 7)) := by
  refine Eq.trans (mCall_eq (d := d + 1) rfl) ?_
  show mEv X (mCall mD X (d + 1)) 0 t_X5_copyRow (mDrop t_X5_copyRow 0) [some (mr o 7), some (mr i 7)] [] (mU g i c) = _
  refine Eq.trans (mEv_9 _ _ _ _) ?_
  show mAns (mEv X (mCall mD X (d + 1)) 0 t_X5_copyRow) (mDrop t_X5_copyRow 11) [some (mr o 7), some (mr i 7)] [mi 0, mr i 7, mi 0, mr o 7] (mCall mD X (d + 1) 278 [mi 4, mi 4] (mU g i c)) = _
  rw [rr_J9_min_7cf53 d, show P_J9_min_7cf53 4 4 = 4 by decide]
  show mEv X (mCall mD X (d + 1)) 0 t_X5_copyRow (mDrop t_X5_copyRow 11) [some (mr o 7), some (mr i 7)] [mi 4, mi 0, mr i 7, mi 0, mr o 7] (mU g i c) = _
  refine Eq.trans (mEv_1 _ _ _ _) ?_
  show mEv X (mCall mD X (d + 1)) 0 t_X5_copyRow (mDrop t_X5_copyRow 14) [some (mr o 7), some (mr i 7)] [] (mU (mU g i c) i (mA (mU g i c i) 7 (fun q => if q < (4 : Int32).toNatClampNeg then mU g i c o 7 q else mU g i c i 7 q))) = _
  refine Eq.trans (mEv_1 _ _ _ _) ?_
  show some (none, mU (mU g i c) i (mA (mU g i c i) 7 (fun q => if q < (4 : Int32).toNatClampNeg then mU g i c o 7 q else mU g i c i 7 q))) = _
  rw [mU_same, mU_mU, mU_ne _ _ h_o, show (4 : Int32).toNatClampNeg = 4 by decide]
  rfl
theorem rr_X5_copyRow_11 (d : Nat) {g : mG} {c : mC} {i o : Nat} (h_o : o ≠ i) : mCall mD X (d + 2) 144 [mr o 11, mr i 11] (mU g i c) = wV g i (mCp 32 c 11 (g o 11)) := by
  refine Eq.trans (mCall_eq (d := d + 1) rfl) ?_
  show mEv X (mCall mD X (d + 1)) 0 t_X5_copyRow (mDrop t_X5_copyRow 0) [some (mr o 11), some (mr i 11)] [] (mU g i c) = _
  refine Eq.trans (mEv_9 _ _ _ _) ?_
  show mAns (mEv X (mCall mD X (d + 1)) 0 t_X5_copyRow) (mDrop t_X5_copyRow 11) [some (mr o 11), some (mr i 11)] [mi 0, mr i 11, mi 0, mr o 11] (mCall mD X (d + 1) 278 [mi 32, mi 32] (mU g i c)) = _
  rw [rr_J9_min_7cf53 d, show P_J9_min_7cf53 32 32 = 32 by decide]
  show mEv X (mCall mD X (d + 1)) 0 t_X5_copyRow (mDrop t_X5_copyRow 11) [some (mr o 11), some (mr i 11)] [mi 32, mi 0, mr i 11, mi 0, mr o 11] (mU g i c) = _
  refine Eq.trans (mEv_1 _ _ _ _) ?_
  show mEv X (mCall mD X (d + 1)) 0 t_X5_copyRow (mDrop t_X5_copyRow 14) [some (mr o 11), some (mr i 11)] [] (mU (mU g i c) i (mA (mU g i c i) 11 (fun q => if q < (32 : Int32).toNatClampNeg then mU g i c o 11 q else mU g i c i 11 q))) = _
  refine Eq.trans (mEv_1 _ _ _ _) ?_
  show some (none, mU (mU g i c) i (mA (mU g i c i) 11 (fun q => if q < (32 : Int32).toNatClampNeg then mU g i c o 11 q else mU g i c i 11 q))) = _
  rw [mU_same, mU_mU, mU_ne _ _ h_o, show (32 : Int32).toNatClampNeg = 32 by decide]
  rfl
theorem rr_X5_copyRow_12 (d : Nat) {g : mG} {c : mC} {i o : Nat} (h_o : o ≠ i) : mCall mD X (d + 2) 144 [mr o 12, mr i 12] (mU g i c) = wV g i (mCp 32 c 12 (g o 12)) := by
  refine Eq.trans (mCall_eq (d := d + 1) rfl) ?_
  show mEv X (mCall mD X (d + 1)) 0 t_X5_copyRow (mDrop t_X5_copyRow 0) [some (mr o 12), some (mr i 12)] [] (mU g i c) = _
  refine Eq.trans (mEv_9 _ _ _ _) ?_
  show mAns (mEv X (mCall mD X (d + 1)) 0 t_X5_copyRow) (mDrop t_X5_copyRow 11) [some (mr o 12), some (mr i 12)] [mi 0, mr i 12, mi 0, mr o 12] (mCall mD X (d + 1) 278 [mi 32, mi 32] (mU g i c)) = _
  rw [rr_J9_min_7cf53 d, show P_J9_min_7cf53 32 32 = 32 by decide]
  show mEv X (mCall mD X (d + 1)) 0 t_X5_copyRow (mDrop t_X5_copyRow 11) [some (mr o 12), some (mr i 12)] [mi 32, mi 0, mr i 12, mi 0, mr o 12] (mU g i c) = _
  refine Eq.trans (mEv_1 _ _ _ _) ?_
  show mEv X (mCall mD X (d + 1)) 0 t_X5_copyRow (mDrop t_X5_copyRow 14) [some (mr o 12), some (mr i 12)] [] (mU (mU g i c) i (mA (mU g i c i) 12 (fun q => if q < (32 : Int32).toNatClampNeg then mU g i c o 12 q else mU g i c i 12 q))) = _
  refine Eq.trans (mEv_1 _ _ _ _) ?_
  show some (none, mU (mU g i c) i (mA (mU g i c i) 12 (fun q => if q < (32 : Int32).toNatClampNeg then mU g i c o 12 q else mU g i c i 12 q))) = _
  rw [mU_same, mU_mU, mU_ne _ _ h_o, show (32 : Int32).toNatClampNeg = 32 by decide]
  rfl
theorem rr_X5_copyRow_13 (d : Nat) {g : mG} {c : mC} {i o : Nat} (h_o : o ≠ i) : mCall mD X (d + 2) 144 [mr o 13, mr i 13] (mU g i c) = wV g i (mCp 32 c 13 (g o 13)) := by
  refine Eq.trans (mCall_eq (d := d + 1) rfl) ?_
  show mEv X (mCall mD X (d + 1)) 0 t_X5_copyRow (mDrop t_X5_copyRow 0) [some (mr o 13), some (mr i 13)] [] (mU g i c) = _
  refine Eq.trans (mEv_9 _ _ _ _) ?_
  show mAns (mEv X (mCall mD X (d + 1)) 0 t_X5_copyRow) (mDrop t_X5_copyRow 11) [some (mr o 13), some (mr i 13)] [mi 0, mr i 13, mi 0, mr o 13] (mCall mD X (d + 1) 278 [mi 32, mi 32] (mU g i c)) = _
  rw [rr_J9_min_7cf53 d, show P_J9_min_7cf53 32 32 = 32 by decide]
  show mEv X (mCall mD X (d + 1)) 0 t_X5_copyRow (mDrop t_X5_copyRow 11) [some (mr o 13), some (mr i 13)] [mi 32, mi 0, mr i 13, mi 0, mr o 13] (mU g i c) = _
  refine Eq.trans (mEv_1 _ _ _ _) ?_
  show mEv X (mCall mD X (d + 1)) 0 t_X5_copyRow (mDrop t_X5_copyRow 14) [some (mr o 13), some (mr i 13)] [] (mU (mU g i c) i (mA (mU g i c i) 13 (fun q => if q < (32 : Int32).toNatClampNeg then mU g i c o 13 q else mU g i c i 13 q))) = _
  refine Eq.trans (mEv_1 _ _ _ _) ?_
  show some (none, mU (mU g i c) i (mA (mU g i c i) 13 (fun q => if q < (32 : Int32).toNatClampNeg then mU g i c o 13 q else mU g i c i 13 q))) = _
  rw [mU_same, mU_mU, mU_ne _ _ h_o, show (32 : Int32).toNatClampNeg = 32 by decide]
  rfl
theorem rr_X5_copyRow_14 (d : Nat) {g : mG} {c : mC} {i o : Nat} (h_o : o ≠ i) : mCall mD X (d + 2) 144 [mr o 14, mr i 14] (mU g i c) = wV g i (mCp 8 c 14 (g o 14)) := by
  refine Eq.trans (mCall_eq (d := d + 1) rfl) ?_
  show mEv X (mCall mD X (d + 1)) 0 t_X5_copyRow (mDrop t_X5_copyRow 0) [some (mr o 14), some (mr i 14)] [] (mU g i c) = _
  refine Eq.trans (mEv_9 _ _ _ _) ?_
  show mAns (mEv X (mCall mD X (d + 1)) 0 t_X5_copyRow) (mDrop t_X5_copyRow 11) [some (mr o 14), some (mr i 14)] [mi 0, mr i 14, mi 0, mr o 14] (mCall mD X (d + 1) 278 [mi 8, mi 8] (mU g i c)) = _
  rw [rr_J9_min_7cf53 d, show P_J9_min_7cf53 8 8 = 8 by decide]
  show mEv X (mCall mD X (d + 1)) 0 t_X5_copyRow (mDrop t_X5_copyRow 11) [some (mr o 14), some (mr i 14)] [mi 8, mi 0, mr i 14, mi 0, mr o 14] (mU g i c) = _
  refine Eq.trans (mEv_1 _ _ _ _) ?_
  show mEv X (mCall mD X (d + 1)) 0 t_X5_copyRow (mDrop t_X5_copyRow 14) [some (mr o 14), some (mr i 14)] [] (mU (mU g i c) i (mA (mU g i c i) 14 (fun q => if q < (8 : Int32).toNatClampNeg then mU g i c o 14 q else mU g i c i 14 q))) = _
  refine Eq.trans (mEv_1 _ _ _ _) ?_
  show some (none, mU (mU g i c) i (mA (mU g i c i) 14 (fun q => if q < (8 : Int32).toNatClampNeg then mU g i c o 14 q else mU g i c i 14 q))) = _
  rw [mU_same, mU_mU, mU_ne _ _ h_o, show (8 : Int32).toNatClampNeg = 8 by decide]
  rfl
theorem rr_X5_copyRow_15 (d : Nat) {g : mG} {c : mC} {i o : Nat} (h_o : o ≠ i) : mCall mD X (d + 2) 144 [mr o 15, mr i 15] (mU g i c) = wV g i (mCp 8 c 15 (g o 15)) := by
  refine Eq.trans (mCall_eq (d := d + 1) rfl) ?_
  show mEv X (mCall mD X (d + 1)) 0 t_X5_copyRow (mDrop t_X5_copyRow 0) [some (mr o 15), some (mr i 15)] [] (mU g i c) = _
  refine Eq.trans (mEv_9 _ _ _ _) ?_
  show mAns (mEv X (mCall mD X (d + 1)) 0 t_X5_copyRow) (mDrop t_X5_copyRow 11) [some (mr o 15), some (mr i 15)] [mi 0, mr i 15, mi 0, mr o 15] (mCall mD X (d + 1) 278 [mi 8, mi 8] (mU g i c)) = _
  rw [rr_J9_min_7cf53 d, show P_J9_min_7cf53 8 8 = 8 by decide]
  show mEv X (mCall mD X (d + 1)) 0 t_X5_copyRow (mDrop t_X5_copyRow 11) [some (mr o 15), some (mr i 15)] [mi 8, mi 0, mr i 15, mi 0, mr o 15] (mU g i c) = _
  refine Eq.trans (mEv_1 _ _ _ _) ?_
  show mEv X (mCall mD X (d + 1)) 0 t_X5_copyRow (mDrop t_X5_copyRow 14) [some (mr o 15), some (mr i 15)] [] (mU (mU g i c) i (mA (mU g i c i) 15 (fun q => if q < (8 : Int32).toNatClampNeg then mU g i c o 15 q else mU g i c i 15 q))) = _
  refine Eq.trans (mEv_1 _ _ _ _) ?_
  show some (none, mU (mU g i c) i (mA (mU g i c i) 15 (fun q => if q < (8 : Int32).toNatClampNeg then mU g i c o 15 q else mU g i c i 15 q))) = _
  rw [mU_same, mU_mU, mU_ne _ _ h_o, show (8 : Int32).toNatClampNeg = 8 by decide]
  rfl
theorem mFi_zero (c : mC) (j : Nat) (v : Int32) : mFi 0 c j v = c := by
  funext a
  unfold mFi mA
  by_cases h : a = j
  · rw [if_pos h]
    funext q
    rw [if_neg (Nat.not_lt_zero q), h]
  · rw [if_neg h]
theorem mFi_succ (q : Nat) (c : mC) (j : Nat) (v : Int32) : mP (mFi q c j v) j q v = mFi (q + 1) c j v := by
  funext a b
  unfold mP mFi mA
  by_cases h : a = j
  · subst h
    by_cases hb : b = q
    · rw [if_pos ⟨rfl, hb⟩, if_pos rfl, if_pos (by omega)]
    · rw [if_neg (fun z => hb z.2), if_pos rfl, if_pos rfl]
      by_cases h2 : b < q
      · rw [if_pos h2, if_pos (by omega)]
      · rw [if_neg h2, if_neg (by omega)]
  · rw [if_neg (fun z => h z.1), if_neg h, if_neg h]
theorem rr_X5_fillRow_2 (d : Nat) {g : mG} {c : mC} {i : Nat} {v : Int32} : mCall mD X (d + 1) 145 [mr i 2, mi v] (mU g i c) = wV g i (mFi 8 c 2 v) := by
  refine Eq.trans (mCall_eq (d := d) rfl) ?_
  show mEv X (mCall mD X d) 0 t_X5_fillRow (mDrop t_X5_fillRow 0) [some (mr i 2), some (mi v), none] [] (mU g i c) = _
  refine Eq.trans (mEv_2 _ _ _ _) ?_
  have key : ∀ m q : Nat, q + m = 8 → mEv X (mCall mD X d) 0 t_X5_fillRow (mDrop t_X5_fillRow 2) [some (mr i 2), some (mi v), some (mi (nI q))] [] (mU g i (mFi q c 2 v)) = wV g i (mFi 8 c 2 v) := by
    intro m
    induction m with
    | zero =>
      intro q hq
      have e : q = 8 := hq
      refine Eq.trans (mEv_4 _ _ _ _) (Eq.trans (if_pos (show nI 8 ≤ nI q by rw [e]; exact Int32.le_refl _)) ?_)
      rw [e]
      exact Eq.trans (mEv_1 _ _ _ _) rfl
    | succ m ih =>
      intro q hq
      have hlt : q < 8 := by omega
      have hb : q < 2 ^ 31 := Nat.lt_trans hlt (by decide)
      refine Eq.trans (mEv_4 _ _ _ _) (Eq.trans (if_neg (nI_ge hlt (by decide))) ?_)
      refine Eq.trans (mEv_4 _ _ _ _) (Eq.trans (if_neg (nI_in hlt (by decide))) ?_)
      refine Eq.trans (mEv_2 _ _ _ _) ?_
      show mEv X (mCall mD X d) 0 t_X5_fillRow (mDrop t_X5_fillRow 2) [some (mr i 2), some (mi v), some (mi (nI q + 1))] [] (mU (mU g i (mFi q c 2 v)) i (mP (mU g i (mFi q c 2 v) i) 2 (nI q).toNatClampNeg v)) = _
      rw [mU_same, mU_mU, nI_clamp hb, nI_1, ← ih (q + 1) (by omega)]
      congr 2
      exact mFi_succ _ _ _ _
  have h := key 8 0 (by decide)
  rw [mFi_zero] at h
  exact h
theorem rr_X5_fillRow_3 (d : Nat) {g : mG} {c : mC} {i : Nat} {v : Int32} : mCall mD X (d + 1) 145 [mr i 3, mi v] (mU g i c) = wV g i (mFi 8 c 3 v) := by
  refine Eq.trans (mCall_eq (d := d) rfl) ?_
  show mEv X (mCall mD X d) 0 t_X5_fillRow (mDrop t_X5_fillRow 0) [some (mr i 3), some (mi v), none] [] (mU g i c) = _
  refine Eq.trans (mEv_2 _ _ _ _) ?_
  have key : ∀ m q : Nat, q + m = 8 → mEv X (mCall mD X d) 0 t_X5_fillRow (mDrop t_X5_fillRow 2) [some (mr i 3), some (mi v), some (mi (nI q))] [] (mU g i (mFi q c 3 v)) = wV g i (mFi 8 c 3 v) := by
    intro m
    induction m with
    | zero =>
      intro q hq
      have e : q = 8 := hq
      refine Eq.trans (mEv_4 _ _ _ _) (Eq.trans (if_pos (show nI 8 ≤ nI q by rw [e]; exact Int32.le_refl _)) ?_)
      rw [e]
      exact Eq.trans (mEv_1 _ _ _ _) rfl
    | succ m ih =>
      intro q hq
      have hlt : q < 8 := by omega
      have hb : q < 2 ^ 31 := Nat.lt_trans hlt (by decide)
      refine Eq.trans (mEv_4 _ _ _ _) (Eq.trans (if_neg (nI_ge hlt (by decide))) ?_)
      refine Eq.trans (mEv_4 _ _ _ _) (Eq.trans (if_neg (nI_in hlt (by decide))) ?_)
      refine Eq.trans (mEv_2 _ _ _ _) ?_
      show mEv X (mCall mD X d) 0 t_X5_fillRow (mDrop t_X5_fillRow 2) [some (mr i 3), some (mi v), some (mi (nI q + 1))] [] (mU (mU g i (mFi q c 3 v)) i (mP (mU g i (mFi q c 3 v) i) 3 (nI q).toNatClampNeg v)) = _
      rw [mU_same, mU_mU, nI_clamp hb, nI_1, ← ih (q + 1) (by omega)]
      congr 2
      exact mFi_succ _ _ _ _
  have h := key 8 0 (by decide)
  rw [mFi_zero] at h
  exact h
theorem rr_X5_fillRow_4 (d : Nat) {g : mG} {c : mC} {i : Nat} {v : Int32} : mCall mD X (d + 1) 145 [mr i 4, mi v] (mU g i c) = wV g i (mFi 8 c 4 v) := by
  refine Eq.trans (mCall_eq (d := d) rfl) ?_
  show mEv X (mCall mD X d) 0 t_X5_fillRow (mDrop t_X5_fillRow 0) [some (mr i 4), some (mi v), none] [] (mU g i c) = _
  refine Eq.trans (mEv_2 _ _ _ _) ?_
  have key : ∀ m q : Nat, q + m = 8 → mEv X (mCall mD X d) 0 t_X5_fillRow (mDrop t_X5_fillRow 2) [some (mr i 4), some (mi v), some (mi (nI q))] [] (mU g i (mFi q c 4 v)) = wV g i (mFi 8 c 4 v) := by
    intro m
    induction m with
    | zero =>
      intro q hq
      have e : q = 8 := hq
      refine Eq.trans (mEv_4 _ _ _ _) (Eq.trans (if_pos (show nI 8 ≤ nI q by rw [e]; exact Int32.le_refl _)) ?_)
      rw [e]
      exact Eq.trans (mEv_1 _ _ _ _) rfl
    | succ m ih =>
      intro q hq
      have hlt : q < 8 := by omega
      have hb : q < 2 ^ 31 := Nat.lt_trans hlt (by decide)
      refine Eq.trans (mEv_4 _ _ _ _) (Eq.trans (if_neg (nI_ge hlt (by decide))) ?_)
      refine Eq.trans (mEv_4 _ _ _ _) (Eq.trans (if_neg (nI_in hlt (by decide))) ?_)
      refine Eq.trans (mEv_2 _ _ _ _) ?_
      show mEv X (mCall mD X d) 0 t_X5_fillRow (mDrop t_X5_fillRow 2) [some (mr i 4), some (mi v), some (mi (nI q + 1))] [] (mU (mU g i (mFi q c 4 v)) i (mP (mU g i (mFi q c 4 v) i) 4 (nI q).toNatClampNeg v)) = _
      rw [mU_same, mU_mU, nI_clamp hb, nI_1, ← ih (q + 1) (by omega)]
      congr 2
      exact mFi_succ _ _ _ _
  have h := key 8 0 (by decide)
  rw [mFi_zero] at h
  exact h
theorem rr_X5_fillRow_5 (d : Nat) {g : mG} {c : mC} {i : Nat} {v : Int32} : mCall mD X (d + 1) 145 [mr i 5, mi v] (mU g i c) = wV g i (mFi 80 c 5 v) := by
  refine Eq.trans (mCall_eq (d := d) rfl) ?_
  show mEv X (mCall mD X d) 0 t_X5_fillRow (mDrop t_X5_fillRow 0) [some (mr i 5), some (mi v), none] [] (mU g i c) = _
  refine Eq.trans (mEv_2 _ _ _ _) ?_
  have key : ∀ m q : Nat, q + m = 80 → mEv X (mCall mD X d) 0 t_X5_fillRow (mDrop t_X5_fillRow 2) [some (mr i 5), some (mi v), some (mi (nI q))] [] (mU g i (mFi q c 5 v)) = wV g i (mFi 80 c 5 v) := by
    intro m
    induction m with
    | zero =>
      intro q hq
      have e : q = 80 := hq
      refine Eq.trans (mEv_4 _ _ _ _) (Eq.trans (if_pos (show nI 80 ≤ nI q by rw [e]; exact Int32.le_refl _)) ?_)
      rw [e]
      exact Eq.trans (mEv_1 _ _ _ _) rfl
    | succ m ih =>
      intro q hq
      have hlt : q < 80 := by omega
      have hb : q < 2 ^ 31 := Nat.lt_trans hlt (by decide)
      refine Eq.trans (mEv_4 _ _ _ _) (Eq.trans (if_neg (nI_ge hlt (by decide))) ?_)
      refine Eq.trans (mEv_4 _ _ _ _) (Eq.trans (if_neg (nI_in hlt (by decide))) ?_)
      refine Eq.trans (mEv_2 _ _ _ _) ?_
      show mEv X (mCall mD X d) 0 t_X5_fillRow (mDrop t_X5_fillRow 2) [some (mr i 5), some (mi v), some (mi (nI q + 1))] [] (mU (mU g i (mFi q c 5 v)) i (mP (mU g i (mFi q c 5 v) i) 5 (nI q).toNatClampNeg v)) = _
      rw [mU_same, mU_mU, nI_clamp hb, nI_1, ← ih (q + 1) (by omega)]
      congr 2
      exact mFi_succ _ _ _ _
  have h := key 80 0 (by decide)
  rw [mFi_zero] at h
  exact h
theorem rr_X5_fillRow_6 (d : Nat) {g : mG} {c : mC} {i : Nat} {v : Int32} : mCall mD X (d + 1) 145 [mr i 6, mi v] (mU g i c) = wV g i (mFi 10 c 6 v) := by
  refine Eq.trans (mCall_eq (d := d) rfl) ?_
  show mEv X (mCall mD X d) 0 t_X5_fillRow (mDrop t_X5_fillRow 0) [some (mr i 6), some (mi v), none] [] (mU g i c) = _
  refine Eq.trans (mEv_2 _ _ _ _) ?_
  have key : ∀ m q : Nat, q + m = 10 → mEv X (mCall mD X d) 0 t_X5_fillRow (mDrop t_X5_fillRow 2) [some (mr i 6), some (mi v), some (mi (nI q))] [] (mU g i (mFi q c 6 v)) = wV g i (mFi 10 c 6 v) := by
    intro m
    induction m with
    | zero =>
      intro q hq
      have e : q = 10 := hq
      refine Eq.trans (mEv_4 _ _ _ _) (Eq.trans (if_pos (show nI 10 ≤ nI q by rw [e]; exact Int32.le_refl _)) ?_)
      rw [e]
      exact Eq.trans (mEv_1 _ _ _ _) rfl
    | succ m ih =>
      intro q hq
      have hlt : q < 10 := by omega
      have hb : q < 2 ^ 31 := Nat.lt_trans hlt (by decide)
      refine Eq.trans (mEv_4 _ _ _ _) (Eq.trans (if_neg (nI_ge hlt (by decide))) ?_)
      refine Eq.trans (mEv_4 _ _ _ _) (Eq.trans (if_neg (nI_in hlt (by decide))) ?_)
      refine Eq.trans (mEv_2 _ _ _ _) ?_
      show mEv X (mCall mD X d) 0 t_X5_fillRow (mDrop t_X5_fillRow 2) [some (mr i 6), some (mi v), some (mi (nI q + 1))] [] (mU (mU g i (mFi q c 6 v)) i (mP (mU g i (mFi q c 6 v) i) 6 (nI q).toNatClampNeg v)) = _
      rw [mU_same, mU_mU, nI_clamp hb, nI_1, ← ih (q + 1) (by omega)]
      congr 2
      exact mFi_succ _ _ _ _
  have h := key 10 0 (by decide)
  rw [mFi_zero] at h
  exact h
theorem rr_X5_fillRow_7 (d : Nat) {g : mG} {c : mC} {i : Nat} {v : Int32} : mCall mD X (d + 1) 145 [mr i 7, mi v] (mU g i c) = wV g i (mFi 4 c 7 v) := by
  refine Eq.trans (mCall_eq (d := d) rfl) ?_
  show mEv X (mCall mD X d) 0 t_X5_fillRow (mDrop t_X5_fillRow 0) [some (mr i 7), some (mi v), none] [] (mU g i c) = _
  refine Eq.trans (mEv_2 _ _ _ _) ?_
  have key : ∀ m q : Nat, q + m = 4 → mEv X (mCall mD X d) 0 t_X5_fillRow (mDrop t_X5_fillRow 2) [some (mr i 7), some (mi v), some (mi (nI q))] [] (mU g i (mFi q c 7 v)) = wV g i (mFi 4 c 7 v) := by
    intro m
    induction m with
    | zero =>
      intro q hq
      have e : q = 4 := hq
      refine Eq.trans (mEv_4 _ _ _ _) (Eq.trans (if_pos (show nI 4 ≤ nI q by rw [e]; exact Int32.le_refl _)) ?_)
      rw [e]
      exact Eq.trans (mEv_1 _ _ _ _) rfl
    | succ m ih =>
      intro q hq
      have hlt : q < 4 := by omega
      have hb : q < 2 ^ 31 := Nat.lt_trans hlt (by decide)
      refine Eq.trans (mEv_4 _ _ _ _) (Eq.trans (if_neg (nI_ge hlt (by decide))) ?_)
      refine Eq.trans (mEv_4 _ _ _ _) (Eq.trans (if_neg (nI_in hlt (by decide))) ?_)
      refine Eq.trans (mEv_2 _ _ _ _) ?_
      show mEv X (mCall mD X d) 0 t_X5_fillRow (mDrop t_X5_fillRow 2) [some (mr i 7), some (mi v), some (mi (nI q + 1))] [] (mU (mU g i (mFi q c 7 v)) i (mP (mU g i (mFi q c 7 v) i) 7 (nI q).toNatClampNeg v)) = _
      rw [mU_same, mU_mU, nI_clamp hb, nI_1, ← ih (q + 1) (by omega)]
      congr 2
      exact mFi_succ _ _ _ _
  have h := key 4 0 (by decide)
  rw [mFi_zero] at h
  exact h
theorem rr_X5_fillRow_14 (d : Nat) {g : mG} {c : mC} {i : Nat} {v : Int32} : mCall mD X (d + 1) 145 [mr i 14, mi v] (mU g i c) = wV g i (mFi 8 c 14 v) := by
  refine Eq.trans (mCall_eq (d := d) rfl) ?_
  show mEv X (mCall mD X d) 0 t_X5_fillRow (mDrop t_X5_fillRow 0) [some (mr i 14), some (mi v), none] [] (mU g i c) = _
  refine Eq.trans (mEv_2 _ _ _ _) ?_
  have key : ∀ m q : Nat, q + m = 8 → mEv X (mCall mD X d) 0 t_X5_fillRow (mDrop t_X5_fillRow 2) [some (mr i 14), some (mi v), some (mi (nI q))] [] (mU g i (mFi q c 14 v)) = wV g i (mFi 8 c 14 v) := by
    intro m
    induction m with
    | zero =>
      intro q hq
      have e : q = 8 := hq
      refine Eq.trans (mEv_4 _ _ _ _) (Eq.trans (if_pos (show nI 8 ≤ nI q by rw [e]; exact Int32.le_refl _)) ?_)
      rw [e]
      exact Eq.trans (mEv_1 _ _ _ _) rfl
    | succ m ih =>
      intro q hq
      have hlt : q < 8 := by omega
      have hb : q < 2 ^ 31 := Nat.lt_trans hlt (by decide)
      refine Eq.trans (mEv_4 _ _ _ _) (Eq.trans (if_neg (nI_ge hlt (by decide))) ?_)
      refine Eq.trans (mEv_4 _ _ _ _) (Eq.trans (if_neg (nI_in hlt (by decide))) ?_)
      refine Eq.trans (mEv_2 _ _ _ _) ?_
      show mEv X (mCall mD X d) 0 t_X5_fillRow (mDrop t_X5_fillRow 2) [some (mr i 14), some (mi v), some (mi (nI q + 1))] [] (mU (mU g i (mFi q c 14 v)) i (mP (mU g i (mFi q c 14 v) i) 14 (nI q).toNatClampNeg v)) = _
      rw [mU_same, mU_mU, nI_clamp hb, nI_1, ← ih (q + 1) (by omega)]
      congr 2
      exact mFi_succ _ _ _ _
  have h := key 8 0 (by decide)
  rw [mFi_zero] at h
  exact h
theorem rr_X5_fillRow_15 (d : Nat) {g : mG} {c : mC} {i : Nat} {v : Int32} : mCall mD X (d + 1) 145 [mr i 15, mi v] (mU g i c) = wV g i (mFi 8 c 15 v) := by
  refine Eq.trans (mCall_eq (d := d) rfl) ?_
  show mEv X (mCall mD X d) 0 t_X5_fillRow (mDrop t_X5_fillRow 0) [some (mr i 15), some (mi v), none] [] (mU g i c) = _
  refine Eq.trans (mEv_2 _ _ _ _) ?_
  have key : ∀ m q : Nat, q + m = 8 → mEv X (mCall mD X d) 0 t_X5_fillRow (mDrop t_X5_fillRow 2) [some (mr i 15), some (mi v), some (mi (nI q))] [] (mU g i (mFi q c 15 v)) = wV g i (mFi 8 c 15 v) := by
    intro m
    induction m with
    | zero =>
      intro q hq
      have e : q = 8 := hq
      refine Eq.trans (mEv_4 _ _ _ _) (Eq.trans (if_pos (show nI 8 ≤ nI q by rw [e]; exact Int32.le_refl _)) ?_)
      rw [e]
      exact Eq.trans (mEv_1 _ _ _ _) rfl
    | succ m ih =>
      intro q hq
      have hlt : q < 8 := by omega
      have hb : q < 2 ^ 31 := Nat.lt_trans hlt (by decide)
      refine Eq.trans (mEv_4 _ _ _ _) (Eq.trans (if_neg (nI_ge hlt (by decide))) ?_)
      refine Eq.trans (mEv_4 _ _ _ _) (Eq.trans (if_neg (nI_in hlt (by decide))) ?_)
      refine Eq.trans (mEv_2 _ _ _ _) ?_
      show mEv X (mCall mD X d) 0 t_X5_fillRow (mDrop t_X5_fillRow 2) [some (mr i 15), some (mi v), some (mi (nI q + 1))] [] (mU (mU g i (mFi q c 15 v)) i (mP (mU g i (mFi q c 15 v) i) 15 (nI q).toNatClampNeg v)) = _
      rw [mU_same, mU_mU, nI_clamp hb, nI_1, ← ih (q + 1) (by omega)]
      congr 2
      exact mFi_succ _ _ _ _
  have h := key 8 0 (by decide)
  rw [mFi_zero] at h
  exact h
theorem rr_X5_total_14_at (d : Nat) {g : mG} {i : Nat} : mCall mD X (d + 1) 146 [mr i 14] g = wN g (mTt 8 (g i 14)) := by
  refine Eq.trans (mCall_eq (d := d) rfl) ?_
  show mEv X (mCall mD X d) 1 t_X5_total (mDrop t_X5_total 0) [some (mr i 14), none, none] [] g = _
  refine Eq.trans (mEv_4 _ _ _ _) ?_
  have key : ∀ m q : Nat, q + m = 8 → mEv X (mCall mD X d) 1 t_X5_total (mDrop t_X5_total 4) [some (mr i 14), some (mi (mTs (g i 14) q)), some (mi (nI q))] [] g = wN g (mTt 8 (g i 14)) := by
    intro m
    induction m with
    | zero =>
      intro q hq
      have e : q = 8 := hq
      refine Eq.trans (mEv_4 _ _ _ _) (Eq.trans (if_pos (show nI 8 ≤ nI q by rw [e]; exact Int32.le_refl _)) ?_)
      rw [e]
      exact Eq.trans (mEv_2 _ _ _ _) rfl
    | succ m ih =>
      intro q hq
      have hlt : q < 8 := by omega
      have hb : q < 2 ^ 31 := Nat.lt_trans hlt (by decide)
      refine Eq.trans (mEv_4 _ _ _ _) (Eq.trans (if_neg (nI_ge hlt (by decide))) ?_)
      refine Eq.trans (mEv_4 _ _ _ _) (Eq.trans (if_neg (nI_in hlt (by decide))) ?_)
      refine Eq.trans (mEv_4 _ _ _ _) ?_
      show mEv X (mCall mD X d) 1 t_X5_total (mDrop t_X5_total 4) [some (mr i 14), some (mi (mTs (g i 14) q + g i 14 (nI q).toNatClampNeg)), some (mi (nI q + 1))] [] g = _
      rw [nI_clamp hb, nI_1]
      exact ih (q + 1) (by omega)
  exact key 8 0 (by decide)
theorem rr_X5_total_14 (d : Nat) {g : mG} {c : mC} {i : Nat} : mCall mD X (d + 1) 146 [mr i 14] (mU g i c) = wI g i c (mTt 8 (c 14)) := by
  rw [rr_X5_total_14_at, mU_same]
theorem rr_X5_total_15_at (d : Nat) {g : mG} {i : Nat} : mCall mD X (d + 1) 146 [mr i 15] g = wN g (mTt 8 (g i 15)) := by
  refine Eq.trans (mCall_eq (d := d) rfl) ?_
  show mEv X (mCall mD X d) 1 t_X5_total (mDrop t_X5_total 0) [some (mr i 15), none, none] [] g = _
  refine Eq.trans (mEv_4 _ _ _ _) ?_
  have key : ∀ m q : Nat, q + m = 8 → mEv X (mCall mD X d) 1 t_X5_total (mDrop t_X5_total 4) [some (mr i 15), some (mi (mTs (g i 15) q)), some (mi (nI q))] [] g = wN g (mTt 8 (g i 15)) := by
    intro m
    induction m with
    | zero =>
      intro q hq
      have e : q = 8 := hq
      refine Eq.trans (mEv_4 _ _ _ _) (Eq.trans (if_pos (show nI 8 ≤ nI q by rw [e]; exact Int32.le_refl _)) ?_)
      rw [e]
      exact Eq.trans (mEv_2 _ _ _ _) rfl
    | succ m ih =>
      intro q hq
      have hlt : q < 8 := by omega
      have hb : q < 2 ^ 31 := Nat.lt_trans hlt (by decide)
      refine Eq.trans (mEv_4 _ _ _ _) (Eq.trans (if_neg (nI_ge hlt (by decide))) ?_)
      refine Eq.trans (mEv_4 _ _ _ _) (Eq.trans (if_neg (nI_in hlt (by decide))) ?_)
      refine Eq.trans (mEv_4 _ _ _ _) ?_
      show mEv X (mCall mD X d) 1 t_X5_total (mDrop t_X5_total 4) [some (mr i 15), some (mi (mTs (g i 15) q + g i 15 (nI q).toNatClampNeg)), some (mi (nI q + 1))] [] g = _
      rw [nI_clamp hb, nI_1]
      exact ih (q + 1) (by omega)
  exact key 8 0 (by decide)
theorem rr_X5_total_15 (d : Nat) {g : mG} {c : mC} {i : Nat} : mCall mD X (d + 1) 146 [mr i 15] (mU g i c) = wI g i c (mTt 8 (c 15)) := by
  rw [rr_X5_total_15_at, mU_same]
def P_X2_markOf (c : mC) (x1 x2 : Int32) : Int32 := cl 80 (c 5) (x1 * 10 + x2)
theorem rr_X2_markOf (d : Nat) {g : mG} {c : mC} {i : Nat} {x1 x2 : Int32} : mCall mD X (d + 1) 57 [mr i 1, mi x1, mi x2] (mU g i c) = wI g i c (P_X2_markOf c x1 x2) := by
  refine Eq.trans (mCall_eq (d := d) rfl) ?_
  show mEv X (mCall mD X d) 1 t_X2_markOf (mDrop t_X2_markOf 0) [some (mr i 1), some (mi x1), some (mi x2), none] [] (mU g i c) = _
  unfold P_X2_markOf cl
  refine Eq.trans (mEv_6 _ _ _ _) ?_
  show mEv X (mCall mD X d) 1 t_X2_markOf (mDrop t_X2_markOf 7) [some (mr i 1), some (mi x1), some (mi x2), some (mi (x1 * 10 + x2))] [] (mU g i c) = _
  generalize x1 * 10 + x2 = k
  by_cases h0 : k < 0
  · rw [if_pos (Or.inl h0)]
    exact Eq.trans (mEv_2 _ _ _ _) (Eq.trans (if_pos h0) (Eq.trans (mEv_2 _ _ _ _) rfl))
  · refine Eq.trans (mEv_2 _ _ _ _) (Eq.trans (if_neg h0) ?_)
    by_cases h1 : Int32.ofNat 80 ≤ k
    · rw [if_pos (Or.inr ((mle_iff (by decide) h0).mp h1))]
      exact Eq.trans (mEv_5 _ _ _ _) (Eq.trans (if_pos h1) (Eq.trans (mEv_2 _ _ _ _) rfl))
    · have h2 : ¬ (k < 0 ∨ 80 ≤ k.toNatClampNeg) := fun z => z.elim h0 (fun z => h1 ((mle_iff (by decide) h0).mpr z))
      rw [if_neg h2]
      refine Eq.trans (mEv_5 _ _ _ _) (Eq.trans (if_neg h1) ?_)
      refine Eq.trans (mEv_4 _ _ _ _) (Eq.trans (if_neg h2) ?_)
      refine Eq.trans (mEv_2 _ _ _ _) ?_
      show some (some (mi (mU g i c i 5 k.toNatClampNeg)), mU g i c) = _
      rw [mU_same]
theorem rr_X2_markOf_at (d : Nat) {g : mG} {i : Nat} {x1 x2 : Int32} : mCall mD X (d + 1) 57 [mr i 1, mi x1, mi x2] g = wN g (P_X2_markOf (g i) x1 x2) := by
  have h := rr_X2_markOf (X := X) d (g := g) (c := g i) (i := i) (x1 := x1) (x2 := x2)
  rw [mU_self] at h
  exact h.trans (wI_self _ _ _)
def P_X2_partOf (c : mC) (x1 x2 : Int32) : Int32 := cl 4 (c 7) (x1 * 2 + x2)
theorem rr_X2_partOf (d : Nat) {g : mG} {c : mC} {i : Nat} {x1 x2 : Int32} : mCall mD X (d + 1) 61 [mr i 1, mi x1, mi x2] (mU g i c) = wI g i c (P_X2_partOf c x1 x2) := by
  refine Eq.trans (mCall_eq (d := d) rfl) ?_
  show mEv X (mCall mD X d) 1 t_X2_partOf (mDrop t_X2_partOf 0) [some (mr i 1), some (mi x1), some (mi x2), none] [] (mU g i c) = _
  unfold P_X2_partOf cl
  refine Eq.trans (mEv_6 _ _ _ _) ?_
  show mEv X (mCall mD X d) 1 t_X2_partOf (mDrop t_X2_partOf 6) [some (mr i 1), some (mi x1), some (mi x2), some (mi (x1 * 2 + x2))] [] (mU g i c) = _
  generalize x1 * 2 + x2 = k
  by_cases h0 : k < 0
  · rw [if_pos (Or.inl h0)]
    exact Eq.trans (mEv_2 _ _ _ _) (Eq.trans (if_pos h0) (Eq.trans (mEv_2 _ _ _ _) rfl))
  · refine Eq.trans (mEv_2 _ _ _ _) (Eq.trans (if_neg h0) ?_)
    by_cases h1 : Int32.ofNat 4 ≤ k
    · rw [if_pos (Or.inr ((mle_iff (by decide) h0).mp h1))]
      exact Eq.trans (mEv_5 _ _ _ _) (Eq.trans (if_pos h1) (Eq.trans (mEv_2 _ _ _ _) rfl))
    · have h2 : ¬ (k < 0 ∨ 4 ≤ k.toNatClampNeg) := fun z => z.elim h0 (fun z => h1 ((mle_iff (by decide) h0).mpr z))
      rw [if_neg h2]
      refine Eq.trans (mEv_5 _ _ _ _) (Eq.trans (if_neg h1) ?_)
      refine Eq.trans (mEv_4 _ _ _ _) (Eq.trans (if_neg h2) ?_)
      refine Eq.trans (mEv_2 _ _ _ _) ?_
      show some (some (mi (mU g i c i 7 k.toNatClampNeg)), mU g i c) = _
      rw [mU_same]
theorem rr_X2_partOf_at (d : Nat) {g : mG} {i : Nat} {x1 x2 : Int32} : mCall mD X (d + 1) 61 [mr i 1, mi x1, mi x2] g = wN g (P_X2_partOf (g i) x1 x2) := by
  have h := rr_X2_partOf (X := X) d (g := g) (c := g i) (i := i) (x1 := x1) (x2 := x2)
  rw [mU_self] at h
  exact h.trans (wI_self _ _ _)
end LEAF
