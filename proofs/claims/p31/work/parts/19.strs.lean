/-! The strings: how long they are, their signs -/
section STRS
variable {X : mX}
theorem mSL_lt (n : Nat) : mSL.getD n 0 < 2 ^ 31 := by
  by_cases h : n < 18
  · revert n; decide
  · have : mSL.getD n 0 = 0 := by
      rw [List.getD_eq_getElem?_getD, List.getElem?_eq_none (by show 18 ≤ n; omega)]; rfl
    rw [this]; decide
theorem rr_J0_coder_7d493 (d : Nat) {g : mG} {n : Nat} : mCall mD X (d + 1) 281 [mr n 24] g = wN g 0 := by
  refine Eq.trans (mCall_eq (d := d) rfl) ?_
  show mEv X (mCall mD X d) 4 t_J0_coder_7d493 (mDrop t_J0_coder_7d493 0) [some (mr n 24)] [] g = _
  exact (mEv_6 _ _ _ _).trans rfl
theorem rr_J0_isLatin1_aae02 (d : Nat) {g : mG} {n : Nat} : mCall mD X (d + 1) 282 [mr n 24] g = wN g 1 := by
  refine Eq.trans (mCall_eq (d := d) rfl) ?_
  show mEv X (mCall mD X d) 2 t_J0_isLatin1_aae02 (mDrop t_J0_isLatin1_aae02 0) [some (mr n 24)] [] g = _
  exact (mEv_8 _ _ _ _).trans rfl
def P_J0_length_8abf5 (n : Nat) : Int32 := Int32.ofNat (mSL.getD n 0) >>> ((0 : Int32) &&& 31)
theorem rr_J0_length_8abf5 (d : Nat) {g : mG} {n : Nat} : mCall mD X (d + 2) 279 [mr n 24] g = wN g (P_J0_length_8abf5 n) := by
  refine Eq.trans (mCall_eq (d := d + 1) rfl) ?_
  show mEv X (mCall mD X (d + 1)) 1 t_J0_length_8abf5 (mDrop t_J0_length_8abf5 0) [some (mr n 24)] [] g = _
  have h : mEv X (mCall mD X (d + 1)) 1 t_J0_length_8abf5 (mDrop t_J0_length_8abf5 0) [some (mr n 24)] [] g = mAns (mEv X (mCall mD X (d + 1)) 1 t_J0_length_8abf5) (mDrop t_J0_length_8abf5 9) [some (mr n 24)] [mi (Int32.ofNat (mSL.getD n 0))] (mCall mD X (d + 1) 281 [mr n 24] g) := (mEv_5 _ _ _ _).trans rfl
  rw [h, rr_J0_coder_7d493]
  exact (mEv_2 _ _ _ _).trans rfl
theorem rr_J3_checkIndex_8e157 (d : Nat) {g : mG} {x y : Int32} : mCall mD X (d + 1) 285 [mi x, mi y, mr 99 99] g = (if x < 0 then none else if x < y then wN g x else none) := by
  refine Eq.trans (mCall_eq (d := d) rfl) ?_
  show mEv X (mCall mD X d) 1 t_J3_checkIndex_8e157 (mDrop t_J3_checkIndex_8e157 0) [some (mi x), some (mi y), some (mr 99 99)] [] g = _
  refine Eq.trans (mEv_2 _ _ _ _) ?_
  by_cases h : x < 0
  · rw [if_pos h]
    exact Eq.trans (if_pos h) ((mEv_4 _ _ _ _).trans rfl)
  · rw [if_neg h]
    refine Eq.trans (if_neg h) (Eq.trans (mEv_3 _ _ _ _) ?_)
    by_cases h2 : x < y
    · rw [if_pos h2]
      exact Eq.trans (if_pos h2) ((mEv_2 _ _ _ _).trans rfl)
    · rw [if_neg h2]
      exact Eq.trans (if_neg h2) ((mEv_4 _ _ _ _).trans rfl)
theorem rr_J0_checkIndex_df160 (d : Nat) {g : mG} {x y : Int32} : mCall mD X (d + 2) 283 [mi x, mi y] g = (if x < 0 then none else if x < y then some (none, g) else none) := by
  refine Eq.trans (mCall_eq (d := d + 1) rfl) ?_
  show mEv X (mCall mD X (d + 1)) 0 t_J0_checkIndex_df160 (mDrop t_J0_checkIndex_df160 0) [some (mi x), some (mi y)] [] g = _
  have h : mEv X (mCall mD X (d + 1)) 0 t_J0_checkIndex_df160 (mDrop t_J0_checkIndex_df160 0) [some (mi x), some (mi y)] [] g = mAns (mEv X (mCall mD X (d + 1)) 0 t_J0_checkIndex_df160) (mDrop t_J0_checkIndex_df160 8) [some (mi x), some (mi y)] [] (mCall mD X (d + 1) 285 [mi x, mi y, mr 99 99] g) := (mEv_4 _ _ _ _).trans rfl
  rw [h, rr_J3_checkIndex_8e157]
  by_cases h : x < 0
  · rw [if_pos h, if_pos h]; rfl
  · rw [if_neg h, if_neg h]
    by_cases h2 : x < y
    · rw [if_pos h2, if_pos h2]; exact (mEv_2 _ _ _ _).trans rfl
    · rw [if_neg h2, if_neg h2]; rfl
def mSg (n : Nat) (x : Int32) : Int32 := ((((mSB.getD n []).getD x.toNatClampNeg 0) &&& 255).toUInt32 % 65536).toInt32
def P_J0_charAt_5068e (n : Nat) (x1 : Int32) : Option Int32 := if x1 < 0 ∨ mSL.getD n 0 ≤ x1.toNatClampNeg then none else some (mSg n x1)
theorem mSg_char (b : Int32) : (((b &&& 255).toUInt32 % 65536).toInt32).toUInt32.toUInt16.toUInt32.toInt32 = ((b &&& 255).toUInt32 % 65536).toInt32 := by
  have h : ∀ u : UInt32, (u % 65536).toUInt16.toUInt32 = u % 65536 := by
    intro u
    apply UInt32.toNat_inj.mp
    simp
  show ((b &&& 255).toUInt32 % 65536).toUInt16.toUInt32.toInt32 = _
  rw [h]
theorem rr_J1_charAt_3b067 (d : Nat) {g : mG} {n : Nat} {x : Int32} : mCall mD X (d + 3) 284 [mr n 25, mi x] g = wO (wN g) (P_J0_charAt_5068e n x) := by
  refine Eq.trans (mCall_eq (d := d + 2) rfl) ?_
  show mEv X (mCall mD X (d + 2)) 3 t_J1_charAt_3b067 (mDrop t_J1_charAt_3b067 0) [some (mr n 25), some (mi x)] [] g = _
  have h : mEv X (mCall mD X (d + 2)) 3 t_J1_charAt_3b067 (mDrop t_J1_charAt_3b067 0) [some (mr n 25), some (mi x)] [] g = mAns (mEv X (mCall mD X (d + 2)) 3 t_J1_charAt_3b067) (mDrop t_J1_charAt_3b067 6) [some (mr n 25), some (mi x)] [] (mCall mD X (d + 2) 283 [mi x, mi (Int32.ofNat (mSL.getD n 0))] g) := (mEv_4 _ _ _ _).trans rfl
  rw [h, rr_J0_checkIndex_df160]
  unfold P_J0_charAt_5068e
  by_cases h : x < 0
  · rw [if_pos h, if_pos (Or.inl h)]; rfl
  · rw [if_neg h]
    by_cases h2 : mSL.getD n 0 ≤ x.toNatClampNeg
    · rw [if_pos (Or.inr h2), if_neg (Int32.not_lt.mpr ((mle_iff (mSL_lt n) h).mpr h2))]; rfl
    · have h3 : ¬ (x < 0 ∨ mSL.getD n 0 ≤ x.toNatClampNeg) := fun z => z.elim h h2
      rw [if_neg h3, if_pos (Int32.not_le.mp (fun z => h2 ((mle_iff (mSL_lt n) h).mp z)))]
      refine Eq.trans (mEv_3 _ _ _ _) (Eq.trans (if_neg h3) ?_)
      exact (mEv_4 _ _ _ _).trans (if_pos (mSg_char _))
theorem rr_J0_charAt_5068e (d : Nat) {g : mG} {n : Nat} {x : Int32} : mCall mD X (d + 4) 280 [mr n 24, mi x] g = wO (wN g) (P_J0_charAt_5068e n x) := by
  refine Eq.trans (mCall_eq (d := d + 3) rfl) ?_
  show mEv X (mCall mD X (d + 3)) 3 t_J0_charAt_5068e (mDrop t_J0_charAt_5068e 0) [some (mr n 24), some (mi x)] [] g = _
  have h : mEv X (mCall mD X (d + 3)) 3 t_J0_charAt_5068e (mDrop t_J0_charAt_5068e 0) [some (mr n 24), some (mi x)] [] g = mAns (mEv X (mCall mD X (d + 3)) 3 t_J0_charAt_5068e) (mDrop t_J0_charAt_5068e 4) [some (mr n 24), some (mi x)] [] (mCall mD X (d + 3) 282 [mr n 24] g) := (mEv_2 _ _ _ _).trans rfl
  rw [h, rr_J0_isLatin1_aae02 (d + 2)]
  show mEv X (mCall mD X (d + 3)) 3 t_J0_charAt_5068e (mDrop t_J0_charAt_5068e 4) [some (mr n 24), some (mi x)] [mi 1] g = _
  have h2 : mEv X (mCall mD X (d + 3)) 3 t_J0_charAt_5068e (mDrop t_J0_charAt_5068e 4) [some (mr n 24), some (mi x)] [mi 1] g = mAns (mEv X (mCall mD X (d + 3)) 3 t_J0_charAt_5068e) (mDrop t_J0_charAt_5068e 15) [some (mr n 24), some (mi x)] [] (mCall mD X (d + 3) 284 [mr n 25, mi x] g) := (mEv_5 _ _ _ _).trans rfl
  refine Eq.trans h2 ?_
  rw [rr_J1_charAt_3b067]
  unfold P_J0_charAt_5068e
  by_cases h3 : x < 0 ∨ mSL.getD n 0 ≤ x.toNatClampNeg
  · rw [if_pos h3]; rfl
  · rw [if_neg h3]
    exact (mEv_1 _ _ _ _).trans (if_pos (mSg_char _))
theorem ch_lt {n : Nat} {x v : Int32} (h : P_J0_charAt_5068e n x = some v) : ¬ Int32.ofNat (mSL.getD n 0) ≤ x := by
  unfold P_J0_charAt_5068e at h
  split at h
  next => cases h
  next h0 => exact fun z => h0 (Or.inr ((mle_iff (mSL_lt n) (fun q => h0 (Or.inl q))).mp z))
end STRS
