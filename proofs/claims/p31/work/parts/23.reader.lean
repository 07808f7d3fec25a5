theorem mtm_ltK {i K : Int32} (h : ¬ K < i) (hK : K.toInt < 2147483647) : mMx (i + 1) < mMx i := by
  rw [Int32.lt_iff_toInt_lt] at h
  unfold mMx
  have e : (i + 1).toInt = i.toInt + 1 := by
    have h3 := Int32.le_toInt i
    rw [Int32.toInt_add]
    have : (1 : Int32).toInt = 1 := by decide
    rw [this]
    simp only [Int.bmod]
    omega
  rw [e]; omega
theorem e_X3_putByte_0 {X : mX} {call : Nat → List mV → mG → mR} {g : mG} {x1 x2 : Int32} : mEv X call 0 t_X3_putByte (mDrop t_X3_putByte 0) [some (mr 5 16), some (mi x1), some (mi x2)] [] g = if x1 < 0 then mEv X call 0 t_X3_putByte (mDrop t_X3_putByte 21) [some (mr 5 16), some (mi x1), some (mi x2)] [] g else mEv X call 0 t_X3_putByte (mDrop t_X3_putByte 4) [some (mr 5 16), some (mi x1), some (mi x2)] [] g := (mEv_2 _ _ _ _).trans rfl
theorem e_X3_putByte_21 {X : mX} {call : Nat → List mV → mG → mR} {g : mG} {x1 x2 : Int32} : mEv X call 0 t_X3_putByte (mDrop t_X3_putByte 21) [some (mr 5 16), some (mi x1), some (mi x2)] [] g = some (none, g) := (mEv_1 _ _ _ _).trans rfl
theorem e_X3_putByte_4 {X : mX} {call : Nat → List mV → mG → mR} {g : mG} {x1 x2 : Int32} : mEv X call 0 t_X3_putByte (mDrop t_X3_putByte 4) [some (mr 5 16), some (mi x1), some (mi x2)] [] g = if 700 ≤ x1 then mEv X call 0 t_X3_putByte (mDrop t_X3_putByte 21) [some (mr 5 16), some (mi x1), some (mi x2)] [] g else mEv X call 0 t_X3_putByte (mDrop t_X3_putByte 13) [some (mr 5 16), some (mi x1), some (mi x2)] [] g := (mEv_5 _ _ _ _).trans rfl
theorem e_X3_putByte_13 {X : mX} {call : Nat → List mV → mG → mR} {g : mG} {x1 x2 : Int32} : mEv X call 0 t_X3_putByte (mDrop t_X3_putByte 13) [some (mr 5 16), some (mi x1), some (mi x2)] [] g = if (x1 : Int32) < 0 ∨ 700 ≤ (x1 : Int32).toNatClampNeg then none else mEv X call 0 t_X3_putByte (mDrop t_X3_putByte 21) [some (mr 5 16), some (mi x1), some (mi x2)] [] (mU g 5 (mP (g 5) 19 (x1).toNatClampNeg ((x2).toInt8.toInt32).toInt8.toInt32)) := (mEv_6 _ _ _ _).trans rfl
noncomputable def P_X3_putByte (c : mC) (x1 : Int32) (x2 : Int32) : (mC) := (if x1 < 0 then c else (if 700 ≤ x1 then c else (mP c 19 (x1).toNatClampNeg ((x2).toInt8.toInt32).toInt8.toInt32)))
theorem rr_X3_putByte (d : Nat) {X : mX} {g : mG} {x1 x2 : Int32} {c : mC} : mCall mD X (d + 1) 69 [mr 5 16, mi x1, mi x2] (mU g 5 c) = (wV g 5) (P_X3_putByte c x1 x2) := by
  refine Eq.trans (mCall_eq (d := d + 0) rfl) ?_
  show mEv X (mCall mD X (d + 0)) 0 t_X3_putByte (mDrop t_X3_putByte 0) [some (mr 5 16), some (mi x1), some (mi x2)] [] (mU g 5 c) = _
  refine Eq.trans (e_X3_putByte_0) ?_
  try simp only [mU_same, mU_mU]
  refine mw_ite (fun h2 => ?_) (fun h2 => ?_)
  · refine Eq.trans (e_X3_putByte_21) ?_
    try simp only [mU_same, mU_mU]
    all_goals rfl
  · refine Eq.trans (e_X3_putByte_4) ?_
    try simp only [mU_same, mU_mU]
    refine mw_ite (fun h1 => ?_) (fun h1 => ?_)
    · refine Eq.trans (e_X3_putByte_21) ?_
      try simp only [mU_same, mU_mU]
      all_goals rfl
    · refine Eq.trans (e_X3_putByte_13) ?_
      try simp only [mU_same, mU_mU]
      refine Eq.trans (if_neg (mrng (by decide) (by first | assumption | exact Int32.not_lt.mpr (by assumption)) (by first | assumption | exact Int32.not_le.mpr (by assumption)))) ?_
      refine Eq.trans (e_X3_putByte_21) ?_
      try simp only [mU_same, mU_mU]
      all_goals rfl
theorem rr_X3_putByte_at (d : Nat) {X : mX} {g : mG} {x1 x2 : Int32} : mCall mD X (d + 1) 69 [mr 5 16, mi x1, mi x2] g = some (none, mU g 5 (P_X3_putByte (g 5) x1 x2)) := by
  have h := rr_X3_putByte (X := X) d (g := g) (c := g 5) (x1 := x1) (x2 := x2)
  rw [mU_self] at h
  exact h
theorem e_X3_kindAt_0 {X : mX} {call : Nat → List mV → mG → mR} {g : mG} {x1 : Int32} : mEv X call 1 t_X3_kindAt (mDrop t_X3_kindAt 0) [some (mr 5 16), some (mi x1), none] [] g = if x1 < 0 then mEv X call 1 t_X3_kindAt (mDrop t_X3_kindAt 21) [some (mr 5 16), some (mi x1), none] [] g else mEv X call 1 t_X3_kindAt (mDrop t_X3_kindAt 4) [some (mr 5 16), some (mi x1), none] [] g := (mEv_2 _ _ _ _).trans rfl
theorem e_X3_kindAt_21 {X : mX} {call : Nat → List mV → mG → mR} {g : mG} {x1 : Int32} : mEv X call 1 t_X3_kindAt (mDrop t_X3_kindAt 21) [some (mr 5 16), some (mi x1), none] [] g = some (some (mi 0), g) := (mEv_2 _ _ _ _).trans rfl
noncomputable def J_X3_kindAt_21 (c : mC) : (Int32) := 0
theorem rj_X3_kindAt_21 (d : Nat) {X : mX} {g : mG} {x1 : Int32} {c : mC} : mEv X (mCall mD X (d + 0)) 1 t_X3_kindAt (mDrop t_X3_kindAt 21) [some (mr 5 16), some (mi x1), none] [] (mU g 5 c) = (wI g 5 c) (J_X3_kindAt_21 c) := by
  refine Eq.trans (e_X3_kindAt_21) ?_
  try simp only [mU_same, mU_mU]
  all_goals rfl
theorem e_X3_kindAt_4 {X : mX} {call : Nat → List mV → mG → mR} {g : mG} {x1 : Int32} : mEv X call 1 t_X3_kindAt (mDrop t_X3_kindAt 4) [some (mr 5 16), some (mi x1), none] [] g = if (g 5 16 2) ≤ x1 then mEv X call 1 t_X3_kindAt (mDrop t_X3_kindAt 21) [some (mr 5 16), some (mi x1), none] [] g else mEv X call 1 t_X3_kindAt (mDrop t_X3_kindAt 12) [some (mr 5 16), some (mi x1), none] [] g := (mEv_4 _ _ _ _).trans rfl
theorem e_X3_kindAt_12 {X : mX} {call : Nat → List mV → mG → mR} {g : mG} {x1 : Int32} : mEv X call 1 t_X3_kindAt (mDrop t_X3_kindAt 12) [some (mr 5 16), some (mi x1), none] [] g = if x1 < 700 then mEv X call 1 t_X3_kindAt (mDrop t_X3_kindAt 23) [some (mr 5 16), some (mi x1), none] [] g else mEv X call 1 t_X3_kindAt (mDrop t_X3_kindAt 21) [some (mr 5 16), some (mi x1), none] [] g := (mEv_5 _ _ _ _).trans rfl
theorem e_X3_kindAt_23 {X : mX} {call : Nat → List mV → mG → mR} {g : mG} {x1 : Int32} : mEv X call 1 t_X3_kindAt (mDrop t_X3_kindAt 23) [some (mr 5 16), some (mi x1), none] [] g = if (x1 : Int32) < 0 ∨ 700 ≤ (x1 : Int32).toNatClampNeg then none else mEv X call 1 t_X3_kindAt (mDrop t_X3_kindAt 29) [some (mr 5 16), some (mi x1), none] [mi (g 5 19 (x1).toNatClampNeg)] g := (mEv_4 _ _ _ _).trans rfl
theorem e_X3_kindAt_29 {X : mX} {call : Nat → List mV → mG → mR} {g : mG} {x1 s0 : Int32} : mEv X call 1 t_X3_kindAt (mDrop t_X3_kindAt 29) [some (mr 5 16), some (mi x1), none] [mi s0] g = if s0 < 97 then mEv X call 1 t_X3_kindAt (mDrop t_X3_kindAt 44) [some (mr 5 16), some (mi x1), some (mi s0)] [] g else mEv X call 1 t_X3_kindAt (mDrop t_X3_kindAt 36) [some (mr 5 16), some (mi x1), some (mi s0)] [] g := (mEv_4 _ _ _ _).trans rfl
theorem e_X3_kindAt_44 {X : mX} {call : Nat → List mV → mG → mR} {g : mG} {x1 x2 : Int32} : mEv X call 1 t_X3_kindAt (mDrop t_X3_kindAt 44) [some (mr 5 16), some (mi x1), some (mi x2)] [] g = if x2 < 48 then mEv X call 1 t_X3_kindAt (mDrop t_X3_kindAt 58) [some (mr 5 16), some (mi x1), some (mi x2)] [] g else mEv X call 1 t_X3_kindAt (mDrop t_X3_kindAt 50) [some (mr 5 16), some (mi x1), some (mi x2)] [] g := (mEv_3 _ _ _ _).trans rfl
theorem e_X3_kindAt_58 {X : mX} {call : Nat → List mV → mG → mR} {g : mG} {x1 x2 : Int32} : mEv X call 1 t_X3_kindAt (mDrop t_X3_kindAt 58) [some (mr 5 16), some (mi x1), some (mi x2)] [] g = if x2 = 10 then mEv X call 1 t_X3_kindAt (mDrop t_X3_kindAt 70) [some (mr 5 16), some (mi x1), some (mi x2)] [] g else mEv X call 1 t_X3_kindAt (mDrop t_X3_kindAt 64) [some (mr 5 16), some (mi x1), some (mi x2)] [] g := (mEv_3 _ _ _ _).trans rfl
theorem e_X3_kindAt_70 {X : mX} {call : Nat → List mV → mG → mR} {g : mG} {x1 x2 : Int32} : mEv X call 1 t_X3_kindAt (mDrop t_X3_kindAt 70) [some (mr 5 16), some (mi x1), some (mi x2)] [] g = some (some (mi 4), g) := (mEv_2 _ _ _ _).trans rfl
noncomputable def J_X3_kindAt_70 (c : mC) : (Int32) := 4
theorem rj_X3_kindAt_70 (d : Nat) {X : mX} {g : mG} {x1 x2 : Int32} {c : mC} : mEv X (mCall mD X (d + 0)) 1 t_X3_kindAt (mDrop t_X3_kindAt 70) [some (mr 5 16), some (mi x1), some (mi x2)] [] (mU g 5 c) = (wI g 5 c) (J_X3_kindAt_70 c) := by
  refine Eq.trans (e_X3_kindAt_70) ?_
  try simp only [mU_same, mU_mU]
  all_goals rfl
theorem e_X3_kindAt_64 {X : mX} {call : Nat → List mV → mG → mR} {g : mG} {x1 x2 : Int32} : mEv X call 1 t_X3_kindAt (mDrop t_X3_kindAt 64) [some (mr 5 16), some (mi x1), some (mi x2)] [] g = if x2 = 32 then mEv X call 1 t_X3_kindAt (mDrop t_X3_kindAt 70) [some (mr 5 16), some (mi x1), some (mi x2)] [] g else mEv X call 1 t_X3_kindAt (mDrop t_X3_kindAt 72) [some (mr 5 16), some (mi x1), some (mi x2)] [] g := (mEv_3 _ _ _ _).trans rfl
theorem e_X3_kindAt_72 {X : mX} {call : Nat → List mV → mG → mR} {g : mG} {x1 x2 : Int32} : mEv X call 1 t_X3_kindAt (mDrop t_X3_kindAt 72) [some (mr 5 16), some (mi x1), some (mi x2)] [] g = if x2 = 59 then mEv X call 1 t_X3_kindAt (mDrop t_X3_kindAt 78) [some (mr 5 16), some (mi x1), some (mi x2)] [] g else mEv X call 1 t_X3_kindAt (mDrop t_X3_kindAt 82) [some (mr 5 16), some (mi x1), some (mi x2)] [] g := (mEv_3 _ _ _ _).trans rfl
theorem e_X3_kindAt_78 {X : mX} {call : Nat → List mV → mG → mR} {g : mG} {x1 x2 : Int32} : mEv X call 1 t_X3_kindAt (mDrop t_X3_kindAt 78) [some (mr 5 16), some (mi x1), some (mi x2)] [] g = mEv X call 1 t_X3_kindAt (mDrop t_X3_kindAt 83) [some (mr 5 16), some (mi x1), some (mi x2)] [mi 3] g := (mEv_2 _ _ _ _).trans rfl
theorem e_X3_kindAt_83 {X : mX} {call : Nat → List mV → mG → mR} {g : mG} {x1 x2 s0 : Int32} : mEv X call 1 t_X3_kindAt (mDrop t_X3_kindAt 83) [some (mr 5 16), some (mi x1), some (mi x2)] [mi s0] g = some (some (mi s0), g) := (mEv_1 _ _ _ _).trans rfl
theorem e_X3_kindAt_82 {X : mX} {call : Nat → List mV → mG → mR} {g : mG} {x1 x2 : Int32} : mEv X call 1 t_X3_kindAt (mDrop t_X3_kindAt 82) [some (mr 5 16), some (mi x1), some (mi x2)] [] g = mEv X call 1 t_X3_kindAt (mDrop t_X3_kindAt 83) [some (mr 5 16), some (mi x1), some (mi x2)] [mi 5] g := (mEv_1 _ _ _ _).trans rfl
noncomputable def J_X3_kindAt_58 (c : mC) (x2 : Int32) : (Int32) := (if x2 = 10 then (J_X3_kindAt_70 c) else (if x2 = 32 then (J_X3_kindAt_70 c) else (if x2 = 59 then 3 else 5)))
theorem rj_X3_kindAt_58 (d : Nat) {X : mX} {g : mG} {x1 x2 : Int32} {c : mC} : mEv X (mCall mD X (d + 0)) 1 t_X3_kindAt (mDrop t_X3_kindAt 58) [some (mr 5 16), some (mi x1), some (mi x2)] [] (mU g 5 c) = (wI g 5 c) (J_X3_kindAt_58 c x2) := by
  refine Eq.trans (e_X3_kindAt_58) ?_
  try simp only [mU_same, mU_mU]
  refine mw_ite (fun h3 => ?_) (fun h3 => ?_)
  · exact rj_X3_kindAt_70 d
  · refine Eq.trans (e_X3_kindAt_64) ?_
    try simp only [mU_same, mU_mU]
    refine mw_ite (fun h2 => ?_) (fun h2 => ?_)
    · exact rj_X3_kindAt_70 d
    · refine Eq.trans (e_X3_kindAt_72) ?_
      try simp only [mU_same, mU_mU]
      refine mw_ite (fun h1 => ?_) (fun h1 => ?_)
      · refine Eq.trans (e_X3_kindAt_78) ?_
        try simp only [mU_same, mU_mU]
        refine Eq.trans (e_X3_kindAt_83) ?_
        try simp only [mU_same, mU_mU]
        all_goals rfl
      · refine Eq.trans (e_X3_kindAt_82) ?_
        try simp only [mU_same, mU_mU]
        refine Eq.trans (e_X3_kindAt_83) ?_
        try simp only [mU_same, mU_mU]
        all_goals rfl
theorem e_X3_kindAt_50 {X : mX} {call : Nat → List mV → mG → mR} {g : mG} {x1 x2 : Int32} : mEv X call 1 t_X3_kindAt (mDrop t_X3_kindAt 50) [some (mr 5 16), some (mi x1), some (mi x2)] [] g = if 57 < x2 then mEv X call 1 t_X3_kindAt (mDrop t_X3_kindAt 58) [some (mr 5 16), some (mi x1), some (mi x2)] [] g else mEv X call 1 t_X3_kindAt (mDrop t_X3_kindAt 56) [some (mr 5 16), some (mi x1), some (mi x2)] [] g := (mEv_3 _ _ _ _).trans rfl
theorem e_X3_kindAt_56 {X : mX} {call : Nat → List mV → mG → mR} {g : mG} {x1 x2 : Int32} : mEv X call 1 t_X3_kindAt (mDrop t_X3_kindAt 56) [some (mr 5 16), some (mi x1), some (mi x2)] [] g = some (some (mi 2), g) := (mEv_2 _ _ _ _).trans rfl
noncomputable def J_X3_kindAt_44 (c : mC) (x2 : Int32) : (Int32) := (if x2 < 48 then (J_X3_kindAt_58 c x2) else (if 57 < x2 then (J_X3_kindAt_58 c x2) else 2))
theorem rj_X3_kindAt_44 (d : Nat) {X : mX} {g : mG} {x1 x2 : Int32} {c : mC} : mEv X (mCall mD X (d + 0)) 1 t_X3_kindAt (mDrop t_X3_kindAt 44) [some (mr 5 16), some (mi x1), some (mi x2)] [] (mU g 5 c) = (wI g 5 c) (J_X3_kindAt_44 c x2) := by
  refine Eq.trans (e_X3_kindAt_44) ?_
  try simp only [mU_same, mU_mU]
  refine mw_ite (fun h2 => ?_) (fun h2 => ?_)
  · exact rj_X3_kindAt_58 d
  · refine Eq.trans (e_X3_kindAt_50) ?_
    try simp only [mU_same, mU_mU]
    refine mw_ite (fun h1 => ?_) (fun h1 => ?_)
    · exact rj_X3_kindAt_58 d
    · refine Eq.trans (e_X3_kindAt_56) ?_
      try simp only [mU_same, mU_mU]
      all_goals rfl
theorem e_X3_kindAt_36 {X : mX} {call : Nat → List mV → mG → mR} {g : mG} {x1 x2 : Int32} : mEv X call 1 t_X3_kindAt (mDrop t_X3_kindAt 36) [some (mr 5 16), some (mi x1), some (mi x2)] [] g = if 122 < x2 then mEv X call 1 t_X3_kindAt (mDrop t_X3_kindAt 44) [some (mr 5 16), some (mi x1), some (mi x2)] [] g else mEv X call 1 t_X3_kindAt (mDrop t_X3_kindAt 42) [some (mr 5 16), some (mi x1), some (mi x2)] [] g := (mEv_3 _ _ _ _).trans rfl
theorem e_X3_kindAt_42 {X : mX} {call : Nat → List mV → mG → mR} {g : mG} {x1 x2 : Int32} : mEv X call 1 t_X3_kindAt (mDrop t_X3_kindAt 42) [some (mr 5 16), some (mi x1), some (mi x2)] [] g = some (some (mi 1), g) := (mEv_2 _ _ _ _).trans rfl
noncomputable def P_X3_kindAt (c : mC) (x1 : Int32) : (Int32) := (if x1 < 0 then (J_X3_kindAt_21 c) else (if (c 16 2) ≤ x1 then (J_X3_kindAt_21 c) else (if x1 < 700 then (if (c 19 (x1).toNatClampNeg) < 97 then (J_X3_kindAt_44 c (c 19 (x1).toNatClampNeg)) else (if 122 < (c 19 (x1).toNatClampNeg) then (J_X3_kindAt_44 c (c 19 (x1).toNatClampNeg)) else 1)) else (J_X3_kindAt_21 c))))
theorem rr_X3_kindAt (d : Nat) {X : mX} {g : mG} {x1 : Int32} {c : mC} : mCall mD X (d + 1) 74 [mr 5 16, mi x1] (mU g 5 c) = (wI g 5 c) (P_X3_kindAt c x1) := by
  refine Eq.trans (mCall_eq (d := d + 0) rfl) ?_
  show mEv X (mCall mD X (d + 0)) 1 t_X3_kindAt (mDrop t_X3_kindAt 0) [some (mr 5 16), some (mi x1), none] [] (mU g 5 c) = _
  refine Eq.trans (e_X3_kindAt_0) ?_
  try simp only [mU_same, mU_mU]
  refine mw_ite (fun h5 => ?_) (fun h5 => ?_)
  · exact rj_X3_kindAt_21 d
  · refine Eq.trans (e_X3_kindAt_4) ?_
    try simp only [mU_same, mU_mU]
    refine mw_ite (fun h4 => ?_) (fun h4 => ?_)
    · exact rj_X3_kindAt_21 d
    · refine Eq.trans (e_X3_kindAt_12) ?_
      try simp only [mU_same, mU_mU]
      refine mw_ite (fun h3 => ?_) (fun h3 => ?_)
      · refine Eq.trans (e_X3_kindAt_23) ?_
        try simp only [mU_same, mU_mU]
        refine Eq.trans (if_neg (mrng (by decide) (by first | assumption | exact Int32.not_lt.mpr (by assumption)) (by first | assumption | exact Int32.not_le.mpr (by assumption)))) ?_
        refine Eq.trans (e_X3_kindAt_29) ?_
        try simp only [mU_same, mU_mU]
        refine mw_ite (fun h2 => ?_) (fun h2 => ?_)
        · exact rj_X3_kindAt_44 d
        · refine Eq.trans (e_X3_kindAt_36) ?_
          try simp only [mU_same, mU_mU]
          refine mw_ite (fun h1 => ?_) (fun h1 => ?_)
          · exact rj_X3_kindAt_44 d
          · refine Eq.trans (e_X3_kindAt_42) ?_
            try simp only [mU_same, mU_mU]
            all_goals rfl
      · exact rj_X3_kindAt_21 d
theorem rr_X3_kindAt_at (d : Nat) {X : mX} {g : mG} {x1 : Int32} : mCall mD X (d + 1) 74 [mr 5 16, mi x1] g = wN g (P_X3_kindAt (g 5) x1) := by
  have h := rr_X3_kindAt (X := X) d (g := g) (c := g 5) (x1 := x1)
  rw [mU_self] at h
  exact h.trans (wI_self _ _ _)
theorem e_X3_behind_0 {X : mX} {call : Nat → List mV → mG → mR} {g : mG} {x1 x2 : Int32} : mEv X call 1 t_X3_behind (mDrop t_X3_behind 0) [some (mr 5 16), some (mi x1), some (mi x2), none] [] g = mEv X call 1 t_X3_behind (mDrop t_X3_behind 2) [some (mr 5 16), some (mi x1), some (mi x2), some (mi x1)] [] g := (mEv_2 _ _ _ _).trans rfl
theorem e_X3_behind_2 {X : mX} {call : Nat → List mV → mG → mR} {g : mG} {x1 x2 x3 : Int32} : mEv X call 1 t_X3_behind (mDrop t_X3_behind 2) [some (mr 5 16), some (mi x1), some (mi x2), some (mi x3)] [] g = if (g 5 16 2) ≤ x3 then mEv X call 1 t_X3_behind (mDrop t_X3_behind 25) [some (mr 5 16), some (mi x1), some (mi x2), some (mi x3)] [] g else mEv X call 1 t_X3_behind (mDrop t_X3_behind 10) [some (mr 5 16), some (mi x1), some (mi x2), some (mi x3)] [] g := (mEv_4 _ _ _ _).trans rfl
theorem e_X3_behind_25 {X : mX} {call : Nat → List mV → mG → mR} {g : mG} {x1 x2 x3 : Int32} : mEv X call 1 t_X3_behind (mDrop t_X3_behind 25) [some (mr 5 16), some (mi x1), some (mi x2), some (mi x3)] [] g = some (some (mi x3), g) := (mEv_2 _ _ _ _).trans rfl
noncomputable def J_X3_behind_25 (c : mC) (x3 : Int32) : (Int32) := x3
theorem rj_X3_behind_25 (d : Nat) {X : mX} {g : mG} {x1 x2 x3 : Int32} {c : mC} : mEv X (mCall mD X (d + 1)) 1 t_X3_behind (mDrop t_X3_behind 25) [some (mr 5 16), some (mi x1), some (mi x2), some (mi x3)] [] (mU g 5 c) = (wI g 5 c) (J_X3_behind_25 c x3) := by
  refine Eq.trans (e_X3_behind_25) ?_
  try simp only [mU_same, mU_mU]
  all_goals rfl
theorem e_X3_behind_10 {X : mX} {call : Nat → List mV → mG → mR} {g : mG} {x1 x2 x3 : Int32} : mEv X call 1 t_X3_behind (mDrop t_X3_behind 10) [some (mr 5 16), some (mi x1), some (mi x2), some (mi x3)] [] g = mAns (mEv X call 1 t_X3_behind) (mDrop t_X3_behind 15) [some (mr 5 16), some (mi x1), some (mi x2), some (mi x3)] [] (call 74 [mr 5 16, mi x3] g) := (mEv_3 _ _ _ _).trans rfl
theorem e_X3_behind_15 {X : mX} {call : Nat → List mV → mG → mR} {g : mG} {x1 x2 x3 s0 : Int32} : mEv X call 1 t_X3_behind (mDrop t_X3_behind 15) [some (mr 5 16), some (mi x1), some (mi x2), some (mi x3)] [mi s0] g = if s0 = x2 then mEv X call 1 t_X3_behind (mDrop t_X3_behind 19) [some (mr 5 16), some (mi x1), some (mi x2), some (mi x3)] [] g else mEv X call 1 t_X3_behind (mDrop t_X3_behind 25) [some (mr 5 16), some (mi x1), some (mi x2), some (mi x3)] [] g := (mEv_2 _ _ _ _).trans rfl
theorem e_X3_behind_19 {X : mX} {call : Nat → List mV → mG → mR} {g : mG} {x1 x2 x3 : Int32} : mEv X call 1 t_X3_behind (mDrop t_X3_behind 19) [some (mr 5 16), some (mi x1), some (mi x2), some (mi x3)] [] g = mEv X call 1 t_X3_behind (mDrop t_X3_behind 2) [some (mr 5 16), some (mi x1), some (mi x2), some (mi (x3 + 1))] [] g := (mEv_2 _ _ _ _).trans rfl
noncomputable def B_X3_behind_2 (c : mC) (x2 : Int32) : (Int32) → (Int32) ⊕ (Int32) := fun x3 => (if (c 16 2) ≤ x3 then (.inr (J_X3_behind_25 c x3)) else (mBd (α := Int32) (P_X3_kindAt c x3) (fun v1 => (if v1 = x2 then (.inl (x3 + 1)) else (.inr (J_X3_behind_25 c x3))))))
set_option maxRecDepth 100000 in
theorem tm_X3_behind_2 {c : mC} {x2 : Int32} : mTm (B_X3_behind_2 c x2) := by
  refine ⟨fun x3 => mMx x3, fun s s2 h => ?_⟩
  skip
  simp only [B_X3_behind_2, mBd, mBo] at h
  (repeat' split at h) <;> first | (have h2 := Sum.inl.inj h; subst h2; dsimp only; first | exact mtm_max (by assumption) | exact mtm_lt (by assumption)) | (cases h; done)
theorem rl_X3_behind_2 (d : Nat) {X : mX} {g : mG} {x1 x2 x3 : Int32} {c : mC} : mEv X (mCall mD X (d + 1)) 1 t_X3_behind (mDrop t_X3_behind 2) [some (mr 5 16), some (mi x1), some (mi x2), some (mi x3)] [] (mU g 5 c) = (wI g 5 c) (mWh 0 (B_X3_behind_2 c x2) x3) := by
  refine mWh_ev (B := (B_X3_behind_2 c x2)) (ev := fun x3 : (Int32) => mEv X (mCall mD X (d + 1)) 1 t_X3_behind (mDrop t_X3_behind 2) [some (mr 5 16), some (mi x1), some (mi x2), some (mi x3)] [] (mU g 5 c)) (w := (wI g 5 c)) (tm_X3_behind_2) ?_ x3
  intro x3
  show mEv X (mCall mD X (d + 1)) 1 t_X3_behind (mDrop t_X3_behind 2) [some (mr 5 16), some (mi x1), some (mi x2), some (mi x3)] [] (mU g 5 c) = wB (fun x3 : (Int32) => mEv X (mCall mD X (d + 1)) 1 t_X3_behind (mDrop t_X3_behind 2) [some (mr 5 16), some (mi x1), some (mi x2), some (mi x3)] [] (mU g 5 c)) (wI g 5 c) (B_X3_behind_2 c x2 x3)
  refine Eq.trans (e_X3_behind_2) ?_
  try simp only [mU_same, mU_mU]
  refine mw_ite (fun h3 => ?_) (fun h3 => ?_)
  · refine mw_inr ?_
    exact rj_X3_behind_25 d
  · refine Eq.trans (e_X3_behind_10) ?_
    try simp only [mU_same, mU_mU]
    refine mw_cI (rr_X3_kindAt d) (fun v1 => ?_)
    refine Eq.trans (e_X3_behind_15) ?_
    try simp only [mU_same, mU_mU]
    refine mw_ite (fun h2 => ?_) (fun h2 => ?_)
    · refine Eq.trans (e_X3_behind_19) ?_
      try simp only [mU_same, mU_mU]
      exact mw_inl rfl
    · refine mw_inr ?_
      exact rj_X3_behind_25 d
noncomputable def P_X3_behind (c : mC) (x1 : Int32) (x2 : Int32) : (Int32) := (mWh 0 (B_X3_behind_2 c x2) x1)
theorem rr_X3_behind (d : Nat) {X : mX} {g : mG} {x1 x2 : Int32} {c : mC} : mCall mD X (d + 2) 73 [mr 5 16, mi x1, mi x2] (mU g 5 c) = (wI g 5 c) (P_X3_behind c x1 x2) := by
  refine Eq.trans (mCall_eq (d := d + 1) rfl) ?_
  show mEv X (mCall mD X (d + 1)) 1 t_X3_behind (mDrop t_X3_behind 0) [some (mr 5 16), some (mi x1), some (mi x2), none] [] (mU g 5 c) = _
  refine Eq.trans (e_X3_behind_0) ?_
  try simp only [mU_same, mU_mU]
  exact rl_X3_behind_2 d
theorem rr_X3_behind_at (d : Nat) {X : mX} {g : mG} {x1 x2 : Int32} : mCall mD X (d + 2) 73 [mr 5 16, mi x1, mi x2] g = wN g (P_X3_behind (g 5) x1 x2) := by
  have h := rr_X3_behind (X := X) d (g := g) (c := g 5) (x1 := x1) (x2 := x2)
  rw [mU_self] at h
  exact h.trans (wI_self _ _ _)
theorem e_X3_fail_0 {X : mX} {call : Nat → List mV → mG → mR} {g : mG} {x1 : Int32} : mEv X call 0 t_X3_fail (mDrop t_X3_fail 0) [some (mr 5 16), some (mi x1)] [] g = if (g 5 16 9) = 0 then mEv X call 0 t_X3_fail (mDrop t_X3_fail 7) [some (mr 5 16), some (mi x1)] [] g else mEv X call 0 t_X3_fail (mDrop t_X3_fail 28) [some (mr 5 16), some (mi x1)] [] g := (mEv_3 _ _ _ _).trans rfl
theorem e_X3_fail_7 {X : mX} {call : Nat → List mV → mG → mR} {g : mG} {x1 : Int32} : mEv X call 0 t_X3_fail (mDrop t_X3_fail 7) [some (mr 5 16), some (mi x1)] [] g = mEv X call 0 t_X3_fail (mDrop t_X3_fail 12) [some (mr 5 16), some (mi x1)] [] (mU g 5 (mP (g 5) 16 9 x1)) := (mEv_3 _ _ _ _).trans rfl
theorem e_X3_fail_12 {X : mX} {call : Nat → List mV → mG → mR} {g : mG} {x1 : Int32} : mEv X call 0 t_X3_fail (mDrop t_X3_fail 12) [some (mr 5 16), some (mi x1)] [] g = mEv X call 0 t_X3_fail (mDrop t_X3_fail 20) [some (mr 5 16), some (mi x1)] [] (mU g 5 (mP (g 5) 16 10 (g 5 16 4))) := (mEv_4 _ _ _ _).trans rfl
theorem e_X3_fail_20 {X : mX} {call : Nat → List mV → mG → mR} {g : mG} {x1 : Int32} : mEv X call 0 t_X3_fail (mDrop t_X3_fail 20) [some (mr 5 16), some (mi x1)] [] g = mEv X call 0 t_X3_fail (mDrop t_X3_fail 28) [some (mr 5 16), some (mi x1)] [] (mU g 5 (mP (g 5) 16 11 (g 5 16 7))) := (mEv_4 _ _ _ _).trans rfl
theorem e_X3_fail_28 {X : mX} {call : Nat → List mV → mG → mR} {g : mG} {x1 : Int32} : mEv X call 0 t_X3_fail (mDrop t_X3_fail 28) [some (mr 5 16), some (mi x1)] [] g = some (none, g) := (mEv_1 _ _ _ _).trans rfl
noncomputable def P_X3_fail (c : mC) (x1 : Int32) : (mC) := (if (c 16 9) = 0 then (mP (mP (mP c 16 9 x1) 16 10 ((mP c 16 9 x1) 16 4)) 16 11 ((mP (mP c 16 9 x1) 16 10 ((mP c 16 9 x1) 16 4)) 16 7)) else c)
theorem rr_X3_fail (d : Nat) {X : mX} {g : mG} {x1 : Int32} {c : mC} : mCall mD X (d + 1) 71 [mr 5 16, mi x1] (mU g 5 c) = (wV g 5) (P_X3_fail c x1) := by
  refine Eq.trans (mCall_eq (d := d + 0) rfl) ?_
  show mEv X (mCall mD X (d + 0)) 0 t_X3_fail (mDrop t_X3_fail 0) [some (mr 5 16), some (mi x1)] [] (mU g 5 c) = _
  refine Eq.trans (e_X3_fail_0) ?_
  try simp only [mU_same, mU_mU]
  refine mw_ite (fun h1 => ?_) (fun h1 => ?_)
  · refine Eq.trans (e_X3_fail_7) ?_
    try simp only [mU_same, mU_mU]
    refine Eq.trans (e_X3_fail_12) ?_
    try simp only [mU_same, mU_mU]
    refine Eq.trans (e_X3_fail_20) ?_
    try simp only [mU_same, mU_mU]
    refine Eq.trans (e_X3_fail_28) ?_
    try simp only [mU_same, mU_mU]
    all_goals rfl
  · refine Eq.trans (e_X3_fail_28) ?_
    try simp only [mU_same, mU_mU]
    all_goals rfl
theorem rr_X3_fail_at (d : Nat) {X : mX} {g : mG} {x1 : Int32} : mCall mD X (d + 1) 71 [mr 5 16, mi x1] g = some (none, mU g 5 (P_X3_fail (g 5) x1)) := by
  have h := rr_X3_fail (X := X) d (g := g) (c := g 5) (x1 := x1)
  rw [mU_self] at h
  exact h
theorem e_X3_signAt_0 {X : mX} {call : Nat → List mV → mG → mR} {g : mG} {x1 : Int32} : mEv X call 1 t_X3_signAt (mDrop t_X3_signAt 0) [some (mr 5 16), some (mi x1)] [] g = if x1 < 0 then mEv X call 1 t_X3_signAt (mDrop t_X3_signAt 22) [some (mr 5 16), some (mi x1)] [] g else mEv X call 1 t_X3_signAt (mDrop t_X3_signAt 4) [some (mr 5 16), some (mi x1)] [] g := (mEv_2 _ _ _ _).trans rfl
theorem e_X3_signAt_22 {X : mX} {call : Nat → List mV → mG → mR} {g : mG} {x1 : Int32} : mEv X call 1 t_X3_signAt (mDrop t_X3_signAt 22) [some (mr 5 16), some (mi x1)] [] g = mEv X call 1 t_X3_signAt (mDrop t_X3_signAt 23) [some (mr 5 16), some (mi x1)] [mi (-1)] g := (mEv_1 _ _ _ _).trans rfl
theorem e_X3_signAt_23 {X : mX} {call : Nat → List mV → mG → mR} {g : mG} {x1 s0 : Int32} : mEv X call 1 t_X3_signAt (mDrop t_X3_signAt 23) [some (mr 5 16), some (mi x1)] [mi s0] g = some (some (mi s0), g) := (mEv_1 _ _ _ _).trans rfl
noncomputable def J_X3_signAt_22 (c : mC) : (Int32) := (-1)
theorem rj_X3_signAt_22 (d : Nat) {X : mX} {g : mG} {x1 : Int32} {c : mC} : mEv X (mCall mD X (d + 0)) 1 t_X3_signAt (mDrop t_X3_signAt 22) [some (mr 5 16), some (mi x1)] [] (mU g 5 c) = (wI g 5 c) (J_X3_signAt_22 c) := by
  refine Eq.trans (e_X3_signAt_22) ?_
  try simp only [mU_same, mU_mU]
  refine Eq.trans (e_X3_signAt_23) ?_
  try simp only [mU_same, mU_mU]
  all_goals rfl
theorem e_X3_signAt_4 {X : mX} {call : Nat → List mV → mG → mR} {g : mG} {x1 : Int32} : mEv X call 1 t_X3_signAt (mDrop t_X3_signAt 4) [some (mr 5 16), some (mi x1)] [] g = if 700 ≤ x1 then mEv X call 1 t_X3_signAt (mDrop t_X3_signAt 22) [some (mr 5 16), some (mi x1)] [] g else mEv X call 1 t_X3_signAt (mDrop t_X3_signAt 13) [some (mr 5 16), some (mi x1)] [] g := (mEv_5 _ _ _ _).trans rfl
theorem e_X3_signAt_13 {X : mX} {call : Nat → List mV → mG → mR} {g : mG} {x1 : Int32} : mEv X call 1 t_X3_signAt (mDrop t_X3_signAt 13) [some (mr 5 16), some (mi x1)] [] g = if (x1 : Int32) < 0 ∨ 700 ≤ (x1 : Int32).toNatClampNeg then none else mEv X call 1 t_X3_signAt (mDrop t_X3_signAt 19) [some (mr 5 16), some (mi x1)] [mi (g 5 19 (x1).toNatClampNeg)] g := (mEv_4 _ _ _ _).trans rfl
theorem e_X3_signAt_19 {X : mX} {call : Nat → List mV → mG → mR} {g : mG} {x1 s0 : Int32} : mEv X call 1 t_X3_signAt (mDrop t_X3_signAt 19) [some (mr 5 16), some (mi x1)] [mi s0] g = mEv X call 1 t_X3_signAt (mDrop t_X3_signAt 23) [some (mr 5 16), some (mi x1)] [mi s0] g := (mEv_1 _ _ _ _).trans rfl
noncomputable def P_X3_signAt (c : mC) (x1 : Int32) : (Int32) := (if x1 < 0 then (J_X3_signAt_22 c) else (if 700 ≤ x1 then (J_X3_signAt_22 c) else (c 19 (x1).toNatClampNeg)))
theorem rr_X3_signAt (d : Nat) {X : mX} {g : mG} {x1 : Int32} {c : mC} : mCall mD X (d + 1) 75 [mr 5 16, mi x1] (mU g 5 c) = (wI g 5 c) (P_X3_signAt c x1) := by
  refine Eq.trans (mCall_eq (d := d + 0) rfl) ?_
  show mEv X (mCall mD X (d + 0)) 1 t_X3_signAt (mDrop t_X3_signAt 0) [some (mr 5 16), some (mi x1)] [] (mU g 5 c) = _
  refine Eq.trans (e_X3_signAt_0) ?_
  try simp only [mU_same, mU_mU]
  refine mw_ite (fun h2 => ?_) (fun h2 => ?_)
  · exact rj_X3_signAt_22 d
  · refine Eq.trans (e_X3_signAt_4) ?_
    try simp only [mU_same, mU_mU]
    refine mw_ite (fun h1 => ?_) (fun h1 => ?_)
    · exact rj_X3_signAt_22 d
    · refine Eq.trans (e_X3_signAt_13) ?_
      try simp only [mU_same, mU_mU]
      refine Eq.trans (if_neg (mrng (by decide) (by first | assumption | exact Int32.not_lt.mpr (by assumption)) (by first | assumption | exact Int32.not_le.mpr (by assumption)))) ?_
      refine Eq.trans (e_X3_signAt_19) ?_
      try simp only [mU_same, mU_mU]
      refine Eq.trans (e_X3_signAt_23) ?_
      try simp only [mU_same, mU_mU]
      all_goals rfl
theorem rr_X3_signAt_at (d : Nat) {X : mX} {g : mG} {x1 : Int32} : mCall mD X (d + 1) 75 [mr 5 16, mi x1] g = wN g (P_X3_signAt (g 5) x1) := by
  have h := rr_X3_signAt (X := X) d (g := g) (c := g 5) (x1 := x1)
  rw [mU_self] at h
  exact h.trans (wI_self _ _ _)
theorem e_X3_step_0 {X : mX} {call : Nat → List mV → mG → mR} {g : mG} : mEv X call 0 t_X3_step (mDrop t_X3_step 0) [some (mr 5 16), none] [] g = mAns (mEv X call 0 t_X3_step) (mDrop t_X3_step 10) [some (mr 5 16), none] [mr 5 16] (call 73 [mr 5 16, mi (g 5 16 3), mi 4] g) := (mEv_6 _ _ _ _).trans rfl
theorem e_X3_step_10 {X : mX} {call : Nat → List mV → mG → mR} {g : mG} {s1 : Int32} : mEv X call 0 t_X3_step (mDrop t_X3_step 10) [some (mr 5 16), none] [mi s1, mr 5 16] g = mEv X call 0 t_X3_step (mDrop t_X3_step 13) [some (mr 5 16), none] [] (mU g 5 (mP (g 5) 16 4 s1)) := (mEv_1 _ _ _ _).trans rfl
theorem e_X3_step_13 {X : mX} {call : Nat → List mV → mG → mR} {g : mG} : mEv X call 0 t_X3_step (mDrop t_X3_step 13) [some (mr 5 16), none] [] g = mAns (mEv X call 0 t_X3_step) (mDrop t_X3_step 22) [some (mr 5 16), none] [mr 5 16] (call 74 [mr 5 16, mi (g 5 16 4)] g) := (mEv_5 _ _ _ _).trans rfl
theorem e_X3_step_22 {X : mX} {call : Nat → List mV → mG → mR} {g : mG} {s1 : Int32} : mEv X call 0 t_X3_step (mDrop t_X3_step 22) [some (mr 5 16), none] [mi s1, mr 5 16] g = mEv X call 0 t_X3_step (mDrop t_X3_step 25) [some (mr 5 16), none] [] (mU g 5 (mP (g 5) 16 5 s1)) := (mEv_1 _ _ _ _).trans rfl
theorem e_X3_step_25 {X : mX} {call : Nat → List mV → mG → mR} {g : mG} : mEv X call 0 t_X3_step (mDrop t_X3_step 25) [some (mr 5 16), none] [] g = if (g 5 16 5) = 1 then mEv X call 0 t_X3_step (mDrop t_X3_step 42) [some (mr 5 16), none] [mr 5 16] g else mEv X call 0 t_X3_step (mDrop t_X3_step 34) [some (mr 5 16), none] [mr 5 16] g := (mEv_5 _ _ _ _).trans rfl
theorem e_X3_step_42 {X : mX} {call : Nat → List mV → mG → mR} {g : mG} : mEv X call 0 t_X3_step (mDrop t_X3_step 42) [some (mr 5 16), none] [mr 5 16] g = mAns (mEv X call 0 t_X3_step) (mDrop t_X3_step 54) [some (mr 5 16), none] [mr 5 16] (call 73 [mr 5 16, mi (g 5 16 4), mi (g 5 16 5)] g) := (mEv_6 _ _ _ _).trans rfl
theorem e_X3_step_54 {X : mX} {call : Nat → List mV → mG → mR} {g : mG} {s1 : Int32} : mEv X call 0 t_X3_step (mDrop t_X3_step 54) [some (mr 5 16), none] [mi s1, mr 5 16] g = mEv X call 0 t_X3_step (mDrop t_X3_step 63) [some (mr 5 16), none] [mi s1, mr 5 16] g := (mEv_1 _ _ _ _).trans rfl
theorem e_X3_step_63 {X : mX} {call : Nat → List mV → mG → mR} {g : mG} {s1 : Int32} : mEv X call 0 t_X3_step (mDrop t_X3_step 63) [some (mr 5 16), none] [mi s1, mr 5 16] g = mEv X call 0 t_X3_step (mDrop t_X3_step 66) [some (mr 5 16), none] [] (mU g 5 (mP (g 5) 16 3 s1)) := (mEv_1 _ _ _ _).trans rfl
theorem e_X3_step_66 {X : mX} {call : Nat → List mV → mG → mR} {g : mG} : mEv X call 0 t_X3_step (mDrop t_X3_step 66) [some (mr 5 16), none] [] g = if (g 5 16 5) = 5 then mEv X call 0 t_X3_step (mDrop t_X3_step 95) [some (mr 5 16), none] [] g else mEv X call 0 t_X3_step (mDrop t_X3_step 74) [some (mr 5 16), none] [] g := (mEv_4 _ _ _ _).trans rfl
theorem e_X3_step_95 {X : mX} {call : Nat → List mV → mG → mR} {g : mG} : mEv X call 0 t_X3_step (mDrop t_X3_step 95) [some (mr 5 16), none] [] g = mAns (mEv X call 0 t_X3_step) (mDrop t_X3_step 100) [some (mr 5 16), none] [] (call 71 [mr 5 16, mi 1] g) := (mEv_3 _ _ _ _).trans rfl
theorem e_X3_step_100 {X : mX} {call : Nat → List mV → mG → mR} {g : mG} : mEv X call 0 t_X3_step (mDrop t_X3_step 100) [some (mr 5 16), none] [] g = mEv X call 0 t_X3_step (mDrop t_X3_step 105) [some (mr 5 16), none] [] (mU g 5 (mP (g 5) 16 6 0)) := (mEv_3 _ _ _ _).trans rfl
theorem e_X3_step_105 {X : mX} {call : Nat → List mV → mG → mR} {g : mG} : mEv X call 0 t_X3_step (mDrop t_X3_step 105) [some (mr 5 16), none] [] g = mEv X call 0 t_X3_step (mDrop t_X3_step 110) [some (mr 5 16), some (mi (g 5 16 4))] [] g := (mEv_3 _ _ _ _).trans rfl
theorem e_X3_step_110 {X : mX} {call : Nat → List mV → mG → mR} {g : mG} {x1 : Int32} : mEv X call 0 t_X3_step (mDrop t_X3_step 110) [some (mr 5 16), some (mi x1)] [] g = if (g 5 16 5) = 2 then mEv X call 0 t_X3_step (mDrop t_X3_step 118) [some (mr 5 16), some (mi x1)] [] g else mEv X call 0 t_X3_step (mDrop t_X3_step 162) [some (mr 5 16), some (mi x1)] [] g := (mEv_4 _ _ _ _).trans rfl
theorem e_X3_step_118 {X : mX} {call : Nat → List mV → mG → mR} {g : mG} {x1 : Int32} : mEv X call 0 t_X3_step (mDrop t_X3_step 118) [some (mr 5 16), some (mi x1)] [] g = if (g 5 16 3) ≤ x1 then mEv X call 0 t_X3_step (mDrop t_X3_step 162) [some (mr 5 16), some (mi x1)] [] g else mEv X call 0 t_X3_step (mDrop t_X3_step 126) [some (mr 5 16), some (mi x1)] [] g := (mEv_4 _ _ _ _).trans rfl
theorem e_X3_step_162 {X : mX} {call : Nat → List mV → mG → mR} {g : mG} {x1 : Int32} : mEv X call 0 t_X3_step (mDrop t_X3_step 162) [some (mr 5 16), some (mi x1)] [] g = some (none, g) := (mEv_1 _ _ _ _).trans rfl
theorem e_X3_step_126 {X : mX} {call : Nat → List mV → mG → mR} {g : mG} {x1 : Int32} : mEv X call 0 t_X3_step (mDrop t_X3_step 126) [some (mr 5 16), some (mi x1)] [] g = if ((g 5 16 4) + 3) ≤ x1 then mEv X call 0 t_X3_step (mDrop t_X3_step 162) [some (mr 5 16), some (mi x1)] [] g else mEv X call 0 t_X3_step (mDrop t_X3_step 136) [some (mr 5 16), some (mi x1)] [] g := (mEv_6 _ _ _ _).trans rfl
theorem e_X3_step_136 {X : mX} {call : Nat → List mV → mG → mR} {g : mG} {x1 : Int32} : mEv X call 0 t_X3_step (mDrop t_X3_step 136) [some (mr 5 16), some (mi x1)] [] g = mAns (mEv X call 0 t_X3_step) (mDrop t_X3_step 149) [some (mr 5 16), some (mi x1)] [mi ((g 5 16 6) * 10), mr 5 16] (call 75 [mr 5 16, mi x1] g) := (mEv_8 _ _ _ _).trans rfl
theorem e_X3_step_149 {X : mX} {call : Nat → List mV → mG → mR} {g : mG} {x1 s1 s2 : Int32} : mEv X call 0 t_X3_step (mDrop t_X3_step 149) [some (mr 5 16), some (mi x1)] [mi s2, mi s1, mr 5 16] g = mEv X call 0 t_X3_step (mDrop t_X3_step 156) [some (mr 5 16), some (mi x1)] [] (mU g 5 (mP (g 5) 16 6 ((s1 + s2) - 48))) := (mEv_4 _ _ _ _).trans rfl
theorem e_X3_step_156 {X : mX} {call : Nat → List mV → mG → mR} {g : mG} {x1 : Int32} : mEv X call 0 t_X3_step (mDrop t_X3_step 156) [some (mr 5 16), some (mi x1)] [] g = mEv X call 0 t_X3_step (mDrop t_X3_step 110) [some (mr 5 16), some (mi (x1 + 1))] [] g := (mEv_2 _ _ _ _).trans rfl
noncomputable def B_X3_step_110  : (Int32 × mC) → (Int32 × mC) ⊕ (mC) := fun s => match s with | (x1, c) => (if (c 16 5) = 2 then (if (c 16 3) ≤ x1 then (.inr c) else (if ((c 16 4) + 3) ≤ x1 then (.inr c) else (mBd (α := Int32) (P_X3_signAt c x1) (fun v1 => (.inl ((x1 + 1), (mP c 16 6 ((((c 16 6) * 10) + v1) - 48)))))))) else (.inr c))
set_option maxRecDepth 100000 in
theorem tm_X3_step_110  : mTm (B_X3_step_110 ) := by
  refine ⟨fun s => match s with | (x1, c) => mMx x1, fun s s2 h => ?_⟩
  obtain ⟨x1, c⟩ := s
  simp only [B_X3_step_110, mBd, mBo] at h
  (repeat' split at h) <;> first | (have h2 := Sum.inl.inj h; subst h2; dsimp only; first | exact mtm_max (by assumption) | exact mtm_lt (by assumption)) | (cases h; done)
theorem rl_X3_step_110 (d : Nat) {X : mX} {g : mG} {x1 : Int32} {c : mC} : mEv X (mCall mD X (d + 2)) 0 t_X3_step (mDrop t_X3_step 110) [some (mr 5 16), some (mi x1)] [] (mU g 5 c) = (wV g 5) (mWh (fun _ _ => 0) B_X3_step_110 (x1, c)) := by
  refine mWh_ev (B := B_X3_step_110) (ev := fun s : (Int32 × mC) => match s with | (x1, c) => mEv X (mCall mD X (d + 2)) 0 t_X3_step (mDrop t_X3_step 110) [some (mr 5 16), some (mi x1)] [] (mU g 5 c)) (w := (wV g 5)) (tm_X3_step_110) ?_ (x1, c)
  rintro ⟨x1, c⟩
  show mEv X (mCall mD X (d + 2)) 0 t_X3_step (mDrop t_X3_step 110) [some (mr 5 16), some (mi x1)] [] (mU g 5 c) = wB (fun s : (Int32 × mC) => match s with | (x1, c) => mEv X (mCall mD X (d + 2)) 0 t_X3_step (mDrop t_X3_step 110) [some (mr 5 16), some (mi x1)] [] (mU g 5 c)) (wV g 5) (B_X3_step_110  (x1, c))
  refine Eq.trans (e_X3_step_110) ?_
  try simp only [mU_same, mU_mU]
  refine mw_ite (fun h4 => ?_) (fun h4 => ?_)
  · refine Eq.trans (e_X3_step_118) ?_
    try simp only [mU_same, mU_mU]
    refine mw_ite (fun h3 => ?_) (fun h3 => ?_)
    · refine mw_inr ?_
      refine Eq.trans (e_X3_step_162) ?_
      try simp only [mU_same, mU_mU]
      all_goals rfl
    · refine Eq.trans (e_X3_step_126) ?_
      try simp only [mU_same, mU_mU]
      refine mw_ite (fun h2 => ?_) (fun h2 => ?_)
      · refine mw_inr ?_
        refine Eq.trans (e_X3_step_162) ?_
        try simp only [mU_same, mU_mU]
        all_goals rfl
      · refine Eq.trans (e_X3_step_136) ?_
        try simp only [mU_same, mU_mU]
        refine mw_cI (rr_X3_signAt (d + 1)) (fun v1 => ?_)
        refine Eq.trans (e_X3_step_149) ?_
        try simp only [mU_same, mU_mU]
        refine Eq.trans (e_X3_step_156) ?_
        try simp only [mU_same, mU_mU]
        exact mw_inl rfl
  · refine mw_inr ?_
    refine Eq.trans (e_X3_step_162) ?_
    try simp only [mU_same, mU_mU]
    all_goals rfl
noncomputable def J_X3_step_100 (c : mC) : (mC) := (mWh (fun _ _ => 0) B_X3_step_110 (((mP c 16 6 0) 16 4), (mP c 16 6 0)))
theorem rj_X3_step_100 (d : Nat) {X : mX} {g : mG} {c : mC} : mEv X (mCall mD X (d + 2)) 0 t_X3_step (mDrop t_X3_step 100) [some (mr 5 16), none] [] (mU g 5 c) = (wV g 5) (J_X3_step_100 c) := by
  refine Eq.trans (e_X3_step_100) ?_
  try simp only [mU_same, mU_mU]
  refine Eq.trans (e_X3_step_105) ?_
  try simp only [mU_same, mU_mU]
  exact rl_X3_step_110 d
noncomputable def J_X3_step_95 (c : mC) : (mC) := (mBd (α := mC) (P_X3_fail c 1) (fun c1 => (J_X3_step_100 c1)))
theorem rj_X3_step_95 (d : Nat) {X : mX} {g : mG} {c : mC} : mEv X (mCall mD X (d + 2)) 0 t_X3_step (mDrop t_X3_step 95) [some (mr 5 16), none] [] (mU g 5 c) = (wV g 5) (J_X3_step_95 c) := by
  refine Eq.trans (e_X3_step_95) ?_
  try simp only [mU_same, mU_mU]
  refine mw_cV (rr_X3_fail (d + 1)) (fun c1 => ?_)
  exact rj_X3_step_100 d
theorem e_X3_step_74 {X : mX} {call : Nat → List mV → mG → mR} {g : mG} : mEv X call 0 t_X3_step (mDrop t_X3_step 74) [some (mr 5 16), none] [] g = if (g 5 16 5) = 2 then mEv X call 0 t_X3_step (mDrop t_X3_step 82) [some (mr 5 16), none] [] g else mEv X call 0 t_X3_step (mDrop t_X3_step 100) [some (mr 5 16), none] [] g := (mEv_4 _ _ _ _).trans rfl
theorem e_X3_step_82 {X : mX} {call : Nat → List mV → mG → mR} {g : mG} : mEv X call 0 t_X3_step (mDrop t_X3_step 82) [some (mr 5 16), none] [] g = if ((g 5 16 3) - (g 5 16 4)) ≤ 3 then mEv X call 0 t_X3_step (mDrop t_X3_step 100) [some (mr 5 16), none] [] g else mEv X call 0 t_X3_step (mDrop t_X3_step 95) [some (mr 5 16), none] [] g := (mEv_7 _ _ _ _).trans rfl
noncomputable def J_X3_step_63 (c : mC) (s1 : Int32) : (mC) := (if ((mP c 16 3 s1) 16 5) = 5 then (J_X3_step_95 (mP c 16 3 s1)) else (if ((mP c 16 3 s1) 16 5) = 2 then (if (((mP c 16 3 s1) 16 3) - ((mP c 16 3 s1) 16 4)) ≤ 3 then (J_X3_step_100 (mP c 16 3 s1)) else (J_X3_step_95 (mP c 16 3 s1))) else (J_X3_step_100 (mP c 16 3 s1))))
theorem rj_X3_step_63 (d : Nat) {X : mX} {g : mG} {s1 : Int32} {c : mC} : mEv X (mCall mD X (d + 2)) 0 t_X3_step (mDrop t_X3_step 63) [some (mr 5 16), none] [mi s1, mr 5 16] (mU g 5 c) = (wV g 5) (J_X3_step_63 c s1) := by
  refine Eq.trans (e_X3_step_63) ?_
  try simp only [mU_same, mU_mU]
  refine Eq.trans (e_X3_step_66) ?_
  try simp only [mU_same, mU_mU]
  refine mw_ite (fun h3 => ?_) (fun h3 => ?_)
  · exact rj_X3_step_95 d
  · refine Eq.trans (e_X3_step_74) ?_
    try simp only [mU_same, mU_mU]
    refine mw_ite (fun h2 => ?_) (fun h2 => ?_)
    · refine Eq.trans (e_X3_step_82) ?_
      try simp only [mU_same, mU_mU]
      refine mw_ite (fun h1 => ?_) (fun h1 => ?_)
      · exact rj_X3_step_100 d
      · exact rj_X3_step_95 d
    · exact rj_X3_step_100 d
noncomputable def J_X3_step_42 (c : mC) : (mC) := (mBd (α := Int32) (P_X3_behind c (c 16 4) (c 16 5)) (fun v1 => (J_X3_step_63 c v1)))
theorem rj_X3_step_42 (d : Nat) {X : mX} {g : mG} {c : mC} : mEv X (mCall mD X (d + 2)) 0 t_X3_step (mDrop t_X3_step 42) [some (mr 5 16), none] [mr 5 16] (mU g 5 c) = (wV g 5) (J_X3_step_42 c) := by
  refine Eq.trans (e_X3_step_42) ?_
  try simp only [mU_same, mU_mU]
  refine mw_cI (rr_X3_behind d) (fun v1 => ?_)
  refine Eq.trans (e_X3_step_54) ?_
  try simp only [mU_same, mU_mU]
  exact rj_X3_step_63 d
theorem e_X3_step_34 {X : mX} {call : Nat → List mV → mG → mR} {g : mG} : mEv X call 0 t_X3_step (mDrop t_X3_step 34) [some (mr 5 16), none] [mr 5 16] g = if (g 5 16 5) = 2 then mEv X call 0 t_X3_step (mDrop t_X3_step 42) [some (mr 5 16), none] [mr 5 16] g else mEv X call 0 t_X3_step (mDrop t_X3_step 57) [some (mr 5 16), none] [mr 5 16] g := (mEv_4 _ _ _ _).trans rfl
theorem e_X3_step_57 {X : mX} {call : Nat → List mV → mG → mR} {g : mG} : mEv X call 0 t_X3_step (mDrop t_X3_step 57) [some (mr 5 16), none] [mr 5 16] g = mEv X call 0 t_X3_step (mDrop t_X3_step 63) [some (mr 5 16), none] [mi ((g 5 16 4) + 1), mr 5 16] g := (mEv_4 _ _ _ _).trans rfl
noncomputable def P_X3_step (c : mC) : (mC) := (mBd (α := Int32) (P_X3_behind c (c 16 3) 4) (fun v1 => (mBd (α := Int32) (P_X3_kindAt (mP c 16 4 v1) ((mP c 16 4 v1) 16 4)) (fun v2 => (if ((mP (mP c 16 4 v1) 16 5 v2) 16 5) = 1 then (J_X3_step_42 (mP (mP c 16 4 v1) 16 5 v2)) else (if ((mP (mP c 16 4 v1) 16 5 v2) 16 5) = 2 then (J_X3_step_42 (mP (mP c 16 4 v1) 16 5 v2)) else (J_X3_step_63 (mP (mP c 16 4 v1) 16 5 v2) (((mP (mP c 16 4 v1) 16 5 v2) 16 4) + 1))))))))
theorem rr_X3_step (d : Nat) {X : mX} {g : mG} {c : mC} : mCall mD X (d + 3) 72 [mr 5 16] (mU g 5 c) = (wV g 5) (P_X3_step c) := by
  refine Eq.trans (mCall_eq (d := d + 2) rfl) ?_
  show mEv X (mCall mD X (d + 2)) 0 t_X3_step (mDrop t_X3_step 0) [some (mr 5 16), none] [] (mU g 5 c) = _
  refine Eq.trans (e_X3_step_0) ?_
  try simp only [mU_same, mU_mU]
  refine mw_cI (rr_X3_behind d) (fun v1 => ?_)
  refine Eq.trans (e_X3_step_10) ?_
  try simp only [mU_same, mU_mU]
  refine Eq.trans (e_X3_step_13) ?_
  try simp only [mU_same, mU_mU]
  refine mw_cI (rr_X3_kindAt (d + 1)) (fun v2 => ?_)
  refine Eq.trans (e_X3_step_22) ?_
  try simp only [mU_same, mU_mU]
  refine Eq.trans (e_X3_step_25) ?_
  try simp only [mU_same, mU_mU]
  refine mw_ite (fun h4 => ?_) (fun h4 => ?_)
  · exact rj_X3_step_42 d
  · refine Eq.trans (e_X3_step_34) ?_
    try simp only [mU_same, mU_mU]
    refine mw_ite (fun h3 => ?_) (fun h3 => ?_)
    · exact rj_X3_step_42 d
    · refine Eq.trans (e_X3_step_57) ?_
      try simp only [mU_same, mU_mU]
      exact rj_X3_step_63 d
theorem rr_X3_step_at (d : Nat) {X : mX} {g : mG} : mCall mD X (d + 3) 72 [mr 5 16] g = some (none, mU g 5 (P_X3_step (g 5))) := by
  have h := rr_X3_step (X := X) d (g := g) (c := g 5)
  rw [mU_self] at h
  exact h
theorem e_X3_wordOf_0 {X : mX} {call : Nat → List mV → mG → mR} {g : mG} {x0 : Int32} : mEv X call 5 t_X3_wordOf (mDrop t_X3_wordOf 0) [some (mi x0)] [] g = if x0 = 0 then mEv X call 5 t_X3_wordOf (mDrop t_X3_wordOf 52) [some (mi x0)] [] g else (if x0 = 1 then mEv X call 5 t_X3_wordOf (mDrop t_X3_wordOf 55) [some (mi x0)] [] g else (if x0 = 2 then mEv X call 5 t_X3_wordOf (mDrop t_X3_wordOf 58) [some (mi x0)] [] g else (if x0 = 3 then mEv X call 5 t_X3_wordOf (mDrop t_X3_wordOf 61) [some (mi x0)] [] g else (if x0 = 4 then mEv X call 5 t_X3_wordOf (mDrop t_X3_wordOf 64) [some (mi x0)] [] g else (if x0 = 5 then mEv X call 5 t_X3_wordOf (mDrop t_X3_wordOf 67) [some (mi x0)] [] g else (if x0 = 6 then mEv X call 5 t_X3_wordOf (mDrop t_X3_wordOf 70) [some (mi x0)] [] g else (if x0 = 7 then mEv X call 5 t_X3_wordOf (mDrop t_X3_wordOf 73) [some (mi x0)] [] g else (if x0 = 8 then mEv X call 5 t_X3_wordOf (mDrop t_X3_wordOf 76) [some (mi x0)] [] g else (mEv X call 5 t_X3_wordOf (mDrop t_X3_wordOf 79) [some (mi x0)] [] g))))))))) := (mEv_2 _ _ _ _).trans rfl
theorem e_X3_wordOf_52 {X : mX} {call : Nat → List mV → mG → mR} {g : mG} {x0 : Int32} : mEv X call 5 t_X3_wordOf (mDrop t_X3_wordOf 52) [some (mi x0)] [] g = some (some (mr 7 24), g) := (mEv_2 _ _ _ _).trans rfl
theorem e_X3_wordOf_55 {X : mX} {call : Nat → List mV → mG → mR} {g : mG} {x0 : Int32} : mEv X call 5 t_X3_wordOf (mDrop t_X3_wordOf 55) [some (mi x0)] [] g = some (some (mr 8 24), g) := (mEv_2 _ _ _ _).trans rfl
theorem e_X3_wordOf_58 {X : mX} {call : Nat → List mV → mG → mR} {g : mG} {x0 : Int32} : mEv X call 5 t_X3_wordOf (mDrop t_X3_wordOf 58) [some (mi x0)] [] g = some (some (mr 9 24), g) := (mEv_2 _ _ _ _).trans rfl
theorem e_X3_wordOf_61 {X : mX} {call : Nat → List mV → mG → mR} {g : mG} {x0 : Int32} : mEv X call 5 t_X3_wordOf (mDrop t_X3_wordOf 61) [some (mi x0)] [] g = some (some (mr 10 24), g) := (mEv_2 _ _ _ _).trans rfl
theorem e_X3_wordOf_64 {X : mX} {call : Nat → List mV → mG → mR} {g : mG} {x0 : Int32} : mEv X call 5 t_X3_wordOf (mDrop t_X3_wordOf 64) [some (mi x0)] [] g = some (some (mr 11 24), g) := (mEv_2 _ _ _ _).trans rfl
theorem e_X3_wordOf_67 {X : mX} {call : Nat → List mV → mG → mR} {g : mG} {x0 : Int32} : mEv X call 5 t_X3_wordOf (mDrop t_X3_wordOf 67) [some (mi x0)] [] g = some (some (mr 12 24), g) := (mEv_2 _ _ _ _).trans rfl
theorem e_X3_wordOf_70 {X : mX} {call : Nat → List mV → mG → mR} {g : mG} {x0 : Int32} : mEv X call 5 t_X3_wordOf (mDrop t_X3_wordOf 70) [some (mi x0)] [] g = some (some (mr 13 24), g) := (mEv_2 _ _ _ _).trans rfl
theorem e_X3_wordOf_73 {X : mX} {call : Nat → List mV → mG → mR} {g : mG} {x0 : Int32} : mEv X call 5 t_X3_wordOf (mDrop t_X3_wordOf 73) [some (mi x0)] [] g = some (some (mr 14 24), g) := (mEv_2 _ _ _ _).trans rfl
theorem e_X3_wordOf_76 {X : mX} {call : Nat → List mV → mG → mR} {g : mG} {x0 : Int32} : mEv X call 5 t_X3_wordOf (mDrop t_X3_wordOf 76) [some (mi x0)] [] g = some (some (mr 15 24), g) := (mEv_2 _ _ _ _).trans rfl
theorem e_X3_wordOf_79 {X : mX} {call : Nat → List mV → mG → mR} {g : mG} {x0 : Int32} : mEv X call 5 t_X3_wordOf (mDrop t_X3_wordOf 79) [some (mi x0)] [] g = some (some (mr 16 24), g) := (mEv_2 _ _ _ _).trans rfl
def P_X3_wordOf (x0 : Int32) : Nat := if x0 = 0 then 7 else if x0 = 1 then 8 else if x0 = 2 then 9 else if x0 = 3 then 10 else if x0 = 4 then 11 else if x0 = 5 then 12 else if x0 = 6 then 13 else if x0 = 7 then 14 else if x0 = 8 then 15 else 16
theorem rr_X3_wordOf (d : Nat) {X : mX} {g : mG} {x0 : Int32} : mCall mD X (d + 1) 84 [mi x0] g = some (some (mr (P_X3_wordOf x0) 24), g) := by
  refine Eq.trans (mCall_eq (d := d) rfl) ?_
  show mEv X (mCall mD X d) 5 t_X3_wordOf (mDrop t_X3_wordOf 0) [some (mi x0)] [] g = (fun n : Nat => (some (some (mr n 24), g) : mR)) (if x0 = 0 then 7 else if x0 = 1 then 8 else if x0 = 2 then 9 else if x0 = 3 then 10 else if x0 = 4 then 11 else if x0 = 5 then 12 else if x0 = 6 then 13 else if x0 = 7 then 14 else if x0 = 8 then 15 else 16)
  refine Eq.trans e_X3_wordOf_0 ?_
  refine mw_ite (w := fun n : Nat => (some (some (mr n 24), g) : mR)) (fun _ => e_X3_wordOf_52) (fun _ => ?_)
  refine mw_ite (w := fun n : Nat => (some (some (mr n 24), g) : mR)) (fun _ => e_X3_wordOf_55) (fun _ => ?_)
  refine mw_ite (w := fun n : Nat => (some (some (mr n 24), g) : mR)) (fun _ => e_X3_wordOf_58) (fun _ => ?_)
  refine mw_ite (w := fun n : Nat => (some (some (mr n 24), g) : mR)) (fun _ => e_X3_wordOf_61) (fun _ => ?_)
  refine mw_ite (w := fun n : Nat => (some (some (mr n 24), g) : mR)) (fun _ => e_X3_wordOf_64) (fun _ => ?_)
  refine mw_ite (w := fun n : Nat => (some (some (mr n 24), g) : mR)) (fun _ => e_X3_wordOf_67) (fun _ => ?_)
  refine mw_ite (w := fun n : Nat => (some (some (mr n 24), g) : mR)) (fun _ => e_X3_wordOf_70) (fun _ => ?_)
  refine mw_ite (w := fun n : Nat => (some (some (mr n 24), g) : mR)) (fun _ => e_X3_wordOf_73) (fun _ => ?_)
  refine mw_ite (w := fun n : Nat => (some (some (mr n 24), g) : mR)) (fun _ => e_X3_wordOf_76) (fun _ => ?_)
  exact e_X3_wordOf_79
theorem e_X3_isWord_0 {X : mX} {call : Nat → List mV → mG → mR} {g : mG} {n : Nat} : mEv X call 2 t_X3_isWord (mDrop t_X3_isWord 0) [some (mr 5 16), some (mr n 24), none] [] g = if (g 5 16 5) = 1 then mEv X call 2 t_X3_isWord (mDrop t_X3_isWord 8) [some (mr 5 16), some (mr n 24), none] [] g else mEv X call 2 t_X3_isWord (mDrop t_X3_isWord 24) [some (mr 5 16), some (mr n 24), none] [] g := (mEv_4 _ _ _ _).trans rfl
theorem e_X3_isWord_8 {X : mX} {call : Nat → List mV → mG → mR} {g : mG} {n : Nat} : mEv X call 2 t_X3_isWord (mDrop t_X3_isWord 8) [some (mr 5 16), some (mr n 24), none] [] g = mAns (mEv X call 2 t_X3_isWord) (mDrop t_X3_isWord 21) [some (mr 5 16), some (mr n 24), none] [mi ((g 5 16 3) - (g 5 16 4))] (call 279 [mr n 24] g) := (mEv_7 _ _ _ _).trans rfl
theorem e_X3_isWord_21 {X : mX} {call : Nat → List mV → mG → mR} {g : mG} {s0 s1 : Int32} {n : Nat} : mEv X call 2 t_X3_isWord (mDrop t_X3_isWord 21) [some (mr 5 16), some (mr n 24), none] [mi s1, mi s0] g = if s0 = s1 then mEv X call 2 t_X3_isWord (mDrop t_X3_isWord 26) [some (mr 5 16), some (mr n 24), none] [] g else mEv X call 2 t_X3_isWord (mDrop t_X3_isWord 24) [some (mr 5 16), some (mr n 24), none] [] g := (mEv_1 _ _ _ _).trans rfl
theorem e_X3_isWord_24 {X : mX} {call : Nat → List mV → mG → mR} {g : mG} {n : Nat} : mEv X call 2 t_X3_isWord (mDrop t_X3_isWord 24) [some (mr 5 16), some (mr n 24), none] [] g = if (0 : Int32) &&& 1 = 0 then some (some (mi 0), g) else none := (mEv_2 _ _ _ _).trans rfl
theorem e_X3_isWord_26 {X : mX} {call : Nat → List mV → mG → mR} {g : mG} {n : Nat} : mEv X call 2 t_X3_isWord (mDrop t_X3_isWord 26) [some (mr 5 16), some (mr n 24), none] [] g = mEv X call 2 t_X3_isWord (mDrop t_X3_isWord 28) [some (mr 5 16), some (mr n 24), some (mi 0)] [] g := (mEv_2 _ _ _ _).trans rfl
theorem e_X3_isWord_28 {X : mX} {call : Nat → List mV → mG → mR} {g : mG} {x2 : Int32} {n : Nat} : mEv X call 2 t_X3_isWord (mDrop t_X3_isWord 28) [some (mr 5 16), some (mr n 24), some (mi x2)] [] g = mAns (mEv X call 2 t_X3_isWord) (mDrop t_X3_isWord 33) [some (mr 5 16), some (mr n 24), some (mi x2)] [mi x2] (call 279 [mr n 24] g) := (mEv_3 _ _ _ _).trans rfl
theorem e_X3_isWord_33 {X : mX} {call : Nat → List mV → mG → mR} {g : mG} {x2 s0 s1 : Int32} {n : Nat} : mEv X call 2 t_X3_isWord (mDrop t_X3_isWord 33) [some (mr 5 16), some (mr n 24), some (mi x2)] [mi s1, mi s0] g = if s1 ≤ s0 then mEv X call 2 t_X3_isWord (mDrop t_X3_isWord 62) [some (mr 5 16), some (mr n 24), some (mi x2)] [] g else mEv X call 2 t_X3_isWord (mDrop t_X3_isWord 36) [some (mr 5 16), some (mr n 24), some (mi x2)] [] g := (mEv_1 _ _ _ _).trans rfl
theorem e_X3_isWord_36 {X : mX} {call : Nat → List mV → mG → mR} {g : mG} {x2 : Int32} {n : Nat} : mEv X call 2 t_X3_isWord (mDrop t_X3_isWord 36) [some (mr 5 16), some (mr n 24), some (mi x2)] [] g = mAns (mEv X call 2 t_X3_isWord) (mDrop t_X3_isWord 46) [some (mr 5 16), some (mr n 24), some (mi x2)] [] (call 75 [mr 5 16, mi ((g 5 16 4) + x2)] g) := (mEv_6 _ _ _ _).trans rfl
theorem e_X3_isWord_46 {X : mX} {call : Nat → List mV → mG → mR} {g : mG} {x2 s0 : Int32} {n : Nat} : mEv X call 2 t_X3_isWord (mDrop t_X3_isWord 46) [some (mr 5 16), some (mr n 24), some (mi x2)] [mi s0] g = mAns (mEv X call 2 t_X3_isWord) (mDrop t_X3_isWord 51) [some (mr 5 16), some (mr n 24), some (mi x2)] [mi s0] (call 280 [mr n 24, mi x2] g) := (mEv_3 _ _ _ _).trans rfl
theorem e_X3_isWord_51 {X : mX} {call : Nat → List mV → mG → mR} {g : mG} {x2 s0 s1 : Int32} {n : Nat} : mEv X call 2 t_X3_isWord (mDrop t_X3_isWord 51) [some (mr 5 16), some (mr n 24), some (mi x2)] [mi s1, mi s0] g = if s0 = s1 then mEv X call 2 t_X3_isWord (mDrop t_X3_isWord 56) [some (mr 5 16), some (mr n 24), some (mi x2)] [] g else mEv X call 2 t_X3_isWord (mDrop t_X3_isWord 54) [some (mr 5 16), some (mr n 24), some (mi x2)] [] g := (mEv_1 _ _ _ _).trans rfl
theorem e_X3_isWord_54 {X : mX} {call : Nat → List mV → mG → mR} {g : mG} {x2 : Int32} {n : Nat} : mEv X call 2 t_X3_isWord (mDrop t_X3_isWord 54) [some (mr 5 16), some (mr n 24), some (mi x2)] [] g = if (0 : Int32) &&& 1 = 0 then some (some (mi 0), g) else none := (mEv_2 _ _ _ _).trans rfl
theorem e_X3_isWord_56 {X : mX} {call : Nat → List mV → mG → mR} {g : mG} {x2 : Int32} {n : Nat} : mEv X call 2 t_X3_isWord (mDrop t_X3_isWord 56) [some (mr 5 16), some (mr n 24), some (mi x2)] [] g = mEv X call 2 t_X3_isWord (mDrop t_X3_isWord 28) [some (mr 5 16), some (mr n 24), some (mi (x2 + 1))] [] g := (mEv_2 _ _ _ _).trans rfl
theorem e_X3_isWord_62 {X : mX} {call : Nat → List mV → mG → mR} {g : mG} {x2 : Int32} {n : Nat} : mEv X call 2 t_X3_isWord (mDrop t_X3_isWord 62) [some (mr 5 16), some (mr n 24), some (mi x2)] [] g = if (1 : Int32) &&& 1 = 1 then some (some (mi 1), g) else none := (mEv_2 _ _ _ _).trans rfl
noncomputable def isW (n : Nat) (c : mC) : Nat → Nat → Int32
  | 0, _ => 1
  | m + 1, k => if P_X3_signAt c (c 16 4 + Int32.ofNat k) = mSg n (Int32.ofNat k) then isW n c m (k + 1) else 0
noncomputable def P_X3_isWord (n : Nat) (c : mC) : Int32 := if c 16 5 = 1 then (if c 16 3 - c 16 4 = P_J0_length_8abf5 n then isW n c (mSL.getD n 0) 0 else 0) else 0
theorem P_len (n : Nat) : P_J0_length_8abf5 n = Int32.ofNat (mSL.getD n 0) := by
  unfold P_J0_length_8abf5
  by_cases h : n < 18
  · revert n; decide
  · have : mSL.getD n 0 = 0 := by
      rw [List.getD_eq_getElem?_getD, List.getElem?_eq_none (by show 18 ≤ n; omega)]; rfl
    rw [this]; decide
theorem mSL_97 (n : Nat) : mSL.getD n 0 < 97 := by
  by_cases h : n < 18
  · revert n; decide
  · have : mSL.getD n 0 = 0 := by
      rw [List.getD_eq_getElem?_getD, List.getElem?_eq_none (by show 18 ≤ n; omega)]; rfl
    rw [this]; decide
theorem P_char {n k : Nat} (h : k < mSL.getD n 0) : P_J0_charAt_5068e n (Int32.ofNat k) = some (mSg n (Int32.ofNat k)) := by
  have hk : k < 2 ^ 31 := Nat.lt_trans h (mSL_lt n)
  unfold P_J0_charAt_5068e
  rw [if_neg]
  rintro (z | z)
  · exact nI_pos hk z
  · have e : (Int32.ofNat k).toNatClampNeg = k := nI_clamp hk
    rw [e] at z; omega
theorem rl_isWord (d : Nat) {X : mX} {g : mG} {c : mC} {n : Nat} : ∀ (m k : Nat), k + m = mSL.getD n 0 → mEv X (mCall mD X (d + 4)) 2 t_X3_isWord (mDrop t_X3_isWord 28) [some (mr 5 16), some (mr n 24), some (mi (Int32.ofNat k))] [] (mU g 5 c) = wI g 5 c (isW n c m k) := by
  intro m
  induction m with
  | zero =>
    intro k hk
    refine Eq.trans e_X3_isWord_28 ?_
    rw [rr_J0_length_8abf5 (d + 2), P_len]
    show mEv X (mCall mD X (d + 4)) 2 t_X3_isWord (mDrop t_X3_isWord 33) _ [mi (Int32.ofNat (mSL.getD n 0)), mi (Int32.ofNat k)] (mU g 5 c) = _
    refine Eq.trans e_X3_isWord_33 ?_
    have hk2 : k = mSL.getD n 0 := hk
    rw [if_pos (by rw [hk2]; exact Int32.le_refl _)]
    exact Eq.trans e_X3_isWord_62 (if_pos (by decide))
  | succ m ih =>
    intro k hk
    have hk3 := mSL_97 n
    have hk1 : k < 2 ^ 31 := by omega
    refine Eq.trans e_X3_isWord_28 ?_
    rw [rr_J0_length_8abf5 (d + 2), P_len]
    show mEv X (mCall mD X (d + 4)) 2 t_X3_isWord (mDrop t_X3_isWord 33) _ [mi (Int32.ofNat (mSL.getD n 0)), mi (Int32.ofNat k)] (mU g 5 c) = _
    refine Eq.trans e_X3_isWord_33 ?_
    have hlt : ¬ Int32.ofNat (mSL.getD n 0) ≤ Int32.ofNat k := by
      intro z
      have e : (Int32.ofNat k).toNatClampNeg = k := nI_clamp hk1
      rw [mle_iff (k := Int32.ofNat k) (mSL_lt n) (nI_pos hk1), e] at z
      omega
    rw [if_neg hlt]
    refine Eq.trans e_X3_isWord_36 ?_
    simp only [mU_same]
    rw [rr_X3_signAt (d + 3)]
    show mEv X (mCall mD X (d + 4)) 2 t_X3_isWord (mDrop t_X3_isWord 46) _ _ (mU g 5 c) = _
    refine Eq.trans e_X3_isWord_46 ?_
    rw [rr_J0_charAt_5068e d, P_char (by omega)]
    show mEv X (mCall mD X (d + 4)) 2 t_X3_isWord (mDrop t_X3_isWord 51) _ _ (mU g 5 c) = _
    refine Eq.trans e_X3_isWord_51 ?_
    refine mw_ite (w := fun z : Int32 => wI g 5 c z) (fun _ => ?_) (fun _ => ?_)
    · refine Eq.trans e_X3_isWord_56 ?_
      have e : Int32.ofNat k + 1 = Int32.ofNat (k + 1) := nI_1 k
      rw [e]
      exact ih (k + 1) (by omega)
    · exact Eq.trans e_X3_isWord_54 (if_pos (by decide))
theorem rr_X3_isWord (d : Nat) {X : mX} {g : mG} {n : Nat} {c : mC} : mCall mD X (d + 5) 76 [mr 5 16, mr n 24] (mU g 5 c) = (wI g 5 c) (P_X3_isWord n c) := by
  refine Eq.trans (mCall_eq (d := d + 4) rfl) ?_
  show mEv X (mCall mD X (d + 4)) 2 t_X3_isWord (mDrop t_X3_isWord 0) [some (mr 5 16), some (mr n 24), none] [] (mU g 5 c) = _
  refine Eq.trans e_X3_isWord_0 ?_
  simp only [mU_same]
  refine mw_ite (w := fun z : Int32 => wI g 5 c z) (fun _ => ?_) (fun _ => ?_)
  · refine Eq.trans e_X3_isWord_8 ?_
    simp only [mU_same]
    rw [rr_J0_length_8abf5 (d + 2)]
    show mEv X (mCall mD X (d + 4)) 2 t_X3_isWord (mDrop t_X3_isWord 21) _ _ (mU g 5 c) = _
    refine Eq.trans e_X3_isWord_21 ?_
    refine mw_ite (w := fun z : Int32 => wI g 5 c z) (fun _ => ?_) (fun _ => ?_)
    · exact Eq.trans e_X3_isWord_26 (rl_isWord d _ 0 (Nat.zero_add _))
    · exact Eq.trans e_X3_isWord_24 (if_pos (by decide))
  · exact Eq.trans e_X3_isWord_24 (if_pos (by decide))
theorem rr_X3_isWord_at (d : Nat) {X : mX} {g : mG} {n : Nat} : mCall mD X (d + 5) 76 [mr 5 16, mr n 24] g = wN g (P_X3_isWord n (g 5)) := by
  have h := rr_X3_isWord (X := X) d (g := g) (c := g 5) (n := n)
  rw [mU_self] at h
  exact h.trans (wI_self _ _ _)
theorem e_X3_takeNumber_0 {X : mX} {call : Nat → List mV → mG → mR} {g : mG} {x1 x2 : Int32} : mEv X call 1 t_X3_takeNumber (mDrop t_X3_takeNumber 0) [some (mr 5 16), some (mi x1), some (mi x2), none] [] g = if (g 5 16 9) = 0 then mEv X call 1 t_X3_takeNumber (mDrop t_X3_takeNumber 9) [some (mr 5 16), some (mi x1), some (mi x2), none] [] g else mEv X call 1 t_X3_takeNumber (mDrop t_X3_takeNumber 7) [some (mr 5 16), some (mi x1), some (mi x2), none] [] g := (mEv_3 _ _ _ _).trans rfl
theorem e_X3_takeNumber_9 {X : mX} {call : Nat → List mV → mG → mR} {g : mG} {x1 x2 : Int32} : mEv X call 1 t_X3_takeNumber (mDrop t_X3_takeNumber 9) [some (mr 5 16), some (mi x1), some (mi x2), none] [] g = if (g 5 16 5) = 2 then mEv X call 1 t_X3_takeNumber (mDrop t_X3_takeNumber 24) [some (mr 5 16), some (mi x1), some (mi x2), none] [] g else mEv X call 1 t_X3_takeNumber (mDrop t_X3_takeNumber 17) [some (mr 5 16), some (mi x1), some (mi x2), none] [] g := (mEv_4 _ _ _ _).trans rfl
theorem e_X3_takeNumber_24 {X : mX} {call : Nat → List mV → mG → mR} {g : mG} {x1 x2 : Int32} : mEv X call 1 t_X3_takeNumber (mDrop t_X3_takeNumber 24) [some (mr 5 16), some (mi x1), some (mi x2), none] [] g = if (g 5 16 6) < x1 then mEv X call 1 t_X3_takeNumber (mDrop t_X3_takeNumber 39) [some (mr 5 16), some (mi x1), some (mi x2), some (mi (g 5 16 6))] [] g else mEv X call 1 t_X3_takeNumber (mDrop t_X3_takeNumber 34) [some (mr 5 16), some (mi x1), some (mi x2), some (mi (g 5 16 6))] [] g := (mEv_6 _ _ _ _).trans rfl
theorem e_X3_takeNumber_39 {X : mX} {call : Nat → List mV → mG → mR} {g : mG} {x1 x2 x3 : Int32} : mEv X call 1 t_X3_takeNumber (mDrop t_X3_takeNumber 39) [some (mr 5 16), some (mi x1), some (mi x2), some (mi x3)] [] g = mAns (mEv X call 1 t_X3_takeNumber) (mDrop t_X3_takeNumber 44) [some (mr 5 16), some (mi x1), some (mi x2), some (mi x3)] [] (call 71 [mr 5 16, mi 4] g) := (mEv_3 _ _ _ _).trans rfl
theorem e_X3_takeNumber_44 {X : mX} {call : Nat → List mV → mG → mR} {g : mG} {x1 x2 x3 : Int32} : mEv X call 1 t_X3_takeNumber (mDrop t_X3_takeNumber 44) [some (mr 5 16), some (mi x1), some (mi x2), some (mi x3)] [] g = some (some (mi 0), g) := (mEv_2 _ _ _ _).trans rfl
noncomputable def J_X3_takeNumber_39 (c : mC) : (Int32 × mC) := (mBd (α := mC) (P_X3_fail c 4) (fun c1 => (0, c1)))
theorem rj_X3_takeNumber_39 (d : Nat) {X : mX} {g : mG} {x1 x2 x3 : Int32} {c : mC} : mEv X (mCall mD X (d + 3)) 1 t_X3_takeNumber (mDrop t_X3_takeNumber 39) [some (mr 5 16), some (mi x1), some (mi x2), some (mi x3)] [] (mU g 5 c) = (wW g 5) (J_X3_takeNumber_39 c) := by
  refine Eq.trans (e_X3_takeNumber_39) ?_
  try simp only [mU_same, mU_mU]
  refine mw_cV (rr_X3_fail (d + 2)) (fun c1 => ?_)
  refine Eq.trans (e_X3_takeNumber_44) ?_
  try simp only [mU_same, mU_mU]
  all_goals rfl
theorem e_X3_takeNumber_34 {X : mX} {call : Nat → List mV → mG → mR} {g : mG} {x1 x2 x3 : Int32} : mEv X call 1 t_X3_takeNumber (mDrop t_X3_takeNumber 34) [some (mr 5 16), some (mi x1), some (mi x2), some (mi x3)] [] g = if x3 ≤ x2 then mEv X call 1 t_X3_takeNumber (mDrop t_X3_takeNumber 46) [some (mr 5 16), some (mi x1), some (mi x2), some (mi x3)] [] g else mEv X call 1 t_X3_takeNumber (mDrop t_X3_takeNumber 39) [some (mr 5 16), some (mi x1), some (mi x2), some (mi x3)] [] g := (mEv_3 _ _ _ _).trans rfl
theorem e_X3_takeNumber_46 {X : mX} {call : Nat → List mV → mG → mR} {g : mG} {x1 x2 x3 : Int32} : mEv X call 1 t_X3_takeNumber (mDrop t_X3_takeNumber 46) [some (mr 5 16), some (mi x1), some (mi x2), some (mi x3)] [] g = mAns (mEv X call 1 t_X3_takeNumber) (mDrop t_X3_takeNumber 50) [some (mr 5 16), some (mi x1), some (mi x2), some (mi x3)] [] (call 72 [mr 5 16] g) := (mEv_2 _ _ _ _).trans rfl
theorem e_X3_takeNumber_50 {X : mX} {call : Nat → List mV → mG → mR} {g : mG} {x1 x2 x3 : Int32} : mEv X call 1 t_X3_takeNumber (mDrop t_X3_takeNumber 50) [some (mr 5 16), some (mi x1), some (mi x2), some (mi x3)] [] g = some (some (mi x3), g) := (mEv_2 _ _ _ _).trans rfl
theorem e_X3_takeNumber_17 {X : mX} {call : Nat → List mV → mG → mR} {g : mG} {x1 x2 : Int32} : mEv X call 1 t_X3_takeNumber (mDrop t_X3_takeNumber 17) [some (mr 5 16), some (mi x1), some (mi x2), none] [] g = mAns (mEv X call 1 t_X3_takeNumber) (mDrop t_X3_takeNumber 22) [some (mr 5 16), some (mi x1), some (mi x2), none] [] (call 71 [mr 5 16, mi 2] g) := (mEv_3 _ _ _ _).trans rfl
theorem e_X3_takeNumber_22 {X : mX} {call : Nat → List mV → mG → mR} {g : mG} {x1 x2 : Int32} : mEv X call 1 t_X3_takeNumber (mDrop t_X3_takeNumber 22) [some (mr 5 16), some (mi x1), some (mi x2), none] [] g = some (some (mi 0), g) := (mEv_2 _ _ _ _).trans rfl
theorem e_X3_takeNumber_7 {X : mX} {call : Nat → List mV → mG → mR} {g : mG} {x1 x2 : Int32} : mEv X call 1 t_X3_takeNumber (mDrop t_X3_takeNumber 7) [some (mr 5 16), some (mi x1), some (mi x2), none] [] g = some (some (mi 0), g) := (mEv_2 _ _ _ _).trans rfl
noncomputable def P_X3_takeNumber (c : mC) (x1 : Int32) (x2 : Int32) : (Int32 × mC) := (if (c 16 9) = 0 then (if (c 16 5) = 2 then (if (c 16 6) < x1 then (J_X3_takeNumber_39 c) else (if (c 16 6) ≤ x2 then (mBd (α := mC) (P_X3_step c) (fun c1 => ((c 16 6), c1))) else (J_X3_takeNumber_39 c))) else (mBd (α := mC) (P_X3_fail c 2) (fun c4 => (0, c4)))) else (0, c))
theorem rr_X3_takeNumber (d : Nat) {X : mX} {g : mG} {x1 x2 : Int32} {c : mC} : mCall mD X (d + 4) 79 [mr 5 16, mi x1, mi x2] (mU g 5 c) = (wW g 5) (P_X3_takeNumber c x1 x2) := by
  refine Eq.trans (mCall_eq (d := d + 3) rfl) ?_
  show mEv X (mCall mD X (d + 3)) 1 t_X3_takeNumber (mDrop t_X3_takeNumber 0) [some (mr 5 16), some (mi x1), some (mi x2), none] [] (mU g 5 c) = _
  refine Eq.trans (e_X3_takeNumber_0) ?_
  try simp only [mU_same, mU_mU]
  refine mw_ite (fun h6 => ?_) (fun h6 => ?_)
  · refine Eq.trans (e_X3_takeNumber_9) ?_
    try simp only [mU_same, mU_mU]
    refine mw_ite (fun h5 => ?_) (fun h5 => ?_)
    · refine Eq.trans (e_X3_takeNumber_24) ?_
      try simp only [mU_same, mU_mU]
      refine mw_ite (fun h3 => ?_) (fun h3 => ?_)
      · exact rj_X3_takeNumber_39 d
      · refine Eq.trans (e_X3_takeNumber_34) ?_
        try simp only [mU_same, mU_mU]
        refine mw_ite (fun h2 => ?_) (fun h2 => ?_)
        · refine Eq.trans (e_X3_takeNumber_46) ?_
          try simp only [mU_same, mU_mU]
          refine mw_cV (rr_X3_step d) (fun c1 => ?_)
          refine Eq.trans (e_X3_takeNumber_50) ?_
          try simp only [mU_same, mU_mU]
          all_goals rfl
        · exact rj_X3_takeNumber_39 d
    · refine Eq.trans (e_X3_takeNumber_17) ?_
      try simp only [mU_same, mU_mU]
      refine mw_cV (rr_X3_fail (d + 2)) (fun c4 => ?_)
      refine Eq.trans (e_X3_takeNumber_22) ?_
      try simp only [mU_same, mU_mU]
      all_goals rfl
  · refine Eq.trans (e_X3_takeNumber_7) ?_
    try simp only [mU_same, mU_mU]
    all_goals rfl
theorem rr_X3_takeNumber_at (d : Nat) {X : mX} {g : mG} {x1 x2 : Int32} : mCall mD X (d + 4) 79 [mr 5 16, mi x1, mi x2] g = wW g 5 (P_X3_takeNumber (g 5) x1 x2) := by
  have h := rr_X3_takeNumber (X := X) d (g := g) (c := g 5) (x1 := x1) (x2 := x2)
  rw [mU_self] at h
  exact h
theorem e_X3_markHere_0 {X : mX} {call : Nat → List mV → mG → mR} {g : mG} : mEv X call 1 t_X3_markHere (mDrop t_X3_markHere 0) [some (mr 5 16), none] [] g = mEv X call 1 t_X3_markHere (mDrop t_X3_markHere 2) [some (mr 5 16), some (mi 0)] [] g := (mEv_2 _ _ _ _).trans rfl
theorem e_X3_markHere_2 {X : mX} {call : Nat → List mV → mG → mR} {g : mG} {x1 : Int32} : mEv X call 1 t_X3_markHere (mDrop t_X3_markHere 2) [some (mr 5 16), some (mi x1)] [] g = if 10 ≤ x1 then mEv X call 1 t_X3_markHere (mDrop t_X3_markHere 27) [some (mr 5 16), some (mi x1)] [] g else mEv X call 1 t_X3_markHere (mDrop t_X3_markHere 8) [some (mr 5 16), some (mi x1)] [] g := (mEv_3 _ _ _ _).trans rfl
theorem e_X3_markHere_27 {X : mX} {call : Nat → List mV → mG → mR} {g : mG} {x1 : Int32} : mEv X call 1 t_X3_markHere (mDrop t_X3_markHere 27) [some (mr 5 16), some (mi x1)] [] g = some (some (mi (-1)), g) := (mEv_2 _ _ _ _).trans rfl
theorem e_X3_markHere_8 {X : mX} {call : Nat → List mV → mG → mR} {g : mG} {x1 : Int32} : mEv X call 1 t_X3_markHere (mDrop t_X3_markHere 8) [some (mr 5 16), some (mi x1)] [] g = mAns (mEv X call 1 t_X3_markHere) (mDrop t_X3_markHere 13) [some (mr 5 16), some (mi x1)] [mr 5 16] (call 84 [mi x1] g) := (mEv_3 _ _ _ _).trans rfl
theorem e_X3_markHere_13 {X : mX} {call : Nat → List mV → mG → mR} {g : mG} {x1 : Int32} {n : Nat} : mEv X call 1 t_X3_markHere (mDrop t_X3_markHere 13) [some (mr 5 16), some (mi x1)] [mr n 24, mr 5 16] g = mAns (mEv X call 1 t_X3_markHere) (mDrop t_X3_markHere 16) [some (mr 5 16), some (mi x1)] [] (call 76 [mr 5 16, mr n 24] g) := (mEv_1 _ _ _ _).trans rfl
theorem e_X3_markHere_16 {X : mX} {call : Nat → List mV → mG → mR} {g : mG} {x1 s0 : Int32} : mEv X call 1 t_X3_markHere (mDrop t_X3_markHere 16) [some (mr 5 16), some (mi x1)] [mi s0] g = if s0 = 0 then mEv X call 1 t_X3_markHere (mDrop t_X3_markHere 21) [some (mr 5 16), some (mi x1)] [] g else mEv X call 1 t_X3_markHere (mDrop t_X3_markHere 19) [some (mr 5 16), some (mi x1)] [] g := (mEv_1 _ _ _ _).trans rfl
theorem e_X3_markHere_21 {X : mX} {call : Nat → List mV → mG → mR} {g : mG} {x1 : Int32} : mEv X call 1 t_X3_markHere (mDrop t_X3_markHere 21) [some (mr 5 16), some (mi x1)] [] g = mEv X call 1 t_X3_markHere (mDrop t_X3_markHere 2) [some (mr 5 16), some (mi (x1 + 1))] [] g := (mEv_2 _ _ _ _).trans rfl
theorem e_X3_markHere_19 {X : mX} {call : Nat → List mV → mG → mR} {g : mG} {x1 : Int32} : mEv X call 1 t_X3_markHere (mDrop t_X3_markHere 19) [some (mr 5 16), some (mi x1)] [] g = some (some (mi x1), g) := (mEv_2 _ _ _ _).trans rfl
noncomputable def B_X3_markHere_2 (c : mC) : (Int32) → (Int32) ⊕ (Int32) := fun x1 => (if 10 ≤ x1 then (.inr (-1)) else (mBd (α := Int32) (P_X3_isWord (P_X3_wordOf x1) c) (fun v1 => (if v1 = 0 then (.inl (x1 + 1)) else (.inr x1)))))
set_option maxRecDepth 100000 in
theorem tm_X3_markHere_2 {c : mC} : mTm (B_X3_markHere_2 c) := by
  refine ⟨fun x1 => mMx x1, fun s s2 h => ?_⟩
  skip
  simp only [B_X3_markHere_2, mBd, mBo] at h
  (repeat' split at h) <;> first | (have h2 := Sum.inl.inj h; subst h2; dsimp only; first | exact mtm_max (by assumption) | exact mtm_lt (by assumption)) | (cases h; done)
theorem rl_X3_markHere_2 (d : Nat) {X : mX} {g : mG} {x1 : Int32} {c : mC} : mEv X (mCall mD X (d + 5)) 1 t_X3_markHere (mDrop t_X3_markHere 2) [some (mr 5 16), some (mi x1)] [] (mU g 5 c) = (wI g 5 c) (mWh 0 (B_X3_markHere_2 c) x1) := by
  refine mWh_ev (B := (B_X3_markHere_2 c)) (ev := fun x1 : (Int32) => mEv X (mCall mD X (d + 5)) 1 t_X3_markHere (mDrop t_X3_markHere 2) [some (mr 5 16), some (mi x1)] [] (mU g 5 c)) (w := (wI g 5 c)) (tm_X3_markHere_2) ?_ x1
  intro x1
  show mEv X (mCall mD X (d + 5)) 1 t_X3_markHere (mDrop t_X3_markHere 2) [some (mr 5 16), some (mi x1)] [] (mU g 5 c) = wB (fun x1 : (Int32) => mEv X (mCall mD X (d + 5)) 1 t_X3_markHere (mDrop t_X3_markHere 2) [some (mr 5 16), some (mi x1)] [] (mU g 5 c)) (wI g 5 c) (B_X3_markHere_2 c x1)
  refine Eq.trans (e_X3_markHere_2) ?_
  try simp only [mU_same, mU_mU]
  refine mw_ite (fun h3 => ?_) (fun h3 => ?_)
  · refine mw_inr ?_
    refine Eq.trans (e_X3_markHere_27) ?_
    try simp only [mU_same, mU_mU]
    all_goals rfl
  · refine Eq.trans (e_X3_markHere_8) ?_
    try simp only [mU_same, mU_mU]
    refine mw_cR (rr_X3_wordOf (d + 4)) ?_
    refine Eq.trans (e_X3_markHere_13) ?_
    try simp only [mU_same, mU_mU]
    refine mw_cZ (rr_X3_isWord d) rfl (fun v1 hv1 => ?_)
    refine Eq.trans (e_X3_markHere_16) ?_
    try simp only [mU_same, mU_mU]
    refine mw_ite (fun h2 => ?_) (fun h2 => ?_)
    · refine Eq.trans (e_X3_markHere_21) ?_
      try simp only [mU_same, mU_mU]
      exact mw_inl rfl
    · refine mw_inr ?_
      refine Eq.trans (e_X3_markHere_19) ?_
      try simp only [mU_same, mU_mU]
      all_goals rfl
noncomputable def P_X3_markHere (c : mC) : (Int32) := (mWh 0 (B_X3_markHere_2 c) 0)
theorem rr_X3_markHere (d : Nat) {X : mX} {g : mG} {c : mC} : mCall mD X (d + 6) 83 [mr 5 16] (mU g 5 c) = (wI g 5 c) (P_X3_markHere c) := by
  refine Eq.trans (mCall_eq (d := d + 5) rfl) ?_
  show mEv X (mCall mD X (d + 5)) 1 t_X3_markHere (mDrop t_X3_markHere 0) [some (mr 5 16), none] [] (mU g 5 c) = _
  refine Eq.trans (e_X3_markHere_0) ?_
  try simp only [mU_same, mU_mU]
  exact rl_X3_markHere_2 d
theorem rr_X3_markHere_at (d : Nat) {X : mX} {g : mG} : mCall mD X (d + 6) 83 [mr 5 16] g = wN g (P_X3_markHere (g 5)) := by
  have h := rr_X3_markHere (X := X) d (g := g) (c := g 5)
  rw [mU_self] at h
  exact h.trans (wI_self _ _ _)
theorem e_X3_readMarks_0 {X : mX} {call : Nat → List mV → mG → mR} {g : mG} {x1 : Int32} : mEv X call 0 t_X3_readMarks (mDrop t_X3_readMarks 0) [some (mr 5 16), some (mi x1), none, none, none] [] g = mEv X call 0 t_X3_readMarks (mDrop t_X3_readMarks 4) [some (mr 5 16), some (mi x1), some (mi 0), some (mi 0), none] [] g := (mEv_4 _ _ _ _).trans rfl
theorem hk_X3_readMarks_4 {X : mX} {call : Nat → List mV → mG → mR} {g : mG} {x1 x2 x3 : Int32} {k4 : Option mV} : mEv X call 0 t_X3_readMarks (mDrop t_X3_readMarks 4) [some (mr 5 16), some (mi x1), some (mi x2), some (mi x3), k4] [] g = mEv X call 0 t_X3_readMarks (mDrop t_X3_readMarks 4) [some (mr 5 16), some (mi x1), some (mi x2), some (mi x3), none] [] g := Eq.trans (mEv_1 _ _ _ _) (Eq.symm (Eq.trans (mEv_1 _ _ _ _) rfl))
theorem e_X3_readMarks_4 {X : mX} {call : Nat → List mV → mG → mR} {g : mG} {x1 x2 x3 : Int32} {u4 : Option mV} : mEv X call 0 t_X3_readMarks (mDrop t_X3_readMarks 4) [some (mr 5 16), some (mi x1), some (mi x2), some (mi x3), u4] [] g = if 10 < x3 then mEv X call 0 t_X3_readMarks (mDrop t_X3_readMarks 109) [some (mr 5 16), some (mi x1), some (mi x2), some (mi x3), none] [] g else mEv X call 0 t_X3_readMarks (mDrop t_X3_readMarks 10) [some (mr 5 16), some (mi x1), some (mi x2), some (mi x3), none] [] g := (mEv_3 _ _ _ _).trans rfl
theorem e_X3_readMarks_109 {X : mX} {call : Nat → List mV → mG → mR} {g : mG} {x1 x2 x3 : Int32} {u4 : Option mV} : mEv X call 0 t_X3_readMarks (mDrop t_X3_readMarks 109) [some (mr 5 16), some (mi x1), some (mi x2), some (mi x3), u4] [] g = some (none, g) := (mEv_1 _ _ _ _).trans rfl
theorem e_X3_readMarks_10 {X : mX} {call : Nat → List mV → mG → mR} {g : mG} {x1 x2 x3 : Int32} {u4 : Option mV} : mEv X call 0 t_X3_readMarks (mDrop t_X3_readMarks 10) [some (mr 5 16), some (mi x1), some (mi x2), some (mi x3), u4] [] g = if (g 5 16 9) = 0 then mEv X call 0 t_X3_readMarks (mDrop t_X3_readMarks 17) [some (mr 5 16), some (mi x1), some (mi x2), some (mi x3), u4] [] g else mEv X call 0 t_X3_readMarks (mDrop t_X3_readMarks 109) [some (mr 5 16), some (mi x1), some (mi x2), some (mi x3), u4] [] g := (mEv_3 _ _ _ _).trans rfl
theorem e_X3_readMarks_17 {X : mX} {call : Nat → List mV → mG → mR} {g : mG} {x1 x2 x3 : Int32} {u4 : Option mV} : mEv X call 0 t_X3_readMarks (mDrop t_X3_readMarks 17) [some (mr 5 16), some (mi x1), some (mi x2), some (mi x3), u4] [] g = if (g 5 16 5) = 1 then mEv X call 0 t_X3_readMarks (mDrop t_X3_readMarks 25) [some (mr 5 16), some (mi x1), some (mi x2), some (mi x3), u4] [] g else mEv X call 0 t_X3_readMarks (mDrop t_X3_readMarks 109) [some (mr 5 16), some (mi x1), some (mi x2), some (mi x3), u4] [] g := (mEv_4 _ _ _ _).trans rfl
theorem e_X3_readMarks_25 {X : mX} {call : Nat → List mV → mG → mR} {g : mG} {x1 x2 x3 : Int32} {u4 : Option mV} : mEv X call 0 t_X3_readMarks (mDrop t_X3_readMarks 25) [some (mr 5 16), some (mi x1), some (mi x2), some (mi x3), u4] [] g = mAns (mEv X call 0 t_X3_readMarks) (mDrop t_X3_readMarks 29) [some (mr 5 16), some (mi x1), some (mi x2), some (mi x3), u4] [] (call 83 [mr 5 16] g) := (mEv_2 _ _ _ _).trans rfl
theorem e_X3_readMarks_29 {X : mX} {call : Nat → List mV → mG → mR} {g : mG} {x1 x2 x3 s0 : Int32} {u4 : Option mV} : mEv X call 0 t_X3_readMarks (mDrop t_X3_readMarks 29) [some (mr 5 16), some (mi x1), some (mi x2), some (mi x3), u4] [mi s0] g = if s0 = (-1) then mEv X call 0 t_X3_readMarks (mDrop t_X3_readMarks 37) [some (mr 5 16), some (mi x1), some (mi x2), some (mi x3), some (mi s0)] [] g else mEv X call 0 t_X3_readMarks (mDrop t_X3_readMarks 45) [some (mr 5 16), some (mi x1), some (mi x2), some (mi x3), some (mi s0)] [] g := (mEv_4 _ _ _ _).trans rfl
theorem e_X3_readMarks_37 {X : mX} {call : Nat → List mV → mG → mR} {g : mG} {x1 x2 x3 x4 : Int32} : mEv X call 0 t_X3_readMarks (mDrop t_X3_readMarks 37) [some (mr 5 16), some (mi x1), some (mi x2), some (mi x3), some (mi x4)] [] g = mAns (mEv X call 0 t_X3_readMarks) (mDrop t_X3_readMarks 42) [some (mr 5 16), some (mi x1), some (mi x2), some (mi x3), some (mi x4)] [] (call 71 [mr 5 16, mi 2] g) := (mEv_3 _ _ _ _).trans rfl
theorem e_X3_readMarks_42 {X : mX} {call : Nat → List mV → mG → mR} {g : mG} {x1 x2 x3 x4 : Int32} : mEv X call 0 t_X3_readMarks (mDrop t_X3_readMarks 42) [some (mr 5 16), some (mi x1), some (mi x2), some (mi x3), some (mi x4)] [] g = mEv X call 0 t_X3_readMarks (mDrop t_X3_readMarks 103) [some (mr 5 16), some (mi x1), some (mi x2), some (mi x3), some (mi x4)] [] g := (mEv_1 _ _ _ _).trans rfl
theorem e_X3_readMarks_103 {X : mX} {call : Nat → List mV → mG → mR} {g : mG} {x1 x2 x3 x4 : Int32} : mEv X call 0 t_X3_readMarks (mDrop t_X3_readMarks 103) [some (mr 5 16), some (mi x1), some (mi x2), some (mi x3), some (mi x4)] [] g = mEv X call 0 t_X3_readMarks (mDrop t_X3_readMarks 4) [some (mr 5 16), some (mi x1), some (mi x2), some (mi (x3 + 1)), some (mi x4)] [] g := (mEv_2 _ _ _ _).trans rfl
noncomputable def J_X3_readMarks_103 (c : mC) (x1 : Int32) (x2 : Int32) (x3 : Int32) : ((Int32 × Int32 × mC) ⊕ (mC)) := (.inl (x2, (x3 + 1), c))
theorem rj_X3_readMarks_103 (d : Nat) {X : mX} {g : mG} {x1 x2 x3 x4 : Int32} {c : mC} : mEv X (mCall mD X (d + 6)) 0 t_X3_readMarks (mDrop t_X3_readMarks 103) [some (mr 5 16), some (mi x1), some (mi x2), some (mi x3), some (mi x4)] [] (mU g 5 c) = (wB (fun s : (Int32 × Int32 × mC) => match s with | (x2, x3, c) => mEv X (mCall mD X (d + 6)) 0 t_X3_readMarks (mDrop t_X3_readMarks 4) [some (mr 5 16), some (mi x1), some (mi x2), some (mi x3), none] [] (mU g 5 c)) (wV g 5)) (J_X3_readMarks_103 c x1 x2 x3) := by
  refine Eq.trans (e_X3_readMarks_103) ?_
  try simp only [mU_same, mU_mU]
  exact mw_inl hk_X3_readMarks_4
theorem e_X3_readMarks_45 {X : mX} {call : Nat → List mV → mG → mR} {g : mG} {x1 x2 x3 x4 : Int32} : mEv X call 0 t_X3_readMarks (mDrop t_X3_readMarks 45) [some (mr 5 16), some (mi x1), some (mi x2), some (mi x3), some (mi x4)] [] g = if ((x2 >>> (x4 &&& 31)) &&& 1) = 0 then mEv X call 0 t_X3_readMarks (mDrop t_X3_readMarks 62) [some (mr 5 16), some (mi x1), some (mi x2), some (mi x3), some (mi x4)] [] g else mEv X call 0 t_X3_readMarks (mDrop t_X3_readMarks 54) [some (mr 5 16), some (mi x1), some (mi x2), some (mi x3), some (mi x4)] [] g := (mEv_6 _ _ _ _).trans rfl
theorem e_X3_readMarks_62 {X : mX} {call : Nat → List mV → mG → mR} {g : mG} {x1 x2 x3 x4 : Int32} : mEv X call 0 t_X3_readMarks (mDrop t_X3_readMarks 62) [some (mr 5 16), some (mi x1), some (mi x2), some (mi x3), some (mi x4)] [] g = mAns (mEv X call 0 t_X3_readMarks) (mDrop t_X3_readMarks 73) [some (mr 5 16), some (mi x1), some (mi (x2 ||| (1 <<< (x4 &&& 31)))), some (mi x3), some (mi x4)] [] (call 72 [mr 5 16] g) := (mEv_8 _ _ _ _).trans rfl
theorem e_X3_readMarks_73 {X : mX} {call : Nat → List mV → mG → mR} {g : mG} {x1 x2 x3 x4 : Int32} : mEv X call 0 t_X3_readMarks (mDrop t_X3_readMarks 73) [some (mr 5 16), some (mi x1), some (mi x2), some (mi x3), some (mi x4)] [] g = mAns (mEv X call 0 t_X3_readMarks) (mDrop t_X3_readMarks 89) [some (mr 5 16), some (mi x1), some (mi x2), some (mi x3), some (mi x4)] [mr 5 16, mi x4, mi x1, mr 5 1] (call 142 [mr 9 27, mi x4] g) := (mEv_8 _ _ _ _).trans rfl
theorem e_X3_readMarks_89 {X : mX} {call : Nat → List mV → mG → mR} {g : mG} {x1 x2 x3 x4 s1 s2 s4 : Int32} : mEv X call 0 t_X3_readMarks (mDrop t_X3_readMarks 89) [some (mr 5 16), some (mi x1), some (mi x2), some (mi x3), some (mi x4)] [mi s4, mr 5 16, mi s2, mi s1, mr 5 1] g = mAns (mEv X call 0 t_X3_readMarks) (mDrop t_X3_readMarks 97) [some (mr 5 16), some (mi x1), some (mi x2), some (mi x3), some (mi x4)] [mi s4, mr 5 16, mi s2, mi s1, mr 5 1] (call 142 [mr 9 28, mi x4] g) := (mEv_3 _ _ _ _).trans rfl
theorem e_X3_readMarks_97 {X : mX} {call : Nat → List mV → mG → mR} {g : mG} {x1 x2 x3 x4 s1 s2 s4 s5 : Int32} : mEv X call 0 t_X3_readMarks (mDrop t_X3_readMarks 97) [some (mr 5 16), some (mi x1), some (mi x2), some (mi x3), some (mi x4)] [mi s5, mi s4, mr 5 16, mi s2, mi s1, mr 5 1] g = mAns (mEv X call 0 t_X3_readMarks) (mDrop t_X3_readMarks 100) [some (mr 5 16), some (mi x1), some (mi x2), some (mi x3), some (mi x4)] [mi s2, mi s1, mr 5 1] (call 79 [mr 5 16, mi s4, mi s5] g) := (mEv_1 _ _ _ _).trans rfl
theorem e_X3_readMarks_100 {X : mX} {call : Nat → List mV → mG → mR} {g : mG} {x1 x2 x3 x4 s1 s2 s3 : Int32} : mEv X call 0 t_X3_readMarks (mDrop t_X3_readMarks 100) [some (mr 5 16), some (mi x1), some (mi x2), some (mi x3), some (mi x4)] [mi s3, mi s2, mi s1, mr 5 1] g = mAns (mEv X call 0 t_X3_readMarks) (mDrop t_X3_readMarks 103) [some (mr 5 16), some (mi x1), some (mi x2), some (mi x3), some (mi x4)] [] (call 58 [mr 5 1, mi s1, mi s2, mi s3] g) := (mEv_1 _ _ _ _).trans rfl
theorem e_X3_readMarks_54 {X : mX} {call : Nat → List mV → mG → mR} {g : mG} {x1 x2 x3 x4 : Int32} : mEv X call 0 t_X3_readMarks (mDrop t_X3_readMarks 54) [some (mr 5 16), some (mi x1), some (mi x2), some (mi x3), some (mi x4)] [] g = mAns (mEv X call 0 t_X3_readMarks) (mDrop t_X3_readMarks 59) [some (mr 5 16), some (mi x1), some (mi x2), some (mi x3), some (mi x4)] [] (call 71 [mr 5 16, mi 5] g) := (mEv_3 _ _ _ _).trans rfl
theorem e_X3_readMarks_59 {X : mX} {call : Nat → List mV → mG → mR} {g : mG} {x1 x2 x3 x4 : Int32} : mEv X call 0 t_X3_readMarks (mDrop t_X3_readMarks 59) [some (mr 5 16), some (mi x1), some (mi x2), some (mi x3), some (mi x4)] [] g = mEv X call 0 t_X3_readMarks (mDrop t_X3_readMarks 103) [some (mr 5 16), some (mi x1), some (mi x2), some (mi x3), some (mi x4)] [] g := (mEv_1 _ _ _ _).trans rfl
noncomputable def B_X3_readMarks_4 (x1 : Int32) : (Int32 × Int32 × mC) → (Int32 × Int32 × mC) ⊕ (mC) := fun s => match s with | (x2, x3, c) => (if 10 < x3 then (.inr c) else (if (c 16 9) = 0 then (if (c 16 5) = 1 then (mBd (α := Int32) (P_X3_markHere c) (fun v1 => (if v1 = (-1) then (mBd (α := mC) (P_X3_fail c 2) (fun c2 => (J_X3_readMarks_103 c2 x1 x2 x3))) else (if ((x2 >>> (v1 &&& 31)) &&& 1) = 0 then (mBd (α := mC) (P_X3_step c) (fun c3 => (mBd (α := Int32) (cl 10 (mRO (fun _ => 0, 0) 9 27) v1) (fun v4 => (mBd (α := Int32) (cl 10 (mRO (fun _ => 0, 0) 9 28) v1) (fun v5 => (mBd (α := Int32 × mC) (P_X3_takeNumber c3 v4 v5) (fun p6 => (mBd (α := mC) (P_X2_putMark p6.2 x1 v1 p6.1) (fun c7 => (J_X3_readMarks_103 c7 x1 (x2 ||| (1 <<< (v1 &&& 31))) x3))))))))))) else (mBd (α := mC) (P_X3_fail c 5) (fun c8 => (J_X3_readMarks_103 c8 x1 x2 x3))))))) else (.inr c)) else (.inr c)))
set_option maxRecDepth 100000 in
theorem tm_X3_readMarks_4 {x1 : Int32} : mTm (B_X3_readMarks_4 x1) := by
  refine ⟨fun s => match s with | (x2, x3, c) => mMx x3, fun s s2 h => ?_⟩
  obtain ⟨x2, x3, c⟩ := s
  simp only [B_X3_readMarks_4, J_X3_readMarks_103, mBd] at h
  (repeat' split at h) <;> first | (have h2 := Sum.inl.inj h; subst h2; dsimp only; exact mtm_ltK (by assumption) (by decide)) | (cases h; done)
theorem rl_X3_readMarks_4 (d : Nat) {X : mX} {g : mG} {x1 x2 x3 : Int32} {c : mC} : mEv X (mCall mD X (d + 6)) 0 t_X3_readMarks (mDrop t_X3_readMarks 4) [some (mr 5 16), some (mi x1), some (mi x2), some (mi x3), none] [] (mU g 5 c) = (wV g 5) (mWh (fun _ _ => 0) (B_X3_readMarks_4 x1) (x2, x3, c)) := by
  refine mWh_ev (B := (B_X3_readMarks_4 x1)) (ev := fun s : (Int32 × Int32 × mC) => match s with | (x2, x3, c) => mEv X (mCall mD X (d + 6)) 0 t_X3_readMarks (mDrop t_X3_readMarks 4) [some (mr 5 16), some (mi x1), some (mi x2), some (mi x3), none] [] (mU g 5 c)) (w := (wV g 5)) (tm_X3_readMarks_4) ?_ (x2, x3, c)
  rintro ⟨x2, x3, c⟩
  show mEv X (mCall mD X (d + 6)) 0 t_X3_readMarks (mDrop t_X3_readMarks 4) [some (mr 5 16), some (mi x1), some (mi x2), some (mi x3), none] [] (mU g 5 c) = wB (fun s : (Int32 × Int32 × mC) => match s with | (x2, x3, c) => mEv X (mCall mD X (d + 6)) 0 t_X3_readMarks (mDrop t_X3_readMarks 4) [some (mr 5 16), some (mi x1), some (mi x2), some (mi x3), none] [] (mU g 5 c)) (wV g 5) (B_X3_readMarks_4 x1 (x2, x3, c))
  refine Eq.trans (e_X3_readMarks_4) ?_
  try simp only [mU_same, mU_mU]
  refine mw_ite (fun h13 => ?_) (fun h13 => ?_)
  · refine mw_inr ?_
    refine Eq.trans (e_X3_readMarks_109) ?_
    try simp only [mU_same, mU_mU]
    all_goals rfl
  · refine Eq.trans (e_X3_readMarks_10) ?_
    try simp only [mU_same, mU_mU]
    refine mw_ite (fun h12 => ?_) (fun h12 => ?_)
    · refine Eq.trans (e_X3_readMarks_17) ?_
      try simp only [mU_same, mU_mU]
      refine mw_ite (fun h11 => ?_) (fun h11 => ?_)
      · refine Eq.trans (e_X3_readMarks_25) ?_
        try simp only [mU_same, mU_mU]
        refine mw_cI (rr_X3_markHere d) (fun v1 => ?_)
        refine Eq.trans (e_X3_readMarks_29) ?_
        try simp only [mU_same, mU_mU]
        refine mw_ite (fun h10 => ?_) (fun h10 => ?_)
        · refine Eq.trans (e_X3_readMarks_37) ?_
          try simp only [mU_same, mU_mU]
          refine mw_cV (rr_X3_fail (d + 5)) (fun c2 => ?_)
          refine Eq.trans (e_X3_readMarks_42) ?_
          try simp only [mU_same, mU_mU]
          exact rj_X3_readMarks_103 d
        · refine Eq.trans (e_X3_readMarks_45) ?_
          try simp only [mU_same, mU_mU]
          refine mw_ite (fun h9 => ?_) (fun h9 => ?_)
          · refine Eq.trans (e_X3_readMarks_62) ?_
            try simp only [mU_same, mU_mU]
            refine mw_cV (rr_X3_step (d + 3)) (fun c3 => ?_)
            refine Eq.trans (e_X3_readMarks_73) ?_
            try simp only [mU_same, mU_mU]
            refine mw_cI (rr_X5_cell_27_at (d + 5)) (fun v4 => ?_)
            refine Eq.trans (e_X3_readMarks_89) ?_
            try simp only [mU_same, mU_mU]
            refine mw_cI (rr_X5_cell_28_at (d + 5)) (fun v5 => ?_)
            refine Eq.trans (e_X3_readMarks_97) ?_
            try simp only [mU_same, mU_mU]
            refine mw_cW (rr_X3_takeNumber (d + 2)) (fun p6 => ?_)
            refine Eq.trans (e_X3_readMarks_100) ?_
            try simp only [mU_same, mU_mU]
            refine mw_cV (rr_X2_putMark (d + 3)) (fun c7 => ?_)
            exact rj_X3_readMarks_103 d
          · refine Eq.trans (e_X3_readMarks_54) ?_
            try simp only [mU_same, mU_mU]
            refine mw_cV (rr_X3_fail (d + 5)) (fun c8 => ?_)
            refine Eq.trans (e_X3_readMarks_59) ?_
            try simp only [mU_same, mU_mU]
            exact rj_X3_readMarks_103 d
      · refine mw_inr ?_
        refine Eq.trans (e_X3_readMarks_109) ?_
        try simp only [mU_same, mU_mU]
        all_goals rfl
    · refine mw_inr ?_
      refine Eq.trans (e_X3_readMarks_109) ?_
      try simp only [mU_same, mU_mU]
      all_goals rfl
noncomputable def P_X3_readMarks (c : mC) (x1 : Int32) : (mC) := (mWh (fun _ _ => 0) (B_X3_readMarks_4 x1) (0, 0, c))
theorem rr_X3_readMarks (d : Nat) {X : mX} {g : mG} {x1 : Int32} {c : mC} : mCall mD X (d + 7) 82 [mr 5 16, mi x1] (mU g 5 c) = (wV g 5) (P_X3_readMarks c x1) := by
  refine Eq.trans (mCall_eq (d := d + 6) rfl) ?_
  show mEv X (mCall mD X (d + 6)) 0 t_X3_readMarks (mDrop t_X3_readMarks 0) [some (mr 5 16), some (mi x1), none, none, none] [] (mU g 5 c) = _
  refine Eq.trans (e_X3_readMarks_0) ?_
  try simp only [mU_same, mU_mU]
  exact Eq.trans hk_X3_readMarks_4 (rl_X3_readMarks_4 d)
theorem rr_X3_readMarks_at (d : Nat) {X : mX} {g : mG} {x1 : Int32} : mCall mD X (d + 7) 82 [mr 5 16, mi x1] g = some (none, mU g 5 (P_X3_readMarks (g 5) x1)) := by
  have h := rr_X3_readMarks (X := X) d (g := g) (c := g 5) (x1 := x1)
  rw [mU_self] at h
  exact h
theorem e_X3_endLine_0 {X : mX} {call : Nat → List mV → mG → mR} {g : mG} : mEv X call 0 t_X3_endLine (mDrop t_X3_endLine 0) [some (mr 5 16)] [] g = if (g 5 16 9) = 0 then mEv X call 0 t_X3_endLine (mDrop t_X3_endLine 8) [some (mr 5 16)] [] g else mEv X call 0 t_X3_endLine (mDrop t_X3_endLine 7) [some (mr 5 16)] [] g := (mEv_3 _ _ _ _).trans rfl
theorem e_X3_endLine_8 {X : mX} {call : Nat → List mV → mG → mR} {g : mG} : mEv X call 0 t_X3_endLine (mDrop t_X3_endLine 8) [some (mr 5 16)] [] g = if (g 5 16 5) = 3 then mEv X call 0 t_X3_endLine (mDrop t_X3_endLine 22) [some (mr 5 16)] [] g else mEv X call 0 t_X3_endLine (mDrop t_X3_endLine 16) [some (mr 5 16)] [] g := (mEv_4 _ _ _ _).trans rfl
theorem e_X3_endLine_22 {X : mX} {call : Nat → List mV → mG → mR} {g : mG} : mEv X call 0 t_X3_endLine (mDrop t_X3_endLine 22) [some (mr 5 16)] [] g = mEv X call 0 t_X3_endLine (mDrop t_X3_endLine 32) [some (mr 5 16)] [] (mU g 5 (mP (g 5) 16 7 ((g 5 16 7) + 1))) := (mEv_6 _ _ _ _).trans rfl
theorem e_X3_endLine_32 {X : mX} {call : Nat → List mV → mG → mR} {g : mG} : mEv X call 0 t_X3_endLine (mDrop t_X3_endLine 32) [some (mr 5 16)] [] g = mAns (mEv X call 0 t_X3_endLine) (mDrop t_X3_endLine 36) [some (mr 5 16)] [] (call 72 [mr 5 16] g) := (mEv_2 _ _ _ _).trans rfl
theorem e_X3_endLine_36 {X : mX} {call : Nat → List mV → mG → mR} {g : mG} : mEv X call 0 t_X3_endLine (mDrop t_X3_endLine 36) [some (mr 5 16)] [] g = some (none, g) := (mEv_1 _ _ _ _).trans rfl
theorem e_X3_endLine_16 {X : mX} {call : Nat → List mV → mG → mR} {g : mG} : mEv X call 0 t_X3_endLine (mDrop t_X3_endLine 16) [some (mr 5 16)] [] g = mAns (mEv X call 0 t_X3_endLine) (mDrop t_X3_endLine 21) [some (mr 5 16)] [] (call 71 [mr 5 16, mi 2] g) := (mEv_3 _ _ _ _).trans rfl
theorem e_X3_endLine_21 {X : mX} {call : Nat → List mV → mG → mR} {g : mG} : mEv X call 0 t_X3_endLine (mDrop t_X3_endLine 21) [some (mr 5 16)] [] g = some (none, g) := (mEv_1 _ _ _ _).trans rfl
theorem e_X3_endLine_7 {X : mX} {call : Nat → List mV → mG → mR} {g : mG} : mEv X call 0 t_X3_endLine (mDrop t_X3_endLine 7) [some (mr 5 16)] [] g = some (none, g) := (mEv_1 _ _ _ _).trans rfl
noncomputable def P_X3_endLine (c : mC) : (mC) := (if (c 16 9) = 0 then (if (c 16 5) = 3 then (mBd (α := mC) (P_X3_step (mP c 16 7 ((c 16 7) + 1))) (fun c1 => c1)) else (mBd (α := mC) (P_X3_fail c 2) (fun c2 => c2))) else c)
theorem rr_X3_endLine (d : Nat) {X : mX} {g : mG} {c : mC} : mCall mD X (d + 4) 77 [mr 5 16] (mU g 5 c) = (wV g 5) (P_X3_endLine c) := by
  refine Eq.trans (mCall_eq (d := d + 3) rfl) ?_
  show mEv X (mCall mD X (d + 3)) 0 t_X3_endLine (mDrop t_X3_endLine 0) [some (mr 5 16)] [] (mU g 5 c) = _
  refine Eq.trans (e_X3_endLine_0) ?_
  try simp only [mU_same, mU_mU]
  refine mw_ite (fun h4 => ?_) (fun h4 => ?_)
  · refine Eq.trans (e_X3_endLine_8) ?_
    try simp only [mU_same, mU_mU]
    refine mw_ite (fun h3 => ?_) (fun h3 => ?_)
    · refine Eq.trans (e_X3_endLine_22) ?_
      try simp only [mU_same, mU_mU]
      refine Eq.trans (e_X3_endLine_32) ?_
      try simp only [mU_same, mU_mU]
      refine mw_cV (rr_X3_step d) (fun c1 => ?_)
      refine Eq.trans (e_X3_endLine_36) ?_
      try simp only [mU_same, mU_mU]
      all_goals rfl
    · refine Eq.trans (e_X3_endLine_16) ?_
      try simp only [mU_same, mU_mU]
      refine mw_cV (rr_X3_fail (d + 2)) (fun c2 => ?_)
      refine Eq.trans (e_X3_endLine_21) ?_
      try simp only [mU_same, mU_mU]
      all_goals rfl
  · refine Eq.trans (e_X3_endLine_7) ?_
    try simp only [mU_same, mU_mU]
    all_goals rfl
theorem rr_X3_endLine_at (d : Nat) {X : mX} {g : mG} : mCall mD X (d + 4) 77 [mr 5 16] g = some (none, mU g 5 (P_X3_endLine (g 5))) := by
  have h := rr_X3_endLine (X := X) d (g := g) (c := g 5)
  rw [mU_self] at h
  exact h
theorem e_X3_readPhase_0 {X : mX} {call : Nat → List mV → mG → mR} {g : mG} : mEv X call 0 t_X3_readPhase (mDrop t_X3_readPhase 0) [some (mr 5 16), none, none] [] g = if (g 5 1 0) < 8 then mEv X call 0 t_X3_readPhase (mDrop t_X3_readPhase 19) [some (mr 5 16), none, none] [] g else mEv X call 0 t_X3_readPhase (mDrop t_X3_readPhase 12) [some (mr 5 16), none, none] [] g := (mEv_5 _ _ _ _).trans rfl
theorem e_X3_readPhase_19 {X : mX} {call : Nat → List mV → mG → mR} {g : mG} : mEv X call 0 t_X3_readPhase (mDrop t_X3_readPhase 19) [some (mr 5 16), none, none] [] g = mAns (mEv X call 0 t_X3_readPhase) (mDrop t_X3_readPhase 23) [some (mr 5 16), none, none] [] (call 72 [mr 5 16] g) := (mEv_2 _ _ _ _).trans rfl
theorem e_X3_readPhase_23 {X : mX} {call : Nat → List mV → mG → mR} {g : mG} : mEv X call 0 t_X3_readPhase (mDrop t_X3_readPhase 23) [some (mr 5 16), none, none] [] g = mAns (mEv X call 0 t_X3_readPhase) (mDrop t_X3_readPhase 29) [some (mr 5 16), none, none] [] (call 79 [mr 5 16, mi 0, mi 1] g) := (mEv_4 _ _ _ _).trans rfl
theorem e_X3_readPhase_29 {X : mX} {call : Nat → List mV → mG → mR} {g : mG} {s0 : Int32} : mEv X call 0 t_X3_readPhase (mDrop t_X3_readPhase 29) [some (mr 5 16), none, none] [mi s0] g = mAns (mEv X call 0 t_X3_readPhase) (mDrop t_X3_readPhase 36) [some (mr 5 16), some (mi s0), none] [] (call 79 [mr 5 16, mi 0, mi 1] g) := (mEv_5 _ _ _ _).trans rfl
theorem e_X3_readPhase_36 {X : mX} {call : Nat → List mV → mG → mR} {g : mG} {x1 s0 : Int32} : mEv X call 0 t_X3_readPhase (mDrop t_X3_readPhase 36) [some (mr 5 16), some (mi x1), none] [mi s0] g = if (g 5 16 9) = 0 then mEv X call 0 t_X3_readPhase (mDrop t_X3_readPhase 44) [some (mr 5 16), some (mi x1), some (mi s0)] [] g else mEv X call 0 t_X3_readPhase (mDrop t_X3_readPhase 66) [some (mr 5 16), some (mi x1), some (mi s0)] [] g := (mEv_4 _ _ _ _).trans rfl
theorem e_X3_readPhase_44 {X : mX} {call : Nat → List mV → mG → mR} {g : mG} {x1 x2 : Int32} : mEv X call 0 t_X3_readPhase (mDrop t_X3_readPhase 44) [some (mr 5 16), some (mi x1), some (mi x2)] [] g = mAns (mEv X call 0 t_X3_readPhase) (mDrop t_X3_readPhase 53) [some (mr 5 16), some (mi x1), some (mi x2)] [] (call 53 [mr 5 1, mi x1, mi x2] g) := (mEv_5 _ _ _ _).trans rfl
theorem e_X3_readPhase_53 {X : mX} {call : Nat → List mV → mG → mR} {g : mG} {x1 x2 : Int32} : mEv X call 0 t_X3_readPhase (mDrop t_X3_readPhase 53) [some (mr 5 16), some (mi x1), some (mi x2)] [] g = mAns (mEv X call 0 t_X3_readPhase) (mDrop t_X3_readPhase 66) [some (mr 5 16), some (mi x1), some (mi x2)] [] (call 82 [mr 5 16, mi ((g 5 1 0) - 1)] g) := (mEv_7 _ _ _ _).trans rfl
theorem e_X3_readPhase_66 {X : mX} {call : Nat → List mV → mG → mR} {g : mG} {x1 x2 : Int32} : mEv X call 0 t_X3_readPhase (mDrop t_X3_readPhase 66) [some (mr 5 16), some (mi x1), some (mi x2)] [] g = mAns (mEv X call 0 t_X3_readPhase) (mDrop t_X3_readPhase 70) [some (mr 5 16), some (mi x1), some (mi x2)] [] (call 77 [mr 5 16] g) := (mEv_2 _ _ _ _).trans rfl
theorem e_X3_readPhase_70 {X : mX} {call : Nat → List mV → mG → mR} {g : mG} {x1 x2 : Int32} : mEv X call 0 t_X3_readPhase (mDrop t_X3_readPhase 70) [some (mr 5 16), some (mi x1), some (mi x2)] [] g = some (none, g) := (mEv_1 _ _ _ _).trans rfl
noncomputable def J_X3_readPhase_66 (c : mC) : (mC) := (mBd (α := mC) (P_X3_endLine c) (fun c1 => c1))
theorem rj_X3_readPhase_66 (d : Nat) {X : mX} {g : mG} {x1 x2 : Int32} {c : mC} : mEv X (mCall mD X (d + 7)) 0 t_X3_readPhase (mDrop t_X3_readPhase 66) [some (mr 5 16), some (mi x1), some (mi x2)] [] (mU g 5 c) = (wV g 5) (J_X3_readPhase_66 c) := by
  refine Eq.trans (e_X3_readPhase_66) ?_
  try simp only [mU_same, mU_mU]
  refine mw_cV (rr_X3_endLine (d + 3)) (fun c1 => ?_)
  refine Eq.trans (e_X3_readPhase_70) ?_
  try simp only [mU_same, mU_mU]
  all_goals rfl
theorem e_X3_readPhase_12 {X : mX} {call : Nat → List mV → mG → mR} {g : mG} : mEv X call 0 t_X3_readPhase (mDrop t_X3_readPhase 12) [some (mr 5 16), none, none] [] g = mAns (mEv X call 0 t_X3_readPhase) (mDrop t_X3_readPhase 18) [some (mr 5 16), none, none] [] (call 71 [mr 5 16, mi 6] g) := (mEv_3 _ _ _ _).trans rfl
theorem e_X3_readPhase_18 {X : mX} {call : Nat → List mV → mG → mR} {g : mG} : mEv X call 0 t_X3_readPhase (mDrop t_X3_readPhase 18) [some (mr 5 16), none, none] [] g = some (none, g) := (mEv_1 _ _ _ _).trans rfl
noncomputable def P_X3_readPhase (c : mC) : (mC) := (if (c 1 0) < 8 then (mBd (α := mC) (P_X3_step c) (fun c1 => (mBd (α := Int32 × mC) (P_X3_takeNumber c1 0 1) (fun p2 => (mBd (α := Int32 × mC) (P_X3_takeNumber p2.2 0 1) (fun p3 => (if (p3.2 16 9) = 0 then (mBd (α := mC) (P_X2_addPhase p3.2 p2.1 p3.1) (fun c4 => (mBd (α := mC) (P_X3_readMarks c4 ((c4 1 0) - 1)) (fun c5 => (J_X3_readPhase_66 c5))))) else (J_X3_readPhase_66 p3.2)))))))) else (mBd (α := mC) (P_X3_fail c 6) (fun c7 => c7)))
theorem rr_X3_readPhase (d : Nat) {X : mX} {g : mG} {c : mC} : mCall mD X (d + 8) 81 [mr 5 16] (mU g 5 c) = (wV g 5) (P_X3_readPhase c) := by
  refine Eq.trans (mCall_eq (d := d + 7) rfl) ?_
  show mEv X (mCall mD X (d + 7)) 0 t_X3_readPhase (mDrop t_X3_readPhase 0) [some (mr 5 16), none, none] [] (mU g 5 c) = _
  refine Eq.trans (e_X3_readPhase_0) ?_
  try simp only [mU_same, mU_mU]
  refine mw_ite (fun h8 => ?_) (fun h8 => ?_)
  · refine Eq.trans (e_X3_readPhase_19) ?_
    try simp only [mU_same, mU_mU]
    refine mw_cV (rr_X3_step (d + 4)) (fun c1 => ?_)
    refine Eq.trans (e_X3_readPhase_23) ?_
    try simp only [mU_same, mU_mU]
    refine mw_cW (rr_X3_takeNumber (d + 3)) (fun p2 => ?_)
    refine Eq.trans (e_X3_readPhase_29) ?_
    try simp only [mU_same, mU_mU]
    refine mw_cW (rr_X3_takeNumber (d + 3)) (fun p3 => ?_)
    refine Eq.trans (e_X3_readPhase_36) ?_
    try simp only [mU_same, mU_mU]
    refine mw_ite (fun h6 => ?_) (fun h6 => ?_)
    · refine Eq.trans (e_X3_readPhase_44) ?_
      try simp only [mU_same, mU_mU]
      refine mw_cV (rr_X2_addPhase (d + 3)) (fun c4 => ?_)
      refine Eq.trans (e_X3_readPhase_53) ?_
      try simp only [mU_same, mU_mU]
      refine mw_cV (rr_X3_readMarks d) (fun c5 => ?_)
      exact rj_X3_readPhase_66 d
    · exact rj_X3_readPhase_66 d
  · refine Eq.trans (e_X3_readPhase_12) ?_
    try simp only [mU_same, mU_mU]
    refine mw_cV (rr_X3_fail (d + 6)) (fun c7 => ?_)
    refine Eq.trans (e_X3_readPhase_18) ?_
    try simp only [mU_same, mU_mU]
    all_goals rfl
theorem rr_X3_readPhase_at (d : Nat) {X : mX} {g : mG} : mCall mD X (d + 8) 81 [mr 5 16] g = some (none, mU g 5 (P_X3_readPhase (g 5))) := by
  have h := rr_X3_readPhase (X := X) d (g := g) (c := g 5)
  rw [mU_self] at h
  exact h
theorem e_X3_tellOnce_0 {X : mX} {call : Nat → List mV → mG → mR} {g : mG} {x1 : Int32} : mEv X call 0 t_X3_tellOnce (mDrop t_X3_tellOnce 0) [some (mr 5 16), some (mi x1)] [] g = if (g 5 16 9) = 0 then mEv X call 0 t_X3_tellOnce (mDrop t_X3_tellOnce 7) [some (mr 5 16), some (mi x1)] [] g else mEv X call 0 t_X3_tellOnce (mDrop t_X3_tellOnce 21) [some (mr 5 16), some (mi x1)] [] g := (mEv_3 _ _ _ _).trans rfl
theorem e_X3_tellOnce_7 {X : mX} {call : Nat → List mV → mG → mR} {g : mG} {x1 : Int32} : mEv X call 0 t_X3_tellOnce (mDrop t_X3_tellOnce 7) [some (mr 5 16), some (mi x1)] [] g = if ((g 5 16 8) &&& x1) = 0 then mEv X call 0 t_X3_tellOnce (mDrop t_X3_tellOnce 21) [some (mr 5 16), some (mi x1)] [] g else mEv X call 0 t_X3_tellOnce (mDrop t_X3_tellOnce 16) [some (mr 5 16), some (mi x1)] [] g := (mEv_5 _ _ _ _).trans rfl
theorem e_X3_tellOnce_21 {X : mX} {call : Nat → List mV → mG → mR} {g : mG} {x1 : Int32} : mEv X call 0 t_X3_tellOnce (mDrop t_X3_tellOnce 21) [some (mr 5 16), some (mi x1)] [] g = mEv X call 0 t_X3_tellOnce (mDrop t_X3_tellOnce 31) [some (mr 5 16), some (mi x1)] [] (mU g 5 (mP (g 5) 16 8 ((g 5 16 8) ||| x1))) := (mEv_6 _ _ _ _).trans rfl
theorem e_X3_tellOnce_31 {X : mX} {call : Nat → List mV → mG → mR} {g : mG} {x1 : Int32} : mEv X call 0 t_X3_tellOnce (mDrop t_X3_tellOnce 31) [some (mr 5 16), some (mi x1)] [] g = some (none, g) := (mEv_1 _ _ _ _).trans rfl
noncomputable def J_X3_tellOnce_21 (c : mC) (x1 : Int32) : (mC) := (mP c 16 8 ((c 16 8) ||| x1))
theorem rj_X3_tellOnce_21 (d : Nat) {X : mX} {g : mG} {x1 : Int32} {c : mC} : mEv X (mCall mD X (d + 1)) 0 t_X3_tellOnce (mDrop t_X3_tellOnce 21) [some (mr 5 16), some (mi x1)] [] (mU g 5 c) = (wV g 5) (J_X3_tellOnce_21 c x1) := by
  refine Eq.trans (e_X3_tellOnce_21) ?_
  try simp only [mU_same, mU_mU]
  refine Eq.trans (e_X3_tellOnce_31) ?_
  try simp only [mU_same, mU_mU]
  all_goals rfl
theorem e_X3_tellOnce_16 {X : mX} {call : Nat → List mV → mG → mR} {g : mG} {x1 : Int32} : mEv X call 0 t_X3_tellOnce (mDrop t_X3_tellOnce 16) [some (mr 5 16), some (mi x1)] [] g = mAns (mEv X call 0 t_X3_tellOnce) (mDrop t_X3_tellOnce 21) [some (mr 5 16), some (mi x1)] [] (call 71 [mr 5 16, mi 5] g) := (mEv_3 _ _ _ _).trans rfl
noncomputable def P_X3_tellOnce (c : mC) (x1 : Int32) : (mC) := (if (c 16 9) = 0 then (if ((c 16 8) &&& x1) = 0 then (J_X3_tellOnce_21 c x1) else (mBd (α := mC) (P_X3_fail c 5) (fun c1 => (J_X3_tellOnce_21 c1 x1)))) else (J_X3_tellOnce_21 c x1))
theorem rr_X3_tellOnce (d : Nat) {X : mX} {g : mG} {x1 : Int32} {c : mC} : mCall mD X (d + 2) 85 [mr 5 16, mi x1] (mU g 5 c) = (wV g 5) (P_X3_tellOnce c x1) := by
  refine Eq.trans (mCall_eq (d := d + 1) rfl) ?_
  show mEv X (mCall mD X (d + 1)) 0 t_X3_tellOnce (mDrop t_X3_tellOnce 0) [some (mr 5 16), some (mi x1)] [] (mU g 5 c) = _
  refine Eq.trans (e_X3_tellOnce_0) ?_
  try simp only [mU_same, mU_mU]
  refine mw_ite (fun h3 => ?_) (fun h3 => ?_)
  · refine Eq.trans (e_X3_tellOnce_7) ?_
    try simp only [mU_same, mU_mU]
    refine mw_ite (fun h2 => ?_) (fun h2 => ?_)
    · exact rj_X3_tellOnce_21 d
    · refine Eq.trans (e_X3_tellOnce_16) ?_
      try simp only [mU_same, mU_mU]
      refine mw_cV (rr_X3_fail d) (fun c1 => ?_)
      exact rj_X3_tellOnce_21 d
  · exact rj_X3_tellOnce_21 d
theorem rr_X3_tellOnce_at (d : Nat) {X : mX} {g : mG} {x1 : Int32} : mCall mD X (d + 2) 85 [mr 5 16, mi x1] g = some (none, mU g 5 (P_X3_tellOnce (g 5) x1)) := by
  have h := rr_X3_tellOnce (X := X) d (g := g) (c := g 5) (x1 := x1)
  rw [mU_self] at h
  exact h
theorem e_X3_takeWord_0 {X : mX} {call : Nat → List mV → mG → mR} {g : mG} {n : Nat} : mEv X call 0 t_X3_takeWord (mDrop t_X3_takeWord 0) [some (mr 5 16), some (mr n 24)] [] g = if (g 5 16 9) = 0 then mEv X call 0 t_X3_takeWord (mDrop t_X3_takeWord 8) [some (mr 5 16), some (mr n 24)] [] g else mEv X call 0 t_X3_takeWord (mDrop t_X3_takeWord 7) [some (mr 5 16), some (mr n 24)] [] g := (mEv_3 _ _ _ _).trans rfl
theorem e_X3_takeWord_8 {X : mX} {call : Nat → List mV → mG → mR} {g : mG} {n : Nat} : mEv X call 0 t_X3_takeWord (mDrop t_X3_takeWord 8) [some (mr 5 16), some (mr n 24)] [] g = mAns (mEv X call 0 t_X3_takeWord) (mDrop t_X3_takeWord 13) [some (mr 5 16), some (mr n 24)] [] (call 76 [mr 5 16, mr n 24] g) := (mEv_3 _ _ _ _).trans rfl
theorem e_X3_takeWord_13 {X : mX} {call : Nat → List mV → mG → mR} {g : mG} {s0 : Int32} {n : Nat} : mEv X call 0 t_X3_takeWord (mDrop t_X3_takeWord 13) [some (mr 5 16), some (mr n 24)] [mi s0] g = if s0 = 0 then mEv X call 0 t_X3_takeWord (mDrop t_X3_takeWord 16) [some (mr 5 16), some (mr n 24)] [] g else mEv X call 0 t_X3_takeWord (mDrop t_X3_takeWord 22) [some (mr 5 16), some (mr n 24)] [] g := (mEv_1 _ _ _ _).trans rfl
theorem e_X3_takeWord_16 {X : mX} {call : Nat → List mV → mG → mR} {g : mG} {n : Nat} : mEv X call 0 t_X3_takeWord (mDrop t_X3_takeWord 16) [some (mr 5 16), some (mr n 24)] [] g = mAns (mEv X call 0 t_X3_takeWord) (mDrop t_X3_takeWord 21) [some (mr 5 16), some (mr n 24)] [] (call 71 [mr 5 16, mi 2] g) := (mEv_3 _ _ _ _).trans rfl
theorem e_X3_takeWord_21 {X : mX} {call : Nat → List mV → mG → mR} {g : mG} {n : Nat} : mEv X call 0 t_X3_takeWord (mDrop t_X3_takeWord 21) [some (mr 5 16), some (mr n 24)] [] g = some (none, g) := (mEv_1 _ _ _ _).trans rfl
theorem e_X3_takeWord_22 {X : mX} {call : Nat → List mV → mG → mR} {g : mG} {n : Nat} : mEv X call 0 t_X3_takeWord (mDrop t_X3_takeWord 22) [some (mr 5 16), some (mr n 24)] [] g = mAns (mEv X call 0 t_X3_takeWord) (mDrop t_X3_takeWord 26) [some (mr 5 16), some (mr n 24)] [] (call 72 [mr 5 16] g) := (mEv_2 _ _ _ _).trans rfl
theorem e_X3_takeWord_26 {X : mX} {call : Nat → List mV → mG → mR} {g : mG} {n : Nat} : mEv X call 0 t_X3_takeWord (mDrop t_X3_takeWord 26) [some (mr 5 16), some (mr n 24)] [] g = some (none, g) := (mEv_1 _ _ _ _).trans rfl
theorem e_X3_takeWord_7 {X : mX} {call : Nat → List mV → mG → mR} {g : mG} {n : Nat} : mEv X call 0 t_X3_takeWord (mDrop t_X3_takeWord 7) [some (mr 5 16), some (mr n 24)] [] g = some (none, g) := (mEv_1 _ _ _ _).trans rfl
noncomputable def P_X3_takeWord (n : Nat) (c : mC) : (mC) := (if (c 16 9) = 0 then (mBd (α := Int32) (P_X3_isWord n c) (fun v1 => (if v1 = 0 then (mBd (α := mC) (P_X3_fail c 2) (fun c2 => c2)) else (mBd (α := mC) (P_X3_step c) (fun c3 => c3))))) else c)
theorem rr_X3_takeWord (d : Nat) {X : mX} {g : mG} {n : Nat} {c : mC} : mCall mD X (d + 6) 78 [mr 5 16, mr n 24] (mU g 5 c) = (wV g 5) (P_X3_takeWord n c) := by
  refine Eq.trans (mCall_eq (d := d + 5) rfl) ?_
  show mEv X (mCall mD X (d + 5)) 0 t_X3_takeWord (mDrop t_X3_takeWord 0) [some (mr 5 16), some (mr n 24)] [] (mU g 5 c) = _
  refine Eq.trans (e_X3_takeWord_0) ?_
  try simp only [mU_same, mU_mU]
  refine mw_ite (fun h5 => ?_) (fun h5 => ?_)
  · refine Eq.trans (e_X3_takeWord_8) ?_
    try simp only [mU_same, mU_mU]
    refine mw_cZ (rr_X3_isWord d) rfl (fun v1 hv1 => ?_)
    refine Eq.trans (e_X3_takeWord_13) ?_
    try simp only [mU_same, mU_mU]
    refine mw_ite (fun h4 => ?_) (fun h4 => ?_)
    · refine Eq.trans (e_X3_takeWord_16) ?_
      try simp only [mU_same, mU_mU]
      refine mw_cV (rr_X3_fail (d + 4)) (fun c2 => ?_)
      refine Eq.trans (e_X3_takeWord_21) ?_
      try simp only [mU_same, mU_mU]
      all_goals rfl
    · refine Eq.trans (e_X3_takeWord_22) ?_
      try simp only [mU_same, mU_mU]
      refine mw_cV (rr_X3_step (d + 2)) (fun c3 => ?_)
      refine Eq.trans (e_X3_takeWord_26) ?_
      try simp only [mU_same, mU_mU]
      all_goals rfl
  · refine Eq.trans (e_X3_takeWord_7) ?_
    try simp only [mU_same, mU_mU]
    all_goals rfl
theorem rr_X3_takeWord_at (d : Nat) {X : mX} {g : mG} {n : Nat} : mCall mD X (d + 6) 78 [mr 5 16, mr n 24] g = some (none, mU g 5 (P_X3_takeWord n (g 5))) := by
  have h := rr_X3_takeWord (X := X) d (g := g) (c := g 5) (n := n)
  rw [mU_self] at h
  exact h
theorem e_X3_readCycle_0 {X : mX} {call : Nat → List mV → mG → mR} {g : mG} : mEv X call 0 t_X3_readCycle (mDrop t_X3_readCycle 0) [some (mr 5 16)] [] g = mAns (mEv X call 0 t_X3_readCycle) (mDrop t_X3_readCycle 5) [some (mr 5 16)] [] (call 85 [mr 5 16, mi 4] g) := (mEv_3 _ _ _ _).trans rfl
theorem e_X3_readCycle_5 {X : mX} {call : Nat → List mV → mG → mR} {g : mG} : mEv X call 0 t_X3_readCycle (mDrop t_X3_readCycle 5) [some (mr 5 16)] [] g = mAns (mEv X call 0 t_X3_readCycle) (mDrop t_X3_readCycle 11) [some (mr 5 16)] [] (call 78 [mr 5 16, mr 1 24] g) := (mEv_3 _ _ _ _).trans rfl
theorem e_X3_readCycle_11 {X : mX} {call : Nat → List mV → mG → mR} {g : mG} : mEv X call 0 t_X3_readCycle (mDrop t_X3_readCycle 11) [some (mr 5 16)] [] g = if (g 5 16 9) = 0 then mEv X call 0 t_X3_readCycle (mDrop t_X3_readCycle 18) [some (mr 5 16)] [] g else mEv X call 0 t_X3_readCycle (mDrop t_X3_readCycle 41) [some (mr 5 16)] [] g := (mEv_3 _ _ _ _).trans rfl
theorem e_X3_readCycle_18 {X : mX} {call : Nat → List mV → mG → mR} {g : mG} : mEv X call 0 t_X3_readCycle (mDrop t_X3_readCycle 18) [some (mr 5 16)] [] g = if (g 5 16 5) = 2 then mEv X call 0 t_X3_readCycle (mDrop t_X3_readCycle 26) [some (mr 5 16)] [] g else mEv X call 0 t_X3_readCycle (mDrop t_X3_readCycle 41) [some (mr 5 16)] [] g := (mEv_4 _ _ _ _).trans rfl
theorem e_X3_readCycle_26 {X : mX} {call : Nat → List mV → mG → mR} {g : mG} : mEv X call 0 t_X3_readCycle (mDrop t_X3_readCycle 26) [some (mr 5 16)] [] g = mAns (mEv X call 0 t_X3_readCycle) (mDrop t_X3_readCycle 33) [some (mr 5 16)] [] (call 139 [mi (g 5 16 6)] g) := (mEv_3 _ _ _ _).trans rfl
theorem e_X3_readCycle_33 {X : mX} {call : Nat → List mV → mG → mR} {g : mG} {s0 : Int32} : mEv X call 0 t_X3_readCycle (mDrop t_X3_readCycle 33) [some (mr 5 16)] [mi s0] g = if s0 = 0 then mEv X call 0 t_X3_readCycle (mDrop t_X3_readCycle 36) [some (mr 5 16)] [] g else mEv X call 0 t_X3_readCycle (mDrop t_X3_readCycle 41) [some (mr 5 16)] [] g := (mEv_1 _ _ _ _).trans rfl
theorem e_X3_readCycle_36 {X : mX} {call : Nat → List mV → mG → mR} {g : mG} : mEv X call 0 t_X3_readCycle (mDrop t_X3_readCycle 36) [some (mr 5 16)] [] g = mAns (mEv X call 0 t_X3_readCycle) (mDrop t_X3_readCycle 41) [some (mr 5 16)] [] (call 71 [mr 5 16, mi 4] g) := (mEv_3 _ _ _ _).trans rfl
theorem e_X3_readCycle_41 {X : mX} {call : Nat → List mV → mG → mR} {g : mG} : mEv X call 0 t_X3_readCycle (mDrop t_X3_readCycle 41) [some (mr 5 16)] [] g = mAns (mEv X call 0 t_X3_readCycle) (mDrop t_X3_readCycle 53) [some (mr 5 16)] [mr 5 1] (call 79 [mr 5 16, mi 0, mi 240] g) := (mEv_6 _ _ _ _).trans rfl
theorem e_X3_readCycle_53 {X : mX} {call : Nat → List mV → mG → mR} {g : mG} {s1 : Int32} : mEv X call 0 t_X3_readCycle (mDrop t_X3_readCycle 53) [some (mr 5 16)] [mi s1, mr 5 1] g = mEv X call 0 t_X3_readCycle (mDrop t_X3_readCycle 56) [some (mr 5 16)] [] (mU g 5 (mP (g 5) 1 1 s1)) := (mEv_1 _ _ _ _).trans rfl
theorem e_X3_readCycle_56 {X : mX} {call : Nat → List mV → mG → mR} {g : mG} : mEv X call 0 t_X3_readCycle (mDrop t_X3_readCycle 56) [some (mr 5 16)] [] g = mAns (mEv X call 0 t_X3_readCycle) (mDrop t_X3_readCycle 60) [some (mr 5 16)] [] (call 77 [mr 5 16] g) := (mEv_2 _ _ _ _).trans rfl
theorem e_X3_readCycle_60 {X : mX} {call : Nat → List mV → mG → mR} {g : mG} : mEv X call 0 t_X3_readCycle (mDrop t_X3_readCycle 60) [some (mr 5 16)] [] g = some (none, g) := (mEv_1 _ _ _ _).trans rfl
noncomputable def J_X3_readCycle_41 (c : mC) : (mC) := (mBd (α := Int32 × mC) (P_X3_takeNumber c 0 240) (fun p1 => (mBd (α := mC) (P_X3_endLine (mP p1.2 1 1 p1.1)) (fun c2 => c2))))
theorem rj_X3_readCycle_41 (d : Nat) {X : mX} {g : mG} {c : mC} : mEv X (mCall mD X (d + 6)) 0 t_X3_readCycle (mDrop t_X3_readCycle 41) [some (mr 5 16)] [] (mU g 5 c) = (wV g 5) (J_X3_readCycle_41 c) := by
  refine Eq.trans (e_X3_readCycle_41) ?_
  try simp only [mU_same, mU_mU]
  refine mw_cW (rr_X3_takeNumber (d + 2)) (fun p1 => ?_)
  refine Eq.trans (e_X3_readCycle_53) ?_
  try simp only [mU_same, mU_mU]
  refine Eq.trans (e_X3_readCycle_56) ?_
  try simp only [mU_same, mU_mU]
  refine mw_cV (rr_X3_endLine (d + 2)) (fun c2 => ?_)
  refine Eq.trans (e_X3_readCycle_60) ?_
  try simp only [mU_same, mU_mU]
  all_goals rfl
noncomputable def P_X3_readCycle (c : mC) : (mC) := (mBd (α := mC) (P_X3_tellOnce c 4) (fun c1 => (mBd (α := mC) (P_X3_takeWord 1 c1) (fun c2 => (if (c2 16 9) = 0 then (if (c2 16 5) = 2 then (mBd (α := Int32) (P_X5_isCycle (c2 16 6)) (fun v3 => (if v3 = 0 then (mBd (α := mC) (P_X3_fail c2 4) (fun c4 => (J_X3_readCycle_41 c4))) else (J_X3_readCycle_41 c2)))) else (J_X3_readCycle_41 c2)) else (J_X3_readCycle_41 c2))))))
theorem rr_X3_readCycle (d : Nat) {X : mX} {g : mG} {c : mC} : mCall mD X (d + 7) 86 [mr 5 16] (mU g 5 c) = (wV g 5) (P_X3_readCycle c) := by
  refine Eq.trans (mCall_eq (d := d + 6) rfl) ?_
  show mEv X (mCall mD X (d + 6)) 0 t_X3_readCycle (mDrop t_X3_readCycle 0) [some (mr 5 16)] [] (mU g 5 c) = _
  refine Eq.trans (e_X3_readCycle_0) ?_
  try simp only [mU_same, mU_mU]
  refine mw_cV (rr_X3_tellOnce (d + 4)) (fun c1 => ?_)
  refine Eq.trans (e_X3_readCycle_5) ?_
  try simp only [mU_same, mU_mU]
  refine mw_cV (rr_X3_takeWord d) (fun c2 => ?_)
  refine Eq.trans (e_X3_readCycle_11) ?_
  try simp only [mU_same, mU_mU]
  refine mw_ite (fun h7 => ?_) (fun h7 => ?_)
  · refine Eq.trans (e_X3_readCycle_18) ?_
    try simp only [mU_same, mU_mU]
    refine mw_ite (fun h6 => ?_) (fun h6 => ?_)
    · refine Eq.trans (e_X3_readCycle_26) ?_
      try simp only [mU_same, mU_mU]
      refine mw_cZ (rr_X5_isCycle (d + 5)) rfl (fun v3 hv3 => ?_)
      refine Eq.trans (e_X3_readCycle_33) ?_
      try simp only [mU_same, mU_mU]
      refine mw_ite (fun h5 => ?_) (fun h5 => ?_)
      · refine Eq.trans (e_X3_readCycle_36) ?_
        try simp only [mU_same, mU_mU]
        refine mw_cV (rr_X3_fail (d + 5)) (fun c4 => ?_)
        exact rj_X3_readCycle_41 d
      · exact rj_X3_readCycle_41 d
    · exact rj_X3_readCycle_41 d
  · exact rj_X3_readCycle_41 d
theorem rr_X3_readCycle_at (d : Nat) {X : mX} {g : mG} : mCall mD X (d + 7) 86 [mr 5 16] g = some (none, mU g 5 (P_X3_readCycle (g 5))) := by
  have h := rr_X3_readCycle (X := X) d (g := g) (c := g 5)
  rw [mU_self] at h
  exact h
theorem e_X3_readOffset_0 {X : mX} {call : Nat → List mV → mG → mR} {g : mG} : mEv X call 0 t_X3_readOffset (mDrop t_X3_readOffset 0) [some (mr 5 16)] [] g = mAns (mEv X call 0 t_X3_readOffset) (mDrop t_X3_readOffset 6) [some (mr 5 16)] [] (call 85 [mr 5 16, mi 8] g) := (mEv_3 _ _ _ _).trans rfl
theorem e_X3_readOffset_6 {X : mX} {call : Nat → List mV → mG → mR} {g : mG} : mEv X call 0 t_X3_readOffset (mDrop t_X3_readOffset 6) [some (mr 5 16)] [] g = mAns (mEv X call 0 t_X3_readOffset) (mDrop t_X3_readOffset 12) [some (mr 5 16)] [] (call 78 [mr 5 16, mr 2 24] g) := (mEv_3 _ _ _ _).trans rfl
theorem e_X3_readOffset_12 {X : mX} {call : Nat → List mV → mG → mR} {g : mG} : mEv X call 0 t_X3_readOffset (mDrop t_X3_readOffset 12) [some (mr 5 16)] [] g = mAns (mEv X call 0 t_X3_readOffset) (mDrop t_X3_readOffset 24) [some (mr 5 16)] [mr 5 1] (call 79 [mr 5 16, mi 0, mi 239] g) := (mEv_6 _ _ _ _).trans rfl
theorem e_X3_readOffset_24 {X : mX} {call : Nat → List mV → mG → mR} {g : mG} {s1 : Int32} : mEv X call 0 t_X3_readOffset (mDrop t_X3_readOffset 24) [some (mr 5 16)] [mi s1, mr 5 1] g = mEv X call 0 t_X3_readOffset (mDrop t_X3_readOffset 27) [some (mr 5 16)] [] (mU g 5 (mP (g 5) 1 2 s1)) := (mEv_1 _ _ _ _).trans rfl
theorem e_X3_readOffset_27 {X : mX} {call : Nat → List mV → mG → mR} {g : mG} : mEv X call 0 t_X3_readOffset (mDrop t_X3_readOffset 27) [some (mr 5 16)] [] g = mAns (mEv X call 0 t_X3_readOffset) (mDrop t_X3_readOffset 31) [some (mr 5 16)] [] (call 77 [mr 5 16] g) := (mEv_2 _ _ _ _).trans rfl
theorem e_X3_readOffset_31 {X : mX} {call : Nat → List mV → mG → mR} {g : mG} : mEv X call 0 t_X3_readOffset (mDrop t_X3_readOffset 31) [some (mr 5 16)] [] g = some (none, g) := (mEv_1 _ _ _ _).trans rfl
noncomputable def P_X3_readOffset (c : mC) : (mC) := (mBd (α := mC) (P_X3_tellOnce c 8) (fun c1 => (mBd (α := mC) (P_X3_takeWord 2 c1) (fun c2 => (mBd (α := Int32 × mC) (P_X3_takeNumber c2 0 239) (fun p3 => (mBd (α := mC) (P_X3_endLine (mP p3.2 1 2 p3.1)) (fun c4 => c4))))))))
theorem rr_X3_readOffset (d : Nat) {X : mX} {g : mG} {c : mC} : mCall mD X (d + 7) 87 [mr 5 16] (mU g 5 c) = (wV g 5) (P_X3_readOffset c) := by
  refine Eq.trans (mCall_eq (d := d + 6) rfl) ?_
  show mEv X (mCall mD X (d + 6)) 0 t_X3_readOffset (mDrop t_X3_readOffset 0) [some (mr 5 16)] [] (mU g 5 c) = _
  refine Eq.trans (e_X3_readOffset_0) ?_
  try simp only [mU_same, mU_mU]
  refine mw_cV (rr_X3_tellOnce (d + 4)) (fun c1 => ?_)
  refine Eq.trans (e_X3_readOffset_6) ?_
  try simp only [mU_same, mU_mU]
  refine mw_cV (rr_X3_takeWord d) (fun c2 => ?_)
  refine Eq.trans (e_X3_readOffset_12) ?_
  try simp only [mU_same, mU_mU]
  refine mw_cW (rr_X3_takeNumber (d + 2)) (fun p3 => ?_)
  refine Eq.trans (e_X3_readOffset_24) ?_
  try simp only [mU_same, mU_mU]
  refine Eq.trans (e_X3_readOffset_27) ?_
  try simp only [mU_same, mU_mU]
  refine mw_cV (rr_X3_endLine (d + 2)) (fun c4 => ?_)
  refine Eq.trans (e_X3_readOffset_31) ?_
  try simp only [mU_same, mU_mU]
  all_goals rfl
theorem rr_X3_readOffset_at (d : Nat) {X : mX} {g : mG} : mCall mD X (d + 7) 87 [mr 5 16] g = some (none, mU g 5 (P_X3_readOffset (g 5))) := by
  have h := rr_X3_readOffset (X := X) d (g := g) (c := g 5)
  rw [mU_self] at h
  exact h
theorem e_X3_takeSet_0 {X : mX} {call : Nat → List mV → mG → mR} {g : mG} : mEv X call 1 t_X3_takeSet (mDrop t_X3_takeSet 0) [some (mr 5 16)] [] g = if (g 5 16 9) = 0 then mEv X call 1 t_X3_takeSet (mDrop t_X3_takeSet 7) [some (mr 5 16)] [] g else mEv X call 1 t_X3_takeSet (mDrop t_X3_takeSet 56) [some (mr 5 16)] [] g := (mEv_3 _ _ _ _).trans rfl
theorem e_X3_takeSet_7 {X : mX} {call : Nat → List mV → mG → mR} {g : mG} : mEv X call 1 t_X3_takeSet (mDrop t_X3_takeSet 7) [some (mr 5 16)] [] g = if (g 5 16 5) = 2 then mEv X call 1 t_X3_takeSet (mDrop t_X3_takeSet 15) [some (mr 5 16)] [] g else mEv X call 1 t_X3_takeSet (mDrop t_X3_takeSet 56) [some (mr 5 16)] [] g := (mEv_4 _ _ _ _).trans rfl
theorem e_X3_takeSet_15 {X : mX} {call : Nat → List mV → mG → mR} {g : mG} : mEv X call 1 t_X3_takeSet (mDrop t_X3_takeSet 15) [some (mr 5 16)] [] g = mAns (mEv X call 1 t_X3_takeSet) (mDrop t_X3_takeSet 26) [some (mr 5 16)] [] (call 56 [mr 5 1, mi (g 5 16 6)] g) := (mEv_5 _ _ _ _).trans rfl
theorem e_X3_takeSet_26 {X : mX} {call : Nat → List mV → mG → mR} {g : mG} {s0 : Int32} : mEv X call 1 t_X3_takeSet (mDrop t_X3_takeSet 26) [some (mr 5 16)] [mi s0] g = if s0 = 0 then mEv X call 1 t_X3_takeSet (mDrop t_X3_takeSet 29) [some (mr 5 16)] [] g else mEv X call 1 t_X3_takeSet (mDrop t_X3_takeSet 37) [some (mr 5 16)] [] g := (mEv_1 _ _ _ _).trans rfl
theorem e_X3_takeSet_29 {X : mX} {call : Nat → List mV → mG → mR} {g : mG} : mEv X call 1 t_X3_takeSet (mDrop t_X3_takeSet 29) [some (mr 5 16)] [] g = mAns (mEv X call 1 t_X3_takeSet) (mDrop t_X3_takeSet 34) [some (mr 5 16)] [] (call 71 [mr 5 16, mi 3] g) := (mEv_3 _ _ _ _).trans rfl
theorem e_X3_takeSet_34 {X : mX} {call : Nat → List mV → mG → mR} {g : mG} : mEv X call 1 t_X3_takeSet (mDrop t_X3_takeSet 34) [some (mr 5 16)] [] g = mEv X call 1 t_X3_takeSet (mDrop t_X3_takeSet 56) [some (mr 5 16)] [] g := (mEv_1 _ _ _ _).trans rfl
theorem e_X3_takeSet_56 {X : mX} {call : Nat → List mV → mG → mR} {g : mG} : mEv X call 1 t_X3_takeSet (mDrop t_X3_takeSet 56) [some (mr 5 16)] [] g = mAns (mEv X call 1 t_X3_takeSet) (mDrop t_X3_takeSet 64) [some (mr 5 16)] [] (call 79 [mr 5 16, mi 0, mi 255] g) := (mEv_4 _ _ _ _).trans rfl
theorem e_X3_takeSet_64 {X : mX} {call : Nat → List mV → mG → mR} {g : mG} {s0 : Int32} : mEv X call 1 t_X3_takeSet (mDrop t_X3_takeSet 64) [some (mr 5 16)] [mi s0] g = some (some (mi s0), g) := (mEv_1 _ _ _ _).trans rfl
noncomputable def J_X3_takeSet_56 (c : mC) : (Int32 × mC) := (mBd (α := Int32 × mC) (P_X3_takeNumber c 0 255) (fun p1 => (p1.1, p1.2)))
theorem rj_X3_takeSet_56 (d : Nat) {X : mX} {g : mG} {c : mC} : mEv X (mCall mD X (d + 4)) 1 t_X3_takeSet (mDrop t_X3_takeSet 56) [some (mr 5 16)] [] (mU g 5 c) = (wW g 5) (J_X3_takeSet_56 c) := by
  refine Eq.trans (e_X3_takeSet_56) ?_
  try simp only [mU_same, mU_mU]
  refine mw_cW (rr_X3_takeNumber d) (fun p1 => ?_)
  refine Eq.trans (e_X3_takeSet_64) ?_
  try simp only [mU_same, mU_mU]
  all_goals rfl
theorem e_X3_takeSet_37 {X : mX} {call : Nat → List mV → mG → mR} {g : mG} : mEv X call 1 t_X3_takeSet (mDrop t_X3_takeSet 37) [some (mr 5 16)] [] g = mAns (mEv X call 1 t_X3_takeSet) (mDrop t_X3_takeSet 48) [some (mr 5 16)] [] (call 64 [mr 5 1, mi (g 5 16 6)] g) := (mEv_5 _ _ _ _).trans rfl
theorem e_X3_takeSet_48 {X : mX} {call : Nat → List mV → mG → mR} {g : mG} {s0 : Int32} : mEv X call 1 t_X3_takeSet (mDrop t_X3_takeSet 48) [some (mr 5 16)] [mi s0] g = if s0 = 0 then mEv X call 1 t_X3_takeSet (mDrop t_X3_takeSet 56) [some (mr 5 16)] [] g else mEv X call 1 t_X3_takeSet (mDrop t_X3_takeSet 51) [some (mr 5 16)] [] g := (mEv_1 _ _ _ _).trans rfl
theorem e_X3_takeSet_51 {X : mX} {call : Nat → List mV → mG → mR} {g : mG} : mEv X call 1 t_X3_takeSet (mDrop t_X3_takeSet 51) [some (mr 5 16)] [] g = mAns (mEv X call 1 t_X3_takeSet) (mDrop t_X3_takeSet 56) [some (mr 5 16)] [] (call 71 [mr 5 16, mi 4] g) := (mEv_3 _ _ _ _).trans rfl
noncomputable def P_X3_takeSet (c : mC) : (Int32 × mC) := (if (c 16 9) = 0 then (if (c 16 5) = 2 then (mBd (α := Int32) (P_X2_hasAll c (c 16 6)) (fun v1 => (if v1 = 0 then (mBd (α := mC) (P_X3_fail c 3) (fun c2 => (J_X3_takeSet_56 c2))) else (mBd (α := Int32) (P_X2_holdsFoes c (c 16 6)) (fun v3 => (if v3 = 0 then (J_X3_takeSet_56 c) else (mBd (α := mC) (P_X3_fail c 4) (fun c4 => (J_X3_takeSet_56 c4))))))))) else (J_X3_takeSet_56 c)) else (J_X3_takeSet_56 c))
theorem rr_X3_takeSet (d : Nat) {X : mX} {g : mG} {c : mC} : mCall mD X (d + 5) 80 [mr 5 16] (mU g 5 c) = (wW g 5) (P_X3_takeSet c) := by
  refine Eq.trans (mCall_eq (d := d + 4) rfl) ?_
  show mEv X (mCall mD X (d + 4)) 1 t_X3_takeSet (mDrop t_X3_takeSet 0) [some (mr 5 16)] [] (mU g 5 c) = _
  refine Eq.trans (e_X3_takeSet_0) ?_
  try simp only [mU_same, mU_mU]
  refine mw_ite (fun h8 => ?_) (fun h8 => ?_)
  · refine Eq.trans (e_X3_takeSet_7) ?_
    try simp only [mU_same, mU_mU]
    refine mw_ite (fun h7 => ?_) (fun h7 => ?_)
    · refine Eq.trans (e_X3_takeSet_15) ?_
      try simp only [mU_same, mU_mU]
      refine mw_cZ (rr_X2_hasAll (d + 2)) rfl (fun v1 hv1 => ?_)
      refine Eq.trans (e_X3_takeSet_26) ?_
      try simp only [mU_same, mU_mU]
      refine mw_ite (fun h6 => ?_) (fun h6 => ?_)
      · refine Eq.trans (e_X3_takeSet_29) ?_
        try simp only [mU_same, mU_mU]
        refine mw_cV (rr_X3_fail (d + 3)) (fun c2 => ?_)
        refine Eq.trans (e_X3_takeSet_34) ?_
        try simp only [mU_same, mU_mU]
        exact rj_X3_takeSet_56 d
      · refine Eq.trans (e_X3_takeSet_37) ?_
        try simp only [mU_same, mU_mU]
        refine mw_cZ (rr_X2_holdsFoes d) rfl (fun v3 hv3 => ?_)
        refine Eq.trans (e_X3_takeSet_48) ?_
        try simp only [mU_same, mU_mU]
        refine mw_ite (fun h5 => ?_) (fun h5 => ?_)
        · exact rj_X3_takeSet_56 d
        · refine Eq.trans (e_X3_takeSet_51) ?_
          try simp only [mU_same, mU_mU]
          refine mw_cV (rr_X3_fail (d + 3)) (fun c4 => ?_)
          exact rj_X3_takeSet_56 d
    · exact rj_X3_takeSet_56 d
  · exact rj_X3_takeSet_56 d
theorem rr_X3_takeSet_at (d : Nat) {X : mX} {g : mG} : mCall mD X (d + 5) 80 [mr 5 16] g = wW g 5 (P_X3_takeSet (g 5)) := by
  have h := rr_X3_takeSet (X := X) d (g := g) (c := g 5)
  rw [mU_self] at h
  exact h
theorem e_X3_readBreak_0 {X : mX} {call : Nat → List mV → mG → mR} {g : mG} : mEv X call 0 t_X3_readBreak (mDrop t_X3_readBreak 0) [some (mr 5 16), none] [] g = mAns (mEv X call 0 t_X3_readBreak) (mDrop t_X3_readBreak 4) [some (mr 5 16), none] [] (call 72 [mr 5 16] g) := (mEv_2 _ _ _ _).trans rfl
theorem e_X3_readBreak_4 {X : mX} {call : Nat → List mV → mG → mR} {g : mG} : mEv X call 0 t_X3_readBreak (mDrop t_X3_readBreak 4) [some (mr 5 16), none] [] g = if (g 5 16 9) = 0 then mEv X call 0 t_X3_readBreak (mDrop t_X3_readBreak 11) [some (mr 5 16), none] [] g else mEv X call 0 t_X3_readBreak (mDrop t_X3_readBreak 40) [some (mr 5 16), none] [] g := (mEv_3 _ _ _ _).trans rfl
theorem e_X3_readBreak_11 {X : mX} {call : Nat → List mV → mG → mR} {g : mG} : mEv X call 0 t_X3_readBreak (mDrop t_X3_readBreak 11) [some (mr 5 16), none] [] g = if (g 5 16 5) = 2 then mEv X call 0 t_X3_readBreak (mDrop t_X3_readBreak 19) [some (mr 5 16), none] [] g else mEv X call 0 t_X3_readBreak (mDrop t_X3_readBreak 40) [some (mr 5 16), none] [] g := (mEv_4 _ _ _ _).trans rfl
theorem e_X3_readBreak_19 {X : mX} {call : Nat → List mV → mG → mR} {g : mG} : mEv X call 0 t_X3_readBreak (mDrop t_X3_readBreak 19) [some (mr 5 16), none] [] g = mAns (mEv X call 0 t_X3_readBreak) (mDrop t_X3_readBreak 26) [some (mr 5 16), none] [] (call 138 [mi (g 5 16 6)] g) := (mEv_3 _ _ _ _).trans rfl
theorem e_X3_readBreak_26 {X : mX} {call : Nat → List mV → mG → mR} {g : mG} {s0 : Int32} : mEv X call 0 t_X3_readBreak (mDrop t_X3_readBreak 26) [some (mr 5 16), none] [mi s0] g = if s0 = 0 then mEv X call 0 t_X3_readBreak (mDrop t_X3_readBreak 40) [some (mr 5 16), none] [] g else mEv X call 0 t_X3_readBreak (mDrop t_X3_readBreak 29) [some (mr 5 16), none] [] g := (mEv_1 _ _ _ _).trans rfl
theorem e_X3_readBreak_40 {X : mX} {call : Nat → List mV → mG → mR} {g : mG} : mEv X call 0 t_X3_readBreak (mDrop t_X3_readBreak 40) [some (mr 5 16), none] [] g = mAns (mEv X call 0 t_X3_readBreak) (mDrop t_X3_readBreak 46) [some (mr 5 16), none] [] (call 79 [mr 5 16, mi 0, mi 1] g) := (mEv_4 _ _ _ _).trans rfl
theorem e_X3_readBreak_46 {X : mX} {call : Nat → List mV → mG → mR} {g : mG} {s0 : Int32} : mEv X call 0 t_X3_readBreak (mDrop t_X3_readBreak 46) [some (mr 5 16), none] [mi s0] g = mAns (mEv X call 0 t_X3_readBreak) (mDrop t_X3_readBreak 53) [some (mr 5 16), some (mi s0)] [] (call 78 [mr 5 16, mr 4 24] g) := (mEv_4 _ _ _ _).trans rfl
theorem e_X3_readBreak_53 {X : mX} {call : Nat → List mV → mG → mR} {g : mG} {x1 : Int32} : mEv X call 0 t_X3_readBreak (mDrop t_X3_readBreak 53) [some (mr 5 16), some (mi x1)] [] g = mAns (mEv X call 0 t_X3_readBreak) (mDrop t_X3_readBreak 63) [some (mr 5 16), some (mi x1)] [mi 0, mi x1, mr 5 1] (call 80 [mr 5 16] g) := (mEv_6 _ _ _ _).trans rfl
theorem e_X3_readBreak_63 {X : mX} {call : Nat → List mV → mG → mR} {g : mG} {x1 s1 s2 s3 : Int32} : mEv X call 0 t_X3_readBreak (mDrop t_X3_readBreak 63) [some (mr 5 16), some (mi x1)] [mi s3, mi s2, mi s1, mr 5 1] g = mAns (mEv X call 0 t_X3_readBreak) (mDrop t_X3_readBreak 66) [some (mr 5 16), some (mi x1)] [] (call 60 [mr 5 1, mi s1, mi s2, mi s3] g) := (mEv_1 _ _ _ _).trans rfl
theorem e_X3_readBreak_66 {X : mX} {call : Nat → List mV → mG → mR} {g : mG} {x1 : Int32} : mEv X call 0 t_X3_readBreak (mDrop t_X3_readBreak 66) [some (mr 5 16), some (mi x1)] [] g = mAns (mEv X call 0 t_X3_readBreak) (mDrop t_X3_readBreak 79) [some (mr 5 16), some (mi x1)] [mi 1, mi x1, mr 5 1] (call 79 [mr 5 16, mi 0, mi 30] g) := (mEv_8 _ _ _ _).trans rfl
theorem e_X3_readBreak_79 {X : mX} {call : Nat → List mV → mG → mR} {g : mG} {x1 s1 s2 s3 : Int32} : mEv X call 0 t_X3_readBreak (mDrop t_X3_readBreak 79) [some (mr 5 16), some (mi x1)] [mi s3, mi s2, mi s1, mr 5 1] g = mAns (mEv X call 0 t_X3_readBreak) (mDrop t_X3_readBreak 82) [some (mr 5 16), some (mi x1)] [] (call 60 [mr 5 1, mi s1, mi s2, mi s3] g) := (mEv_1 _ _ _ _).trans rfl
theorem e_X3_readBreak_82 {X : mX} {call : Nat → List mV → mG → mR} {g : mG} {x1 : Int32} : mEv X call 0 t_X3_readBreak (mDrop t_X3_readBreak 82) [some (mr 5 16), some (mi x1)] [] g = mAns (mEv X call 0 t_X3_readBreak) (mDrop t_X3_readBreak 88) [some (mr 5 16), some (mi x1)] [] (call 78 [mr 5 16, mr 5 24] g) := (mEv_3 _ _ _ _).trans rfl
theorem e_X3_readBreak_88 {X : mX} {call : Nat → List mV → mG → mR} {g : mG} {x1 : Int32} : mEv X call 0 t_X3_readBreak (mDrop t_X3_readBreak 88) [some (mr 5 16), some (mi x1)] [] g = mAns (mEv X call 0 t_X3_readBreak) (mDrop t_X3_readBreak 98) [some (mr 5 16), some (mi x1)] [mi 2, mi x1, mr 5 1] (call 80 [mr 5 16] g) := (mEv_6 _ _ _ _).trans rfl
theorem e_X3_readBreak_98 {X : mX} {call : Nat → List mV → mG → mR} {g : mG} {x1 s1 s2 s3 : Int32} : mEv X call 0 t_X3_readBreak (mDrop t_X3_readBreak 98) [some (mr 5 16), some (mi x1)] [mi s3, mi s2, mi s1, mr 5 1] g = mAns (mEv X call 0 t_X3_readBreak) (mDrop t_X3_readBreak 101) [some (mr 5 16), some (mi x1)] [] (call 60 [mr 5 1, mi s1, mi s2, mi s3] g) := (mEv_1 _ _ _ _).trans rfl
theorem e_X3_readBreak_101 {X : mX} {call : Nat → List mV → mG → mR} {g : mG} {x1 : Int32} : mEv X call 0 t_X3_readBreak (mDrop t_X3_readBreak 101) [some (mr 5 16), some (mi x1)] [] g = mAns (mEv X call 0 t_X3_readBreak) (mDrop t_X3_readBreak 114) [some (mr 5 16), some (mi x1)] [mi 3, mi x1, mr 5 1] (call 79 [mr 5 16, mi 0, mi 30] g) := (mEv_8 _ _ _ _).trans rfl
theorem e_X3_readBreak_114 {X : mX} {call : Nat → List mV → mG → mR} {g : mG} {x1 s1 s2 s3 : Int32} : mEv X call 0 t_X3_readBreak (mDrop t_X3_readBreak 114) [some (mr 5 16), some (mi x1)] [mi s3, mi s2, mi s1, mr 5 1] g = mAns (mEv X call 0 t_X3_readBreak) (mDrop t_X3_readBreak 117) [some (mr 5 16), some (mi x1)] [] (call 60 [mr 5 1, mi s1, mi s2, mi s3] g) := (mEv_1 _ _ _ _).trans rfl
theorem e_X3_readBreak_117 {X : mX} {call : Nat → List mV → mG → mR} {g : mG} {x1 : Int32} : mEv X call 0 t_X3_readBreak (mDrop t_X3_readBreak 117) [some (mr 5 16), some (mi x1)] [] g = mAns (mEv X call 0 t_X3_readBreak) (mDrop t_X3_readBreak 123) [some (mr 5 16), some (mi x1)] [] (call 78 [mr 5 16, mr 6 24] g) := (mEv_3 _ _ _ _).trans rfl
theorem e_X3_readBreak_123 {X : mX} {call : Nat → List mV → mG → mR} {g : mG} {x1 : Int32} : mEv X call 0 t_X3_readBreak (mDrop t_X3_readBreak 123) [some (mr 5 16), some (mi x1)] [] g = mAns (mEv X call 0 t_X3_readBreak) (mDrop t_X3_readBreak 136) [some (mr 5 16), some (mi x1)] [mi 4, mi x1, mr 5 1] (call 79 [mr 5 16, mi 0, mi 20] g) := (mEv_8 _ _ _ _).trans rfl
theorem e_X3_readBreak_136 {X : mX} {call : Nat → List mV → mG → mR} {g : mG} {x1 s1 s2 s3 : Int32} : mEv X call 0 t_X3_readBreak (mDrop t_X3_readBreak 136) [some (mr 5 16), some (mi x1)] [mi s3, mi s2, mi s1, mr 5 1] g = mAns (mEv X call 0 t_X3_readBreak) (mDrop t_X3_readBreak 139) [some (mr 5 16), some (mi x1)] [] (call 60 [mr 5 1, mi s1, mi s2, mi s3] g) := (mEv_1 _ _ _ _).trans rfl
theorem e_X3_readBreak_139 {X : mX} {call : Nat → List mV → mG → mR} {g : mG} {x1 : Int32} : mEv X call 0 t_X3_readBreak (mDrop t_X3_readBreak 139) [some (mr 5 16), some (mi x1)] [] g = mAns (mEv X call 0 t_X3_readBreak) (mDrop t_X3_readBreak 143) [some (mr 5 16), some (mi x1)] [] (call 77 [mr 5 16] g) := (mEv_2 _ _ _ _).trans rfl
theorem e_X3_readBreak_143 {X : mX} {call : Nat → List mV → mG → mR} {g : mG} {x1 : Int32} : mEv X call 0 t_X3_readBreak (mDrop t_X3_readBreak 143) [some (mr 5 16), some (mi x1)] [] g = some (none, g) := (mEv_1 _ _ _ _).trans rfl
noncomputable def J_X3_readBreak_40 (c : mC) : (mC) := (mBd (α := Int32 × mC) (P_X3_takeNumber c 0 1) (fun p1 => (mBd (α := mC) (P_X3_takeWord 4 p1.2) (fun c2 => (mBd (α := Int32 × mC) (P_X3_takeSet c2) (fun p3 => (mBd (α := mC) (P_X2_putBreak p3.2 p1.1 0 p3.1) (fun c4 => (mBd (α := Int32 × mC) (P_X3_takeNumber c4 0 30) (fun p5 => (mBd (α := mC) (P_X2_putBreak p5.2 p1.1 1 p5.1) (fun c6 => (mBd (α := mC) (P_X3_takeWord 5 c6) (fun c7 => (mBd (α := Int32 × mC) (P_X3_takeSet c7) (fun p8 => (mBd (α := mC) (P_X2_putBreak p8.2 p1.1 2 p8.1) (fun c9 => (mBd (α := Int32 × mC) (P_X3_takeNumber c9 0 30) (fun p10 => (mBd (α := mC) (P_X2_putBreak p10.2 p1.1 3 p10.1) (fun c11 => (mBd (α := mC) (P_X3_takeWord 6 c11) (fun c12 => (mBd (α := Int32 × mC) (P_X3_takeNumber c12 0 20) (fun p13 => (mBd (α := mC) (P_X2_putBreak p13.2 p1.1 4 p13.1) (fun c14 => (mBd (α := mC) (P_X3_endLine c14) (fun c15 => c15))))))))))))))))))))))))))))))
theorem rj_X3_readBreak_40 (d : Nat) {X : mX} {g : mG} {c : mC} : mEv X (mCall mD X (d + 6)) 0 t_X3_readBreak (mDrop t_X3_readBreak 40) [some (mr 5 16), none] [] (mU g 5 c) = (wV g 5) (J_X3_readBreak_40 c) := by
  refine Eq.trans (e_X3_readBreak_40) ?_
  try simp only [mU_same, mU_mU]
  refine mw_cW (rr_X3_takeNumber (d + 2)) (fun p1 => ?_)
  refine Eq.trans (e_X3_readBreak_46) ?_
  try simp only [mU_same, mU_mU]
  refine mw_cV (rr_X3_takeWord d) (fun c2 => ?_)
  refine Eq.trans (e_X3_readBreak_53) ?_
  try simp only [mU_same, mU_mU]
  refine mw_cW (rr_X3_takeSet (d + 1)) (fun p3 => ?_)
  refine Eq.trans (e_X3_readBreak_63) ?_
  try simp only [mU_same, mU_mU]
  refine mw_cV (rr_X2_putBreak (d + 4)) (fun c4 => ?_)
  refine Eq.trans (e_X3_readBreak_66) ?_
  try simp only [mU_same, mU_mU]
  refine mw_cW (rr_X3_takeNumber (d + 2)) (fun p5 => ?_)
  refine Eq.trans (e_X3_readBreak_79) ?_
  try simp only [mU_same, mU_mU]
  refine mw_cV (rr_X2_putBreak (d + 4)) (fun c6 => ?_)
  refine Eq.trans (e_X3_readBreak_82) ?_
  try simp only [mU_same, mU_mU]
  refine mw_cV (rr_X3_takeWord d) (fun c7 => ?_)
  refine Eq.trans (e_X3_readBreak_88) ?_
  try simp only [mU_same, mU_mU]
  refine mw_cW (rr_X3_takeSet (d + 1)) (fun p8 => ?_)
  refine Eq.trans (e_X3_readBreak_98) ?_
  try simp only [mU_same, mU_mU]
  refine mw_cV (rr_X2_putBreak (d + 4)) (fun c9 => ?_)
  refine Eq.trans (e_X3_readBreak_101) ?_
  try simp only [mU_same, mU_mU]
  refine mw_cW (rr_X3_takeNumber (d + 2)) (fun p10 => ?_)
  refine Eq.trans (e_X3_readBreak_114) ?_
  try simp only [mU_same, mU_mU]
  refine mw_cV (rr_X2_putBreak (d + 4)) (fun c11 => ?_)
  refine Eq.trans (e_X3_readBreak_117) ?_
  try simp only [mU_same, mU_mU]
  refine mw_cV (rr_X3_takeWord d) (fun c12 => ?_)
  refine Eq.trans (e_X3_readBreak_123) ?_
  try simp only [mU_same, mU_mU]
  refine mw_cW (rr_X3_takeNumber (d + 2)) (fun p13 => ?_)
  refine Eq.trans (e_X3_readBreak_136) ?_
  try simp only [mU_same, mU_mU]
  refine mw_cV (rr_X2_putBreak (d + 4)) (fun c14 => ?_)
  refine Eq.trans (e_X3_readBreak_139) ?_
  try simp only [mU_same, mU_mU]
  refine mw_cV (rr_X3_endLine (d + 2)) (fun c15 => ?_)
  refine Eq.trans (e_X3_readBreak_143) ?_
  try simp only [mU_same, mU_mU]
  all_goals rfl
theorem e_X3_readBreak_29 {X : mX} {call : Nat → List mV → mG → mR} {g : mG} : mEv X call 0 t_X3_readBreak (mDrop t_X3_readBreak 29) [some (mr 5 16), none] [] g = mAns (mEv X call 0 t_X3_readBreak) (mDrop t_X3_readBreak 37) [some (mr 5 16), none] [mr 5 16] (call 147 [mi (g 5 16 6)] g) := (mEv_4 _ _ _ _).trans rfl
theorem e_X3_readBreak_37 {X : mX} {call : Nat → List mV → mG → mR} {g : mG} {s1 : Int32} : mEv X call 0 t_X3_readBreak (mDrop t_X3_readBreak 37) [some (mr 5 16), none] [mi s1, mr 5 16] g = mAns (mEv X call 0 t_X3_readBreak) (mDrop t_X3_readBreak 40) [some (mr 5 16), none] [] (call 85 [mr 5 16, mi s1] g) := (mEv_1 _ _ _ _).trans rfl
noncomputable def P_X3_readBreak (c : mC) : (mC) := (mBd (α := mC) (P_X3_step c) (fun c1 => (if (c1 16 9) = 0 then (if (c1 16 5) = 2 then (mBd (α := Int32) (P_X5_isBreak (c1 16 6)) (fun v2 => (if v2 = 0 then (J_X3_readBreak_40 c1) else (mBd (α := Int32) (P_X5_bit (c1 16 6)) (fun v3 => (mBd (α := mC) (P_X3_tellOnce c1 v3) (fun c4 => (J_X3_readBreak_40 c4)))))))) else (J_X3_readBreak_40 c1)) else (J_X3_readBreak_40 c1))))
theorem rr_X3_readBreak (d : Nat) {X : mX} {g : mG} {c : mC} : mCall mD X (d + 7) 88 [mr 5 16] (mU g 5 c) = (wV g 5) (P_X3_readBreak c) := by
  refine Eq.trans (mCall_eq (d := d + 6) rfl) ?_
  show mEv X (mCall mD X (d + 6)) 0 t_X3_readBreak (mDrop t_X3_readBreak 0) [some (mr 5 16), none] [] (mU g 5 c) = _
  refine Eq.trans (e_X3_readBreak_0) ?_
  try simp only [mU_same, mU_mU]
  refine mw_cV (rr_X3_step (d + 3)) (fun c1 => ?_)
  refine Eq.trans (e_X3_readBreak_4) ?_
  try simp only [mU_same, mU_mU]
  refine mw_ite (fun h7 => ?_) (fun h7 => ?_)
  · refine Eq.trans (e_X3_readBreak_11) ?_
    try simp only [mU_same, mU_mU]
    refine mw_ite (fun h6 => ?_) (fun h6 => ?_)
    · refine Eq.trans (e_X3_readBreak_19) ?_
      try simp only [mU_same, mU_mU]
      refine mw_cZ (rr_X5_isBreak (d + 5)) rfl (fun v2 hv2 => ?_)
      refine Eq.trans (e_X3_readBreak_26) ?_
      try simp only [mU_same, mU_mU]
      refine mw_ite (fun h5 => ?_) (fun h5 => ?_)
      · exact rj_X3_readBreak_40 d
      · refine Eq.trans (e_X3_readBreak_29) ?_
        try simp only [mU_same, mU_mU]
        refine mw_cI (rr_X5_bit (d + 5)) (fun v3 => ?_)
        refine Eq.trans (e_X3_readBreak_37) ?_
        try simp only [mU_same, mU_mU]
        refine mw_cV (rr_X3_tellOnce (d + 4)) (fun c4 => ?_)
        exact rj_X3_readBreak_40 d
    · exact rj_X3_readBreak_40 d
  · exact rj_X3_readBreak_40 d
theorem rr_X3_readBreak_at (d : Nat) {X : mX} {g : mG} : mCall mD X (d + 7) 88 [mr 5 16] g = some (none, mU g 5 (P_X3_readBreak (g 5))) := by
  have h := rr_X3_readBreak (X := X) d (g := g) (c := g 5)
  rw [mU_self] at h
  exact h
theorem e_X3_readText_0 {X : mX} {call : Nat → List mV → mG → mR} {g : mG} {x1 : Int32} : mEv X call 0 t_X3_readText (mDrop t_X3_readText 0) [some (mr 5 16), some (mi x1), none] [] g = mAns (mEv X call 0 t_X3_readText) (mDrop t_X3_readText 7) [some (mr 5 16), some (mi x1), none] [] (call 51 [mr 5 1] g) := (mEv_3 _ _ _ _).trans rfl
theorem e_X3_readText_7 {X : mX} {call : Nat → List mV → mG → mR} {g : mG} {x1 : Int32} : mEv X call 0 t_X3_readText (mDrop t_X3_readText 7) [some (mr 5 16), some (mi x1), none] [] g = mAns (mEv X call 0 t_X3_readText) (mDrop t_X3_readText 17) [some (mr 5 16), some (mi x1), none] [mr 5 16] (call 278 [mi x1, mi 700] g) := (mEv_6 _ _ _ _).trans rfl
theorem e_X3_readText_17 {X : mX} {call : Nat → List mV → mG → mR} {g : mG} {x1 s1 : Int32} : mEv X call 0 t_X3_readText (mDrop t_X3_readText 17) [some (mr 5 16), some (mi x1), none] [mi s1, mr 5 16] g = mEv X call 0 t_X3_readText (mDrop t_X3_readText 20) [some (mr 5 16), some (mi x1), none] [] (mU g 5 (mP (g 5) 16 2 s1)) := (mEv_1 _ _ _ _).trans rfl
theorem e_X3_readText_20 {X : mX} {call : Nat → List mV → mG → mR} {g : mG} {x1 : Int32} : mEv X call 0 t_X3_readText (mDrop t_X3_readText 20) [some (mr 5 16), some (mi x1), none] [] g = mEv X call 0 t_X3_readText (mDrop t_X3_readText 25) [some (mr 5 16), some (mi x1), none] [] (mU g 5 (mP (g 5) 16 3 0)) := (mEv_3 _ _ _ _).trans rfl
theorem e_X3_readText_25 {X : mX} {call : Nat → List mV → mG → mR} {g : mG} {x1 : Int32} : mEv X call 0 t_X3_readText (mDrop t_X3_readText 25) [some (mr 5 16), some (mi x1), none] [] g = mEv X call 0 t_X3_readText (mDrop t_X3_readText 30) [some (mr 5 16), some (mi x1), none] [] (mU g 5 (mP (g 5) 16 7 0)) := (mEv_3 _ _ _ _).trans rfl
theorem e_X3_readText_30 {X : mX} {call : Nat → List mV → mG → mR} {g : mG} {x1 : Int32} : mEv X call 0 t_X3_readText (mDrop t_X3_readText 30) [some (mr 5 16), some (mi x1), none] [] g = mEv X call 0 t_X3_readText (mDrop t_X3_readText 35) [some (mr 5 16), some (mi x1), none] [] (mU g 5 (mP (g 5) 16 8 0)) := (mEv_3 _ _ _ _).trans rfl
theorem e_X3_readText_35 {X : mX} {call : Nat → List mV → mG → mR} {g : mG} {x1 : Int32} : mEv X call 0 t_X3_readText (mDrop t_X3_readText 35) [some (mr 5 16), some (mi x1), none] [] g = mEv X call 0 t_X3_readText (mDrop t_X3_readText 40) [some (mr 5 16), some (mi x1), none] [] (mU g 5 (mP (g 5) 16 9 0)) := (mEv_3 _ _ _ _).trans rfl
theorem e_X3_readText_40 {X : mX} {call : Nat → List mV → mG → mR} {g : mG} {x1 : Int32} : mEv X call 0 t_X3_readText (mDrop t_X3_readText 40) [some (mr 5 16), some (mi x1), none] [] g = mEv X call 0 t_X3_readText (mDrop t_X3_readText 45) [some (mr 5 16), some (mi x1), none] [] (mU g 5 (mP (g 5) 16 10 (-1))) := (mEv_3 _ _ _ _).trans rfl
theorem e_X3_readText_45 {X : mX} {call : Nat → List mV → mG → mR} {g : mG} {x1 : Int32} : mEv X call 0 t_X3_readText (mDrop t_X3_readText 45) [some (mr 5 16), some (mi x1), none] [] g = mEv X call 0 t_X3_readText (mDrop t_X3_readText 50) [some (mr 5 16), some (mi x1), none] [] (mU g 5 (mP (g 5) 16 11 (-1))) := (mEv_3 _ _ _ _).trans rfl
theorem e_X3_readText_50 {X : mX} {call : Nat → List mV → mG → mR} {g : mG} {x1 : Int32} : mEv X call 0 t_X3_readText (mDrop t_X3_readText 50) [some (mr 5 16), some (mi x1), none] [] g = mAns (mEv X call 0 t_X3_readText) (mDrop t_X3_readText 54) [some (mr 5 16), some (mi x1), none] [] (call 72 [mr 5 16] g) := (mEv_2 _ _ _ _).trans rfl
theorem e_X3_readText_54 {X : mX} {call : Nat → List mV → mG → mR} {g : mG} {x1 : Int32} : mEv X call 0 t_X3_readText (mDrop t_X3_readText 54) [some (mr 5 16), some (mi x1), none] [] g = mEv X call 0 t_X3_readText (mDrop t_X3_readText 56) [some (mr 5 16), some (mi x1), some (mi 0)] [] g := (mEv_2 _ _ _ _).trans rfl
theorem e_X3_readText_56 {X : mX} {call : Nat → List mV → mG → mR} {g : mG} {x1 x2 : Int32} : mEv X call 0 t_X3_readText (mDrop t_X3_readText 56) [some (mr 5 16), some (mi x1), some (mi x2)] [] g = if 700 < x2 then mEv X call 0 t_X3_readText (mDrop t_X3_readText 152) [some (mr 5 16), some (mi x1), some (mi x2)] [] g else mEv X call 0 t_X3_readText (mDrop t_X3_readText 63) [some (mr 5 16), some (mi x1), some (mi x2)] [] g := (mEv_3 _ _ _ _).trans rfl
theorem e_X3_readText_152 {X : mX} {call : Nat → List mV → mG → mR} {g : mG} {x1 x2 : Int32} : mEv X call 0 t_X3_readText (mDrop t_X3_readText 152) [some (mr 5 16), some (mi x1), some (mi x2)] [] g = some (none, g) := (mEv_1 _ _ _ _).trans rfl
theorem e_X3_readText_63 {X : mX} {call : Nat → List mV → mG → mR} {g : mG} {x1 x2 : Int32} : mEv X call 0 t_X3_readText (mDrop t_X3_readText 63) [some (mr 5 16), some (mi x1), some (mi x2)] [] g = if (g 5 16 9) = 0 then mEv X call 0 t_X3_readText (mDrop t_X3_readText 70) [some (mr 5 16), some (mi x1), some (mi x2)] [] g else mEv X call 0 t_X3_readText (mDrop t_X3_readText 152) [some (mr 5 16), some (mi x1), some (mi x2)] [] g := (mEv_3 _ _ _ _).trans rfl
theorem e_X3_readText_70 {X : mX} {call : Nat → List mV → mG → mR} {g : mG} {x1 x2 : Int32} : mEv X call 0 t_X3_readText (mDrop t_X3_readText 70) [some (mr 5 16), some (mi x1), some (mi x2)] [] g = if (g 5 16 5) = 0 then mEv X call 0 t_X3_readText (mDrop t_X3_readText 152) [some (mr 5 16), some (mi x1), some (mi x2)] [] g else mEv X call 0 t_X3_readText (mDrop t_X3_readText 77) [some (mr 5 16), some (mi x1), some (mi x2)] [] g := (mEv_3 _ _ _ _).trans rfl
theorem e_X3_readText_77 {X : mX} {call : Nat → List mV → mG → mR} {g : mG} {x1 x2 : Int32} : mEv X call 0 t_X3_readText (mDrop t_X3_readText 77) [some (mr 5 16), some (mi x1), some (mi x2)] [] g = mAns (mEv X call 0 t_X3_readText) (mDrop t_X3_readText 83) [some (mr 5 16), some (mi x1), some (mi x2)] [] (call 76 [mr 5 16, mr 0 24] g) := (mEv_3 _ _ _ _).trans rfl
theorem e_X3_readText_83 {X : mX} {call : Nat → List mV → mG → mR} {g : mG} {x1 x2 s0 : Int32} : mEv X call 0 t_X3_readText (mDrop t_X3_readText 83) [some (mr 5 16), some (mi x1), some (mi x2)] [mi s0] g = if s0 = 0 then mEv X call 0 t_X3_readText (mDrop t_X3_readText 93) [some (mr 5 16), some (mi x1), some (mi x2)] [] g else mEv X call 0 t_X3_readText (mDrop t_X3_readText 86) [some (mr 5 16), some (mi x1), some (mi x2)] [] g := (mEv_1 _ _ _ _).trans rfl
theorem e_X3_readText_93 {X : mX} {call : Nat → List mV → mG → mR} {g : mG} {x1 x2 : Int32} : mEv X call 0 t_X3_readText (mDrop t_X3_readText 93) [some (mr 5 16), some (mi x1), some (mi x2)] [] g = mAns (mEv X call 0 t_X3_readText) (mDrop t_X3_readText 99) [some (mr 5 16), some (mi x1), some (mi x2)] [] (call 76 [mr 5 16, mr 1 24] g) := (mEv_3 _ _ _ _).trans rfl
theorem e_X3_readText_99 {X : mX} {call : Nat → List mV → mG → mR} {g : mG} {x1 x2 s0 : Int32} : mEv X call 0 t_X3_readText (mDrop t_X3_readText 99) [some (mr 5 16), some (mi x1), some (mi x2)] [mi s0] g = if s0 = 0 then mEv X call 0 t_X3_readText (mDrop t_X3_readText 109) [some (mr 5 16), some (mi x1), some (mi x2)] [] g else mEv X call 0 t_X3_readText (mDrop t_X3_readText 102) [some (mr 5 16), some (mi x1), some (mi x2)] [] g := (mEv_1 _ _ _ _).trans rfl
theorem e_X3_readText_109 {X : mX} {call : Nat → List mV → mG → mR} {g : mG} {x1 x2 : Int32} : mEv X call 0 t_X3_readText (mDrop t_X3_readText 109) [some (mr 5 16), some (mi x1), some (mi x2)] [] g = mAns (mEv X call 0 t_X3_readText) (mDrop t_X3_readText 115) [some (mr 5 16), some (mi x1), some (mi x2)] [] (call 76 [mr 5 16, mr 2 24] g) := (mEv_3 _ _ _ _).trans rfl
theorem e_X3_readText_115 {X : mX} {call : Nat → List mV → mG → mR} {g : mG} {x1 x2 s0 : Int32} : mEv X call 0 t_X3_readText (mDrop t_X3_readText 115) [some (mr 5 16), some (mi x1), some (mi x2)] [mi s0] g = if s0 = 0 then mEv X call 0 t_X3_readText (mDrop t_X3_readText 125) [some (mr 5 16), some (mi x1), some (mi x2)] [] g else mEv X call 0 t_X3_readText (mDrop t_X3_readText 118) [some (mr 5 16), some (mi x1), some (mi x2)] [] g := (mEv_1 _ _ _ _).trans rfl
theorem e_X3_readText_125 {X : mX} {call : Nat → List mV → mG → mR} {g : mG} {x1 x2 : Int32} : mEv X call 0 t_X3_readText (mDrop t_X3_readText 125) [some (mr 5 16), some (mi x1), some (mi x2)] [] g = mAns (mEv X call 0 t_X3_readText) (mDrop t_X3_readText 131) [some (mr 5 16), some (mi x1), some (mi x2)] [] (call 76 [mr 5 16, mr 3 24] g) := (mEv_3 _ _ _ _).trans rfl
theorem e_X3_readText_131 {X : mX} {call : Nat → List mV → mG → mR} {g : mG} {x1 x2 s0 : Int32} : mEv X call 0 t_X3_readText (mDrop t_X3_readText 131) [some (mr 5 16), some (mi x1), some (mi x2)] [mi s0] g = if s0 = 0 then mEv X call 0 t_X3_readText (mDrop t_X3_readText 141) [some (mr 5 16), some (mi x1), some (mi x2)] [] g else mEv X call 0 t_X3_readText (mDrop t_X3_readText 134) [some (mr 5 16), some (mi x1), some (mi x2)] [] g := (mEv_1 _ _ _ _).trans rfl
theorem e_X3_readText_141 {X : mX} {call : Nat → List mV → mG → mR} {g : mG} {x1 x2 : Int32} : mEv X call 0 t_X3_readText (mDrop t_X3_readText 141) [some (mr 5 16), some (mi x1), some (mi x2)] [] g = mAns (mEv X call 0 t_X3_readText) (mDrop t_X3_readText 146) [some (mr 5 16), some (mi x1), some (mi x2)] [] (call 71 [mr 5 16, mi 2] g) := (mEv_3 _ _ _ _).trans rfl
theorem e_X3_readText_146 {X : mX} {call : Nat → List mV → mG → mR} {g : mG} {x1 x2 : Int32} : mEv X call 0 t_X3_readText (mDrop t_X3_readText 146) [some (mr 5 16), some (mi x1), some (mi x2)] [] g = mEv X call 0 t_X3_readText (mDrop t_X3_readText 56) [some (mr 5 16), some (mi x1), some (mi (x2 + 1))] [] g := (mEv_2 _ _ _ _).trans rfl
noncomputable def J_X3_readText_146 (c : mC) (x2 : Int32) : ((Int32 × mC) ⊕ (mC)) := (.inl ((x2 + 1), c))
theorem rj_X3_readText_146 (d : Nat) {X : mX} {g : mG} {x1 x2 : Int32} {c : mC} : mEv X (mCall mD X (d + 8)) 0 t_X3_readText (mDrop t_X3_readText 146) [some (mr 5 16), some (mi x1), some (mi x2)] [] (mU g 5 c) = (wB (fun s : (Int32 × mC) => match s with | (x2, c) => mEv X (mCall mD X (d + 8)) 0 t_X3_readText (mDrop t_X3_readText 56) [some (mr 5 16), some (mi x1), some (mi x2)] [] (mU g 5 c)) (wV g 5)) (J_X3_readText_146 c x2) := by
  refine Eq.trans (e_X3_readText_146) ?_
  try simp only [mU_same, mU_mU]
  exact mw_inl rfl
theorem e_X3_readText_134 {X : mX} {call : Nat → List mV → mG → mR} {g : mG} {x1 x2 : Int32} : mEv X call 0 t_X3_readText (mDrop t_X3_readText 134) [some (mr 5 16), some (mi x1), some (mi x2)] [] g = mAns (mEv X call 0 t_X3_readText) (mDrop t_X3_readText 138) [some (mr 5 16), some (mi x1), some (mi x2)] [] (call 88 [mr 5 16] g) := (mEv_2 _ _ _ _).trans rfl
theorem e_X3_readText_138 {X : mX} {call : Nat → List mV → mG → mR} {g : mG} {x1 x2 : Int32} : mEv X call 0 t_X3_readText (mDrop t_X3_readText 138) [some (mr 5 16), some (mi x1), some (mi x2)] [] g = mEv X call 0 t_X3_readText (mDrop t_X3_readText 146) [some (mr 5 16), some (mi x1), some (mi x2)] [] g := (mEv_1 _ _ _ _).trans rfl
theorem e_X3_readText_118 {X : mX} {call : Nat → List mV → mG → mR} {g : mG} {x1 x2 : Int32} : mEv X call 0 t_X3_readText (mDrop t_X3_readText 118) [some (mr 5 16), some (mi x1), some (mi x2)] [] g = mAns (mEv X call 0 t_X3_readText) (mDrop t_X3_readText 122) [some (mr 5 16), some (mi x1), some (mi x2)] [] (call 87 [mr 5 16] g) := (mEv_2 _ _ _ _).trans rfl
theorem e_X3_readText_122 {X : mX} {call : Nat → List mV → mG → mR} {g : mG} {x1 x2 : Int32} : mEv X call 0 t_X3_readText (mDrop t_X3_readText 122) [some (mr 5 16), some (mi x1), some (mi x2)] [] g = mEv X call 0 t_X3_readText (mDrop t_X3_readText 146) [some (mr 5 16), some (mi x1), some (mi x2)] [] g := (mEv_1 _ _ _ _).trans rfl
theorem e_X3_readText_102 {X : mX} {call : Nat → List mV → mG → mR} {g : mG} {x1 x2 : Int32} : mEv X call 0 t_X3_readText (mDrop t_X3_readText 102) [some (mr 5 16), some (mi x1), some (mi x2)] [] g = mAns (mEv X call 0 t_X3_readText) (mDrop t_X3_readText 106) [some (mr 5 16), some (mi x1), some (mi x2)] [] (call 86 [mr 5 16] g) := (mEv_2 _ _ _ _).trans rfl
theorem e_X3_readText_106 {X : mX} {call : Nat → List mV → mG → mR} {g : mG} {x1 x2 : Int32} : mEv X call 0 t_X3_readText (mDrop t_X3_readText 106) [some (mr 5 16), some (mi x1), some (mi x2)] [] g = mEv X call 0 t_X3_readText (mDrop t_X3_readText 146) [some (mr 5 16), some (mi x1), some (mi x2)] [] g := (mEv_1 _ _ _ _).trans rfl
theorem e_X3_readText_86 {X : mX} {call : Nat → List mV → mG → mR} {g : mG} {x1 x2 : Int32} : mEv X call 0 t_X3_readText (mDrop t_X3_readText 86) [some (mr 5 16), some (mi x1), some (mi x2)] [] g = mAns (mEv X call 0 t_X3_readText) (mDrop t_X3_readText 90) [some (mr 5 16), some (mi x1), some (mi x2)] [] (call 81 [mr 5 16] g) := (mEv_2 _ _ _ _).trans rfl
theorem e_X3_readText_90 {X : mX} {call : Nat → List mV → mG → mR} {g : mG} {x1 x2 : Int32} : mEv X call 0 t_X3_readText (mDrop t_X3_readText 90) [some (mr 5 16), some (mi x1), some (mi x2)] [] g = mEv X call 0 t_X3_readText (mDrop t_X3_readText 146) [some (mr 5 16), some (mi x1), some (mi x2)] [] g := (mEv_1 _ _ _ _).trans rfl
noncomputable def B_X3_readText_56  : (Int32 × mC) → (Int32 × mC) ⊕ (mC) := fun s => match s with | (x2, c) => (if 700 < x2 then (.inr c) else (if (c 16 9) = 0 then (if (c 16 5) = 0 then (.inr c) else (mBd (α := Int32) (P_X3_isWord 0 c) (fun v1 => (if v1 = 0 then (mBd (α := Int32) (P_X3_isWord 1 c) (fun v2 => (if v2 = 0 then (mBd (α := Int32) (P_X3_isWord 2 c) (fun v3 => (if v3 = 0 then (mBd (α := Int32) (P_X3_isWord 3 c) (fun v4 => (if v4 = 0 then (mBd (α := mC) (P_X3_fail c 2) (fun c5 => (J_X3_readText_146 c5 x2))) else (mBd (α := mC) (P_X3_readBreak c) (fun c6 => (J_X3_readText_146 c6 x2)))))) else (mBd (α := mC) (P_X3_readOffset c) (fun c8 => (J_X3_readText_146 c8 x2)))))) else (mBd (α := mC) (P_X3_readCycle c) (fun c10 => (J_X3_readText_146 c10 x2)))))) else (mBd (α := mC) (P_X3_readPhase c) (fun c12 => (J_X3_readText_146 c12 x2))))))) else (.inr c)))
set_option maxRecDepth 100000 in
theorem tm_X3_readText_56  : mTm (B_X3_readText_56 ) := by
  refine ⟨fun s => match s with | (x2, c) => mMx x2, fun s s2 h => ?_⟩
  obtain ⟨x2, c⟩ := s
  simp only [B_X3_readText_56, J_X3_readText_146, mBd] at h
  (repeat' split at h) <;> first | (have h2 := Sum.inl.inj h; subst h2; dsimp only; exact mtm_ltK (by assumption) (by decide)) | (cases h; done)
theorem rl_X3_readText_56 (d : Nat) {X : mX} {g : mG} {x1 x2 : Int32} {c : mC} : mEv X (mCall mD X (d + 8)) 0 t_X3_readText (mDrop t_X3_readText 56) [some (mr 5 16), some (mi x1), some (mi x2)] [] (mU g 5 c) = (wV g 5) (mWh (fun _ _ => 0) B_X3_readText_56 (x2, c)) := by
  refine mWh_ev (B := B_X3_readText_56) (ev := fun s : (Int32 × mC) => match s with | (x2, c) => mEv X (mCall mD X (d + 8)) 0 t_X3_readText (mDrop t_X3_readText 56) [some (mr 5 16), some (mi x1), some (mi x2)] [] (mU g 5 c)) (w := (wV g 5)) (tm_X3_readText_56) ?_ (x2, c)
  rintro ⟨x2, c⟩
  show mEv X (mCall mD X (d + 8)) 0 t_X3_readText (mDrop t_X3_readText 56) [some (mr 5 16), some (mi x1), some (mi x2)] [] (mU g 5 c) = wB (fun s : (Int32 × mC) => match s with | (x2, c) => mEv X (mCall mD X (d + 8)) 0 t_X3_readText (mDrop t_X3_readText 56) [some (mr 5 16), some (mi x1), some (mi x2)] [] (mU g 5 c)) (wV g 5) (B_X3_readText_56  (x2, c))
  refine Eq.trans (e_X3_readText_56) ?_
  try simp only [mU_same, mU_mU]
  refine mw_ite (fun h16 => ?_) (fun h16 => ?_)
  · refine mw_inr ?_
    refine Eq.trans (e_X3_readText_152) ?_
    try simp only [mU_same, mU_mU]
    all_goals rfl
  · refine Eq.trans (e_X3_readText_63) ?_
    try simp only [mU_same, mU_mU]
    refine mw_ite (fun h15 => ?_) (fun h15 => ?_)
    · refine Eq.trans (e_X3_readText_70) ?_
      try simp only [mU_same, mU_mU]
      refine mw_ite (fun h14 => ?_) (fun h14 => ?_)
      · refine mw_inr ?_
        refine Eq.trans (e_X3_readText_152) ?_
        try simp only [mU_same, mU_mU]
        all_goals rfl
      · refine Eq.trans (e_X3_readText_77) ?_
        try simp only [mU_same, mU_mU]
        refine mw_cZ (rr_X3_isWord (d + 3)) rfl (fun v1 hv1 => ?_)
        refine Eq.trans (e_X3_readText_83) ?_
        try simp only [mU_same, mU_mU]
        refine mw_ite (fun h13 => ?_) (fun h13 => ?_)
        · refine Eq.trans (e_X3_readText_93) ?_
          try simp only [mU_same, mU_mU]
          refine mw_cZ (rr_X3_isWord (d + 3)) rfl (fun v2 hv2 => ?_)
          refine Eq.trans (e_X3_readText_99) ?_
          try simp only [mU_same, mU_mU]
          refine mw_ite (fun h11 => ?_) (fun h11 => ?_)
          · refine Eq.trans (e_X3_readText_109) ?_
            try simp only [mU_same, mU_mU]
            refine mw_cZ (rr_X3_isWord (d + 3)) rfl (fun v3 hv3 => ?_)
            refine Eq.trans (e_X3_readText_115) ?_
            try simp only [mU_same, mU_mU]
            refine mw_ite (fun h9 => ?_) (fun h9 => ?_)
            · refine Eq.trans (e_X3_readText_125) ?_
              try simp only [mU_same, mU_mU]
              refine mw_cZ (rr_X3_isWord (d + 3)) rfl (fun v4 hv4 => ?_)
              refine Eq.trans (e_X3_readText_131) ?_
              try simp only [mU_same, mU_mU]
              refine mw_ite (fun h7 => ?_) (fun h7 => ?_)
              · refine Eq.trans (e_X3_readText_141) ?_
                try simp only [mU_same, mU_mU]
                refine mw_cV (rr_X3_fail (d + 7)) (fun c5 => ?_)
                exact rj_X3_readText_146 d
              · refine Eq.trans (e_X3_readText_134) ?_
                try simp only [mU_same, mU_mU]
                refine mw_cV (rr_X3_readBreak (d + 1)) (fun c6 => ?_)
                refine Eq.trans (e_X3_readText_138) ?_
                try simp only [mU_same, mU_mU]
                exact rj_X3_readText_146 d
            · refine Eq.trans (e_X3_readText_118) ?_
              try simp only [mU_same, mU_mU]
              refine mw_cV (rr_X3_readOffset (d + 1)) (fun c8 => ?_)
              refine Eq.trans (e_X3_readText_122) ?_
              try simp only [mU_same, mU_mU]
              exact rj_X3_readText_146 d
          · refine Eq.trans (e_X3_readText_102) ?_
            try simp only [mU_same, mU_mU]
            refine mw_cV (rr_X3_readCycle (d + 1)) (fun c10 => ?_)
            refine Eq.trans (e_X3_readText_106) ?_
            try simp only [mU_same, mU_mU]
            exact rj_X3_readText_146 d
        · refine Eq.trans (e_X3_readText_86) ?_
          try simp only [mU_same, mU_mU]
          refine mw_cV (rr_X3_readPhase d) (fun c12 => ?_)
          refine Eq.trans (e_X3_readText_90) ?_
          try simp only [mU_same, mU_mU]
          exact rj_X3_readText_146 d
    · refine mw_inr ?_
      refine Eq.trans (e_X3_readText_152) ?_
      try simp only [mU_same, mU_mU]
      all_goals rfl
noncomputable def P_X3_readText (c : mC) (x1 : Int32) : (mC) := (mBd (α := mC) (P_X2_wipe c) (fun c1 => (mBd (α := Int32) (P_J9_min_7cf53 x1 700) (fun v2 => (mBd (α := mC) (P_X3_step (mP (mP (mP (mP (mP (mP (mP c1 16 2 v2) 16 3 0) 16 7 0) 16 8 0) 16 9 0) 16 10 (-1)) 16 11 (-1))) (fun c3 => (mWh (fun _ _ => 0) B_X3_readText_56 (0, c3))))))))
theorem rr_X3_readText (d : Nat) {X : mX} {g : mG} {x1 : Int32} {c : mC} : mCall mD X (d + 9) 70 [mr 5 16, mi x1] (mU g 5 c) = (wV g 5) (P_X3_readText c x1) := by
  refine Eq.trans (mCall_eq (d := d + 8) rfl) ?_
  show mEv X (mCall mD X (d + 8)) 0 t_X3_readText (mDrop t_X3_readText 0) [some (mr 5 16), some (mi x1), none] [] (mU g 5 c) = _
  refine Eq.trans (e_X3_readText_0) ?_
  try simp only [mU_same, mU_mU]
  refine mw_cV (rr_X2_wipe (d + 6)) (fun c1 => ?_)
  refine Eq.trans (e_X3_readText_7) ?_
  try simp only [mU_same, mU_mU]
  refine mw_cI (rr_J9_min_7cf53 (d + 7)) (fun v2 => ?_)
  refine Eq.trans (e_X3_readText_17) ?_
  try simp only [mU_same, mU_mU]
  refine Eq.trans (e_X3_readText_20) ?_
  try simp only [mU_same, mU_mU]
  refine Eq.trans (e_X3_readText_25) ?_
  try simp only [mU_same, mU_mU]
  refine Eq.trans (e_X3_readText_30) ?_
  try simp only [mU_same, mU_mU]
  refine Eq.trans (e_X3_readText_35) ?_
  try simp only [mU_same, mU_mU]
  refine Eq.trans (e_X3_readText_40) ?_
  try simp only [mU_same, mU_mU]
  refine Eq.trans (e_X3_readText_45) ?_
  try simp only [mU_same, mU_mU]
  refine Eq.trans (e_X3_readText_50) ?_
  try simp only [mU_same, mU_mU]
  refine mw_cV (rr_X3_step (d + 5)) (fun c3 => ?_)
  refine Eq.trans (e_X3_readText_54) ?_
  try simp only [mU_same, mU_mU]
  exact rl_X3_readText_56 d
theorem rr_X3_readText_at (d : Nat) {X : mX} {g : mG} {x1 : Int32} : mCall mD X (d + 9) 70 [mr 5 16, mi x1] g = some (none, mU g 5 (P_X3_readText (g 5) x1)) := by
  have h := rr_X3_readText (X := X) d (g := g) (c := g 5) (x1 := x1)
  rw [mU_self] at h
  exact h
