theorem e_X6_fault_0 {X : mX} {call : Nat → List mV → mG → mR} {g : mG} {x1 : Int32} : mEv X call 1 t_X6_fault (mDrop t_X6_fault 0) [some (mr 7 20), some (mi x1)] [] g = if x1 = 0 then mEv X call 1 t_X6_fault (mDrop t_X6_fault 4) [some (mr 7 20), some (mi x1)] [] g else mEv X call 1 t_X6_fault (mDrop t_X6_fault 11) [some (mr 7 20), some (mi x1)] [] g := (mEv_2 _ _ _ _).trans rfl
theorem e_X6_fault_4 {X : mX} {call : Nat → List mV → mG → mR} {g : mG} {x1 : Int32} : mEv X call 1 t_X6_fault (mDrop t_X6_fault 4) [some (mr 7 20), some (mi x1)] [] g = mEv X call 1 t_X6_fault (mDrop t_X6_fault 36) [some (mr 7 20), some (mi x1)] [mi (g 7 20 17)] g := (mEv_3 _ _ _ _).trans rfl
theorem e_X6_fault_36 {X : mX} {call : Nat → List mV → mG → mR} {g : mG} {x1 s0 : Int32} : mEv X call 1 t_X6_fault (mDrop t_X6_fault 36) [some (mr 7 20), some (mi x1)] [mi s0] g = some (some (mi s0), g) := (mEv_1 _ _ _ _).trans rfl
theorem e_X6_fault_11 {X : mX} {call : Nat → List mV → mG → mR} {g : mG} {x1 : Int32} : mEv X call 1 t_X6_fault (mDrop t_X6_fault 11) [some (mr 7 20), some (mi x1)] [] g = if x1 = 1 then mEv X call 1 t_X6_fault (mDrop t_X6_fault 16) [some (mr 7 20), some (mi x1)] [] g else mEv X call 1 t_X6_fault (mDrop t_X6_fault 23) [some (mr 7 20), some (mi x1)] [] g := (mEv_3 _ _ _ _).trans rfl
theorem e_X6_fault_16 {X : mX} {call : Nat → List mV → mG → mR} {g : mG} {x1 : Int32} : mEv X call 1 t_X6_fault (mDrop t_X6_fault 16) [some (mr 7 20), some (mi x1)] [] g = mEv X call 1 t_X6_fault (mDrop t_X6_fault 36) [some (mr 7 20), some (mi x1)] [mi (g 7 20 15)] g := (mEv_3 _ _ _ _).trans rfl
theorem e_X6_fault_23 {X : mX} {call : Nat → List mV → mG → mR} {g : mG} {x1 : Int32} : mEv X call 1 t_X6_fault (mDrop t_X6_fault 23) [some (mr 7 20), some (mi x1)] [] g = if x1 = 2 then mEv X call 1 t_X6_fault (mDrop t_X6_fault 28) [some (mr 7 20), some (mi x1)] [] g else mEv X call 1 t_X6_fault (mDrop t_X6_fault 35) [some (mr 7 20), some (mi x1)] [] g := (mEv_3 _ _ _ _).trans rfl
theorem e_X6_fault_28 {X : mX} {call : Nat → List mV → mG → mR} {g : mG} {x1 : Int32} : mEv X call 1 t_X6_fault (mDrop t_X6_fault 28) [some (mr 7 20), some (mi x1)] [] g = mEv X call 1 t_X6_fault (mDrop t_X6_fault 36) [some (mr 7 20), some (mi x1)] [mi (g 7 20 16)] g := (mEv_3 _ _ _ _).trans rfl
theorem e_X6_fault_35 {X : mX} {call : Nat → List mV → mG → mR} {g : mG} {x1 : Int32} : mEv X call 1 t_X6_fault (mDrop t_X6_fault 35) [some (mr 7 20), some (mi x1)] [] g = mEv X call 1 t_X6_fault (mDrop t_X6_fault 36) [some (mr 7 20), some (mi x1)] [mi (-1)] g := (mEv_1 _ _ _ _).trans rfl
noncomputable def P_X6_fault (c : mC) (x1 : Int32) : (Option (Int32)) := (if x1 = 0 then (some (c 20 17)) else (if x1 = 1 then (some (c 20 15)) else (if x1 = 2 then (some (c 20 16)) else (some (-1)))))
theorem rr_X6_fault (d : Nat) {X : mX} {g : mG} {x1 : Int32} {c : mC} : mCall mD X (d + 1) 232 [mr 7 20, mi x1] (mU g 7 c) = (wO (wI g 7 c)) (P_X6_fault c x1) := by
  refine Eq.trans (mCall_eq (d := d + 0) rfl) ?_
  show mEv X (mCall mD X (d + 0)) 1 t_X6_fault (mDrop t_X6_fault 0) [some (mr 7 20), some (mi x1)] [] (mU g 7 c) = _
  refine Eq.trans (e_X6_fault_0) ?_
  try simp only [mU_same, mU_mU]
  refine mw_ite (fun h3 => ?_) (fun h3 => ?_)
  · refine Eq.trans (e_X6_fault_4) ?_
    try simp only [mU_same, mU_mU]
    refine Eq.trans (e_X6_fault_36) ?_
    try simp only [mU_same, mU_mU]
    all_goals rfl
  · refine Eq.trans (e_X6_fault_11) ?_
    try simp only [mU_same, mU_mU]
    refine mw_ite (fun h2 => ?_) (fun h2 => ?_)
    · refine Eq.trans (e_X6_fault_16) ?_
      try simp only [mU_same, mU_mU]
      refine Eq.trans (e_X6_fault_36) ?_
      try simp only [mU_same, mU_mU]
      all_goals rfl
    · refine Eq.trans (e_X6_fault_23) ?_
      try simp only [mU_same, mU_mU]
      refine mw_ite (fun h1 => ?_) (fun h1 => ?_)
      · refine Eq.trans (e_X6_fault_28) ?_
        try simp only [mU_same, mU_mU]
        refine Eq.trans (e_X6_fault_36) ?_
        try simp only [mU_same, mU_mU]
        all_goals rfl
      · refine Eq.trans (e_X6_fault_35) ?_
        try simp only [mU_same, mU_mU]
        refine Eq.trans (e_X6_fault_36) ?_
        try simp only [mU_same, mU_mU]
        all_goals rfl
theorem rr_X6_fault_at (d : Nat) {X : mX} {g : mG} {x1 : Int32} : mCall mD X (d + 1) 232 [mr 7 20, mi x1] g = wO (wN g) (P_X6_fault (g 7) x1) := by
  have h := rr_X6_fault (X := X) d (g := g) (c := g 7) (x1 := x1)
  rw [mU_self] at h
  exact h.trans (wOI_self _ _ _)
theorem e_X6_many_0 {X : mX} {call : Nat → List mV → mG → mR} {g : mG} {x1 : Int32} : mEv X call 1 t_X6_many (mDrop t_X6_many 0) [some (mr 7 20), some (mi x1)] [] g = mAns (mEv X call 1 t_X6_many) (mDrop t_X6_many 7) [some (mr 7 20), some (mi x1)] [] (call 155 [mi x1, mi 0, mi 10] g) := (mEv_4 _ _ _ _).trans rfl
theorem e_X6_many_7 {X : mX} {call : Nat → List mV → mG → mR} {g : mG} {x1 s0 : Int32} : mEv X call 1 t_X6_many (mDrop t_X6_many 7) [some (mr 7 20), some (mi x1)] [mi s0] g = if s0 = 0 then mEv X call 1 t_X6_many (mDrop t_X6_many 22) [some (mr 7 20), some (mi x1)] [] g else mEv X call 1 t_X6_many (mDrop t_X6_many 10) [some (mr 7 20), some (mi x1)] [] g := (mEv_1 _ _ _ _).trans rfl
theorem e_X6_many_22 {X : mX} {call : Nat → List mV → mG → mR} {g : mG} {x1 : Int32} : mEv X call 1 t_X6_many (mDrop t_X6_many 22) [some (mr 7 20), some (mi x1)] [] g = if x1 = 11 then mEv X call 1 t_X6_many (mDrop t_X6_many 28) [some (mr 7 20), some (mi x1)] [] g else mEv X call 1 t_X6_many (mDrop t_X6_many 39) [some (mr 7 20), some (mi x1)] [] g := (mEv_3 _ _ _ _).trans rfl
theorem e_X6_many_28 {X : mX} {call : Nat → List mV → mG → mR} {g : mG} {x1 : Int32} : mEv X call 1 t_X6_many (mDrop t_X6_many 28) [some (mr 7 20), some (mi x1)] [] g = mAns (mEv X call 1 t_X6_many) (mDrop t_X6_many 36) [some (mr 7 20), some (mi x1)] [] (call 154 [mr 7 20, mi (g 7 20 2)] g) := (mEv_4 _ _ _ _).trans rfl
theorem e_X6_many_36 {X : mX} {call : Nat → List mV → mG → mR} {g : mG} {x1 s0 : Int32} : mEv X call 1 t_X6_many (mDrop t_X6_many 36) [some (mr 7 20), some (mi x1)] [mi s0] g = mEv X call 1 t_X6_many (mDrop t_X6_many 44) [some (mr 7 20), some (mi x1)] [mi s0] g := (mEv_1 _ _ _ _).trans rfl
theorem e_X6_many_44 {X : mX} {call : Nat → List mV → mG → mR} {g : mG} {x1 s0 : Int32} : mEv X call 1 t_X6_many (mDrop t_X6_many 44) [some (mr 7 20), some (mi x1)] [mi s0] g = some (some (mi s0), g) := (mEv_1 _ _ _ _).trans rfl
theorem e_X6_many_39 {X : mX} {call : Nat → List mV → mG → mR} {g : mG} {x1 : Int32} : mEv X call 1 t_X6_many (mDrop t_X6_many 39) [some (mr 7 20), some (mi x1)] [] g = mAns (mEv X call 1 t_X6_many) (mDrop t_X6_many 44) [some (mr 7 20), some (mi x1)] [] (call 152 [mr 7 20, mi 1] g) := (mEv_3 _ _ _ _).trans rfl
theorem e_X6_many_10 {X : mX} {call : Nat → List mV → mG → mR} {g : mG} {x1 : Int32} : mEv X call 1 t_X6_many (mDrop t_X6_many 10) [some (mr 7 20), some (mi x1)] [] g = mAns (mEv X call 1 t_X6_many) (mDrop t_X6_many 16) [some (mr 7 20), some (mi x1)] [mr 7 20] (call 158 [mr 7 20, mi x1] g) := (mEv_4 _ _ _ _).trans rfl
theorem e_X6_many_16 {X : mX} {call : Nat → List mV → mG → mR} {g : mG} {x1 s1 : Int32} : mEv X call 1 t_X6_many (mDrop t_X6_many 16) [some (mr 7 20), some (mi x1)] [mi s1, mr 7 20] g = mAns (mEv X call 1 t_X6_many) (mDrop t_X6_many 19) [some (mr 7 20), some (mi x1)] [] (call 154 [mr 7 20, mi s1] g) := (mEv_1 _ _ _ _).trans rfl
theorem e_X6_many_19 {X : mX} {call : Nat → List mV → mG → mR} {g : mG} {x1 s0 : Int32} : mEv X call 1 t_X6_many (mDrop t_X6_many 19) [some (mr 7 20), some (mi x1)] [mi s0] g = mEv X call 1 t_X6_many (mDrop t_X6_many 44) [some (mr 7 20), some (mi x1)] [mi s0] g := (mEv_1 _ _ _ _).trans rfl
noncomputable def P_X6_many (c : mC) (x1 : Int32) : (Option (Int32 × mC)) := (mBd (α := Int32) (P_X6_isFrom x1 0 10) (fun v1 => (if v1 = 0 then (if x1 = 11 then (mBo (α := Int32 × mC) none (P_X6_gives c (c 20 2)) (fun p2 => (some (p2.1, p2.2)))) else (mBo (α := Int32 × mC) none (P_X6_refuse c 1) (fun p3 => (some (p3.1, p3.2))))) else (mBo (α := Int32) none (P_X6_of c x1) (fun v5 => (mBo (α := Int32 × mC) none (P_X6_gives c v5) (fun p6 => (some (p6.1, p6.2)))))))))
theorem rr_X6_many (d : Nat) {X : mX} {g : mG} {x1 : Int32} {c : mC} : mCall mD X (d + 2) 233 [mr 7 20, mi x1] (mU g 7 c) = (wO (wW g 7)) (P_X6_many c x1) := by
  refine Eq.trans (mCall_eq (d := d + 1) rfl) ?_
  show mEv X (mCall mD X (d + 1)) 1 t_X6_many (mDrop t_X6_many 0) [some (mr 7 20), some (mi x1)] [] (mU g 7 c) = _
  refine Eq.trans (e_X6_many_0) ?_
  try simp only [mU_same, mU_mU]
  refine mw_cZ (rr_X6_isFrom d) rfl (fun v1 hv1 => ?_)
  refine Eq.trans (e_X6_many_7) ?_
  try simp only [mU_same, mU_mU]
  refine mw_ite (fun h7 => ?_) (fun h7 => ?_)
  · refine Eq.trans (e_X6_many_22) ?_
    try simp only [mU_same, mU_mU]
    refine mw_ite (fun h4 => ?_) (fun h4 => ?_)
    · refine Eq.trans (e_X6_many_28) ?_
      try simp only [mU_same, mU_mU]
      refine mw_oW ?_ (rr_X6_gives d) (fun p2 => ?_)
      · rfl
      refine Eq.trans (e_X6_many_36) ?_
      try simp only [mU_same, mU_mU]
      refine Eq.trans (e_X6_many_44) ?_
      try simp only [mU_same, mU_mU]
      all_goals rfl
    · refine Eq.trans (e_X6_many_39) ?_
      try simp only [mU_same, mU_mU]
      refine mw_oW ?_ (rr_X6_refuse d) (fun p3 => ?_)
      · rfl
      refine Eq.trans (e_X6_many_44) ?_
      try simp only [mU_same, mU_mU]
      all_goals rfl
  · refine Eq.trans (e_X6_many_10) ?_
    try simp only [mU_same, mU_mU]
    refine mw_oI ?_ (rr_X6_of d) (fun v5 => ?_)
    · rfl
    refine Eq.trans (e_X6_many_16) ?_
    try simp only [mU_same, mU_mU]
    refine mw_oW ?_ (rr_X6_gives d) (fun p6 => ?_)
    · rfl
    refine Eq.trans (e_X6_many_19) ?_
    try simp only [mU_same, mU_mU]
    refine Eq.trans (e_X6_many_44) ?_
    try simp only [mU_same, mU_mU]
    all_goals rfl
theorem rr_X6_many_at (d : Nat) {X : mX} {g : mG} {x1 : Int32} : mCall mD X (d + 2) 233 [mr 7 20, mi x1] g = wO (wW g 7) (P_X6_many (g 7) x1) := by
  have h := rr_X6_many (X := X) d (g := g) (c := g 7) (x1 := x1)
  rw [mU_self] at h
  exact h
theorem e_X6_ring__0 {X : mX} {call : Nat → List mV → mG → mR} {g : mG} {x1 x2 : Int32} : mEv X call 1 t_X6_ring_ (mDrop t_X6_ring_ 0) [some (mr 7 20), some (mi x1), some (mi x2)] [] g = mAns (mEv X call 1 t_X6_ring_) (mDrop t_X6_ring_ 7) [some (mr 7 20), some (mi x1), some (mi x2)] [] (call 155 [mi x2, mi 0, mi 9] g) := (mEv_4 _ _ _ _).trans rfl
theorem e_X6_ring__7 {X : mX} {call : Nat → List mV → mG → mR} {g : mG} {x1 x2 s0 : Int32} : mEv X call 1 t_X6_ring_ (mDrop t_X6_ring_ 7) [some (mr 7 20), some (mi x1), some (mi x2)] [mi s0] g = if s0 = 0 then mEv X call 1 t_X6_ring_ (mDrop t_X6_ring_ 10) [some (mr 7 20), some (mi x1), some (mi x2)] [] g else mEv X call 1 t_X6_ring_ (mDrop t_X6_ring_ 16) [some (mr 7 20), some (mi x1), some (mi x2)] [] g := (mEv_1 _ _ _ _).trans rfl
theorem e_X6_ring__10 {X : mX} {call : Nat → List mV → mG → mR} {g : mG} {x1 x2 : Int32} : mEv X call 1 t_X6_ring_ (mDrop t_X6_ring_ 10) [some (mr 7 20), some (mi x1), some (mi x2)] [] g = mAns (mEv X call 1 t_X6_ring_) (mDrop t_X6_ring_ 15) [some (mr 7 20), some (mi x1), some (mi x2)] [] (call 152 [mr 7 20, mi 1] g) := (mEv_3 _ _ _ _).trans rfl
theorem e_X6_ring__15 {X : mX} {call : Nat → List mV → mG → mR} {g : mG} {x1 x2 s0 : Int32} : mEv X call 1 t_X6_ring_ (mDrop t_X6_ring_ 15) [some (mr 7 20), some (mi x1), some (mi x2)] [mi s0] g = some (some (mi s0), g) := (mEv_1 _ _ _ _).trans rfl
theorem e_X6_ring__16 {X : mX} {call : Nat → List mV → mG → mR} {g : mG} {x1 x2 : Int32} : mEv X call 1 t_X6_ring_ (mDrop t_X6_ring_ 16) [some (mr 7 20), some (mi x1), some (mi x2)] [] g = mAns (mEv X call 1 t_X6_ring_) (mDrop t_X6_ring_ 22) [some (mr 7 20), some (mi x1), some (mi x2)] [] (call 155 [mi x1, mi 0, mi 1] g) := (mEv_4 _ _ _ _).trans rfl
theorem e_X6_ring__22 {X : mX} {call : Nat → List mV → mG → mR} {g : mG} {x1 x2 s0 : Int32} : mEv X call 1 t_X6_ring_ (mDrop t_X6_ring_ 22) [some (mr 7 20), some (mi x1), some (mi x2)] [mi s0] g = if s0 = 0 then mEv X call 1 t_X6_ring_ (mDrop t_X6_ring_ 25) [some (mr 7 20), some (mi x1), some (mi x2)] [] g else mEv X call 1 t_X6_ring_ (mDrop t_X6_ring_ 31) [some (mr 7 20), some (mi x1), some (mi x2)] [] g := (mEv_1 _ _ _ _).trans rfl
theorem e_X6_ring__25 {X : mX} {call : Nat → List mV → mG → mR} {g : mG} {x1 x2 : Int32} : mEv X call 1 t_X6_ring_ (mDrop t_X6_ring_ 25) [some (mr 7 20), some (mi x1), some (mi x2)] [] g = mAns (mEv X call 1 t_X6_ring_) (mDrop t_X6_ring_ 30) [some (mr 7 20), some (mi x1), some (mi x2)] [] (call 152 [mr 7 20, mi 2] g) := (mEv_3 _ _ _ _).trans rfl
theorem e_X6_ring__30 {X : mX} {call : Nat → List mV → mG → mR} {g : mG} {x1 x2 s0 : Int32} : mEv X call 1 t_X6_ring_ (mDrop t_X6_ring_ 30) [some (mr 7 20), some (mi x1), some (mi x2)] [mi s0] g = some (some (mi s0), g) := (mEv_1 _ _ _ _).trans rfl
theorem e_X6_ring__31 {X : mX} {call : Nat → List mV → mG → mR} {g : mG} {x1 x2 : Int32} : mEv X call 1 t_X6_ring_ (mDrop t_X6_ring_ 31) [some (mr 7 20), some (mi x1), some (mi x2)] [] g = if 4 ≤ x2 then mEv X call 1 t_X6_ring_ (mDrop t_X6_ring_ 47) [some (mr 7 20), some (mi x1), some (mi x2)] [] g else mEv X call 1 t_X6_ring_ (mDrop t_X6_ring_ 36) [some (mr 7 20), some (mi x1), some (mi x2)] [] g := (mEv_3 _ _ _ _).trans rfl
theorem e_X6_ring__47 {X : mX} {call : Nat → List mV → mG → mR} {g : mG} {x1 x2 : Int32} : mEv X call 1 t_X6_ring_ (mDrop t_X6_ring_ 47) [some (mr 7 20), some (mi x1), some (mi x2)] [] g = mAns (mEv X call 1 t_X6_ring_) (mDrop t_X6_ring_ 52) [some (mr 7 20), some (mi x1), some (mi x2)] [] (call 181 [mr 7 20, mi x1] g) := (mEv_3 _ _ _ _).trans rfl
theorem e_X6_ring__52 {X : mX} {call : Nat → List mV → mG → mR} {g : mG} {x1 x2 s0 : Int32} : mEv X call 1 t_X6_ring_ (mDrop t_X6_ring_ 52) [some (mr 7 20), some (mi x1), some (mi x2)] [mi s0] g = if s0 = 0 then mEv X call 1 t_X6_ring_ (mDrop t_X6_ring_ 55) [some (mr 7 20), some (mi x1), some (mi x2)] [] g else mEv X call 1 t_X6_ring_ (mDrop t_X6_ring_ 61) [some (mr 7 20), some (mi x1), some (mi x2)] [] g := (mEv_1 _ _ _ _).trans rfl
theorem e_X6_ring__55 {X : mX} {call : Nat → List mV → mG → mR} {g : mG} {x1 x2 : Int32} : mEv X call 1 t_X6_ring_ (mDrop t_X6_ring_ 55) [some (mr 7 20), some (mi x1), some (mi x2)] [] g = mAns (mEv X call 1 t_X6_ring_) (mDrop t_X6_ring_ 60) [some (mr 7 20), some (mi x1), some (mi x2)] [] (call 154 [mr 7 20, mi 0] g) := (mEv_3 _ _ _ _).trans rfl
theorem e_X6_ring__60 {X : mX} {call : Nat → List mV → mG → mR} {g : mG} {x1 x2 s0 : Int32} : mEv X call 1 t_X6_ring_ (mDrop t_X6_ring_ 60) [some (mr 7 20), some (mi x1), some (mi x2)] [mi s0] g = some (some (mi s0), g) := (mEv_1 _ _ _ _).trans rfl
theorem e_X6_ring__61 {X : mX} {call : Nat → List mV → mG → mR} {g : mG} {x1 x2 : Int32} : mEv X call 1 t_X6_ring_ (mDrop t_X6_ring_ 61) [some (mr 7 20), some (mi x1), some (mi x2)] [] g = if 8 ≤ x2 then mEv X call 1 t_X6_ring_ (mDrop t_X6_ring_ 77) [some (mr 7 20), some (mi x1), some (mi x2)] [mr 7 20] g else mEv X call 1 t_X6_ring_ (mDrop t_X6_ring_ 68) [some (mr 7 20), some (mi x1), some (mi x2)] [mr 7 20] g := (mEv_4 _ _ _ _).trans rfl
theorem e_X6_ring__77 {X : mX} {call : Nat → List mV → mG → mR} {g : mG} {x1 x2 : Int32} : mEv X call 1 t_X6_ring_ (mDrop t_X6_ring_ 77) [some (mr 7 20), some (mi x1), some (mi x2)] [mr 7 20] g = if x2 = 8 then mEv X call 1 t_X6_ring_ (mDrop t_X6_ring_ 83) [some (mr 7 20), some (mi x1), some (mi x2)] [mr 7 20] g else mEv X call 1 t_X6_ring_ (mDrop t_X6_ring_ 99) [some (mr 7 20), some (mi x1), some (mi x2)] [mr 7 20] g := (mEv_3 _ _ _ _).trans rfl
theorem e_X6_ring__83 {X : mX} {call : Nat → List mV → mG → mR} {g : mG} {x1 x2 : Int32} : mEv X call 1 t_X6_ring_ (mDrop t_X6_ring_ 83) [some (mr 7 20), some (mi x1), some (mi x2)] [mr 7 20] g = mAns (mEv X call 1 t_X6_ring_) (mDrop t_X6_ring_ 88) [some (mr 7 20), some (mi x1), some (mi x2)] [mr 7 20] (call 195 [mr 7 20, mi x1] g) := (mEv_3 _ _ _ _).trans rfl
theorem e_X6_ring__88 {X : mX} {call : Nat → List mV → mG → mR} {g : mG} {x1 x2 s1 : Int32} : mEv X call 1 t_X6_ring_ (mDrop t_X6_ring_ 88) [some (mr 7 20), some (mi x1), some (mi x2)] [mi s1, mr 7 20] g = if s1 = 0 then mEv X call 1 t_X6_ring_ (mDrop t_X6_ring_ 95) [some (mr 7 20), some (mi x1), some (mi x2)] [mr 7 20] g else mEv X call 1 t_X6_ring_ (mDrop t_X6_ring_ 91) [some (mr 7 20), some (mi x1), some (mi x2)] [mr 7 20] g := (mEv_1 _ _ _ _).trans rfl
theorem e_X6_ring__95 {X : mX} {call : Nat → List mV → mG → mR} {g : mG} {x1 x2 : Int32} : mEv X call 1 t_X6_ring_ (mDrop t_X6_ring_ 95) [some (mr 7 20), some (mi x1), some (mi x2)] [mr 7 20] g = mEv X call 1 t_X6_ring_ (mDrop t_X6_ring_ 117) [some (mr 7 20), some (mi x1), some (mi x2)] [mi 0, mr 7 20] g := (mEv_2 _ _ _ _).trans rfl
theorem e_X6_ring__117 {X : mX} {call : Nat → List mV → mG → mR} {g : mG} {x1 x2 s1 : Int32} : mEv X call 1 t_X6_ring_ (mDrop t_X6_ring_ 117) [some (mr 7 20), some (mi x1), some (mi x2)] [mi s1, mr 7 20] g = mAns (mEv X call 1 t_X6_ring_) (mDrop t_X6_ring_ 120) [some (mr 7 20), some (mi x1), some (mi x2)] [] (call 154 [mr 7 20, mi s1] g) := (mEv_1 _ _ _ _).trans rfl
theorem e_X6_ring__120 {X : mX} {call : Nat → List mV → mG → mR} {g : mG} {x1 x2 s0 : Int32} : mEv X call 1 t_X6_ring_ (mDrop t_X6_ring_ 120) [some (mr 7 20), some (mi x1), some (mi x2)] [mi s0] g = some (some (mi s0), g) := (mEv_1 _ _ _ _).trans rfl
noncomputable def J_X6_ring__117 (c : mC) (s1 : Int32) : (Option (Int32 × mC)) := (mBo (α := Int32 × mC) none (P_X6_gives c s1) (fun p1 => (some (p1.1, p1.2))))
theorem rj_X6_ring__117 (d : Nat) {X : mX} {g : mG} {x1 x2 s1 : Int32} {c : mC} : mEv X (mCall mD X (d + 8)) 1 t_X6_ring_ (mDrop t_X6_ring_ 117) [some (mr 7 20), some (mi x1), some (mi x2)] [mi s1, mr 7 20] (mU g 7 c) = (wO (wW g 7)) (J_X6_ring__117 c s1) := by
  refine Eq.trans (e_X6_ring__117) ?_
  try simp only [mU_same, mU_mU]
  refine mw_oW ?_ (rr_X6_gives (d + 7)) (fun p1 => ?_)
  · rfl
  refine Eq.trans (e_X6_ring__120) ?_
  try simp only [mU_same, mU_mU]
  all_goals rfl
theorem e_X6_ring__91 {X : mX} {call : Nat → List mV → mG → mR} {g : mG} {x1 x2 : Int32} : mEv X call 1 t_X6_ring_ (mDrop t_X6_ring_ 91) [some (mr 7 20), some (mi x1), some (mi x2)] [mr 7 20] g = mEv X call 1 t_X6_ring_ (mDrop t_X6_ring_ 117) [some (mr 7 20), some (mi x1), some (mi x2)] [mi 1, mr 7 20] g := (mEv_2 _ _ _ _).trans rfl
theorem e_X6_ring__99 {X : mX} {call : Nat → List mV → mG → mR} {g : mG} {x1 x2 : Int32} : mEv X call 1 t_X6_ring_ (mDrop t_X6_ring_ 99) [some (mr 7 20), some (mi x1), some (mi x2)] [mr 7 20] g = mAns (mEv X call 1 t_X6_ring_) (mDrop t_X6_ring_ 106) [some (mr 7 20), some (mi x1), some (mi x2)] [mr 7 20, mr 7 20] (call 163 [mr 7 20, mi x1, mi 0] g) := (mEv_5 _ _ _ _).trans rfl
theorem e_X6_ring__106 {X : mX} {call : Nat → List mV → mG → mR} {g : mG} {x1 x2 s2 : Int32} : mEv X call 1 t_X6_ring_ (mDrop t_X6_ring_ 106) [some (mr 7 20), some (mi x1), some (mi x2)] [mi s2, mr 7 20, mr 7 20] g = mAns (mEv X call 1 t_X6_ring_) (mDrop t_X6_ring_ 109) [some (mr 7 20), some (mi x1), some (mi x2)] [mr 7 20] (call 193 [mr 7 20, mi s2] g) := (mEv_1 _ _ _ _).trans rfl
theorem e_X6_ring__109 {X : mX} {call : Nat → List mV → mG → mR} {g : mG} {x1 x2 s1 : Int32} : mEv X call 1 t_X6_ring_ (mDrop t_X6_ring_ 109) [some (mr 7 20), some (mi x1), some (mi x2)] [mi s1, mr 7 20] g = if s1 = 0 then mEv X call 1 t_X6_ring_ (mDrop t_X6_ring_ 116) [some (mr 7 20), some (mi x1), some (mi x2)] [mr 7 20] g else mEv X call 1 t_X6_ring_ (mDrop t_X6_ring_ 112) [some (mr 7 20), some (mi x1), some (mi x2)] [mr 7 20] g := (mEv_1 _ _ _ _).trans rfl
theorem e_X6_ring__116 {X : mX} {call : Nat → List mV → mG → mR} {g : mG} {x1 x2 : Int32} : mEv X call 1 t_X6_ring_ (mDrop t_X6_ring_ 116) [some (mr 7 20), some (mi x1), some (mi x2)] [mr 7 20] g = mEv X call 1 t_X6_ring_ (mDrop t_X6_ring_ 117) [some (mr 7 20), some (mi x1), some (mi x2)] [mi 0, mr 7 20] g := (mEv_1 _ _ _ _).trans rfl
theorem e_X6_ring__112 {X : mX} {call : Nat → List mV → mG → mR} {g : mG} {x1 x2 : Int32} : mEv X call 1 t_X6_ring_ (mDrop t_X6_ring_ 112) [some (mr 7 20), some (mi x1), some (mi x2)] [mr 7 20] g = mEv X call 1 t_X6_ring_ (mDrop t_X6_ring_ 117) [some (mr 7 20), some (mi x1), some (mi x2)] [mi 1, mr 7 20] g := (mEv_2 _ _ _ _).trans rfl
theorem e_X6_ring__68 {X : mX} {call : Nat → List mV → mG → mR} {g : mG} {x1 x2 : Int32} : mEv X call 1 t_X6_ring_ (mDrop t_X6_ring_ 68) [some (mr 7 20), some (mi x1), some (mi x2)] [mr 7 20] g = mAns (mEv X call 1 t_X6_ring_) (mDrop t_X6_ring_ 74) [some (mr 7 20), some (mi x1), some (mi x2)] [mr 7 20] (call 163 [mr 7 20, mi x1, mi x2] g) := (mEv_4 _ _ _ _).trans rfl
theorem e_X6_ring__74 {X : mX} {call : Nat → List mV → mG → mR} {g : mG} {x1 x2 s1 : Int32} : mEv X call 1 t_X6_ring_ (mDrop t_X6_ring_ 74) [some (mr 7 20), some (mi x1), some (mi x2)] [mi s1, mr 7 20] g = mEv X call 1 t_X6_ring_ (mDrop t_X6_ring_ 117) [some (mr 7 20), some (mi x1), some (mi x2)] [mi s1, mr 7 20] g := (mEv_1 _ _ _ _).trans rfl
theorem e_X6_ring__36 {X : mX} {call : Nat → List mV → mG → mR} {g : mG} {x1 x2 : Int32} : mEv X call 1 t_X6_ring_ (mDrop t_X6_ring_ 36) [some (mr 7 20), some (mi x1), some (mi x2)] [] g = mAns (mEv X call 1 t_X6_ring_) (mDrop t_X6_ring_ 43) [some (mr 7 20), some (mi x1), some (mi x2)] [mr 7 20] (call 163 [mr 7 20, mi x1, mi x2] g) := (mEv_5 _ _ _ _).trans rfl
theorem e_X6_ring__43 {X : mX} {call : Nat → List mV → mG → mR} {g : mG} {x1 x2 s1 : Int32} : mEv X call 1 t_X6_ring_ (mDrop t_X6_ring_ 43) [some (mr 7 20), some (mi x1), some (mi x2)] [mi s1, mr 7 20] g = mAns (mEv X call 1 t_X6_ring_) (mDrop t_X6_ring_ 46) [some (mr 7 20), some (mi x1), some (mi x2)] [] (call 154 [mr 7 20, mi s1] g) := (mEv_1 _ _ _ _).trans rfl
theorem e_X6_ring__46 {X : mX} {call : Nat → List mV → mG → mR} {g : mG} {x1 x2 s0 : Int32} : mEv X call 1 t_X6_ring_ (mDrop t_X6_ring_ 46) [some (mr 7 20), some (mi x1), some (mi x2)] [mi s0] g = some (some (mi s0), g) := (mEv_1 _ _ _ _).trans rfl
noncomputable def P_X6_ring_ (c : mC) (x1 : Int32) (x2 : Int32) : (Option (Int32 × mC)) := (mBd (α := Int32) (P_X6_isFrom x2 0 9) (fun v1 => (if v1 = 0 then (mBo (α := Int32 × mC) none (P_X6_refuse c 1) (fun p2 => (some (p2.1, p2.2)))) else (mBd (α := Int32) (P_X6_isFrom x1 0 1) (fun v3 => (if v3 = 0 then (mBo (α := Int32 × mC) none (P_X6_refuse c 2) (fun p4 => (some (p4.1, p4.2)))) else (if 4 ≤ x2 then (mBo (α := Int32) none (P_X6_isGreen c x1) (fun v5 => (if v5 = 0 then (mBo (α := Int32 × mC) none (P_X6_gives c 0) (fun p6 => (some (p6.1, p6.2)))) else (if 8 ≤ x2 then (if x2 = 8 then (mBo (α := Int32) none (P_X6_isDone c x1) (fun v7 => (if v7 = 0 then (J_X6_ring__117 c 0) else (J_X6_ring__117 c 1)))) else (mBo (α := Int32) none (P_X6_ofRing c x1 0) (fun v9 => (mBo (α := Int32) none (P_X6_isForced c v9) (fun v10 => (if v10 = 0 then (J_X6_ring__117 c 0) else (J_X6_ring__117 c 1))))))) else (mBo (α := Int32) none (P_X6_ofRing c x1 x2) (fun v13 => (J_X6_ring__117 c v13))))))) else (mBo (α := Int32) none (P_X6_ofRing c x1 x2) (fun v16 => (mBo (α := Int32 × mC) none (P_X6_gives c v16) (fun p17 => (some (p17.1, p17.2)))))))))))))
theorem rr_X6_ring_ (d : Nat) {X : mX} {g : mG} {x1 x2 : Int32} {c : mC} : mCall mD X (d + 9) 234 [mr 7 20, mi x1, mi x2] (mU g 7 c) = (wO (wW g 7)) (P_X6_ring_ c x1 x2) := by
  refine Eq.trans (mCall_eq (d := d + 8) rfl) ?_
  show mEv X (mCall mD X (d + 8)) 1 t_X6_ring_ (mDrop t_X6_ring_ 0) [some (mr 7 20), some (mi x1), some (mi x2)] [] (mU g 7 c) = _
  refine Eq.trans (e_X6_ring__0) ?_
  try simp only [mU_same, mU_mU]
  refine mw_cZ (rr_X6_isFrom (d + 7)) rfl (fun v1 hv1 => ?_)
  refine Eq.trans (e_X6_ring__7) ?_
  try simp only [mU_same, mU_mU]
  refine mw_ite (fun h20 => ?_) (fun h20 => ?_)
  · refine Eq.trans (e_X6_ring__10) ?_
    try simp only [mU_same, mU_mU]
    refine mw_oW ?_ (rr_X6_refuse (d + 7)) (fun p2 => ?_)
    · rfl
    refine Eq.trans (e_X6_ring__15) ?_
    try simp only [mU_same, mU_mU]
    all_goals rfl
  · refine Eq.trans (e_X6_ring__16) ?_
    try simp only [mU_same, mU_mU]
    refine mw_cZ (rr_X6_isFrom (d + 7)) rfl (fun v3 hv3 => ?_)
    refine Eq.trans (e_X6_ring__22) ?_
    try simp only [mU_same, mU_mU]
    refine mw_ite (fun h19 => ?_) (fun h19 => ?_)
    · refine Eq.trans (e_X6_ring__25) ?_
      try simp only [mU_same, mU_mU]
      refine mw_oW ?_ (rr_X6_refuse (d + 7)) (fun p4 => ?_)
      · rfl
      refine Eq.trans (e_X6_ring__30) ?_
      try simp only [mU_same, mU_mU]
      all_goals rfl
    · refine Eq.trans (e_X6_ring__31) ?_
      try simp only [mU_same, mU_mU]
      refine mw_ite (fun h18 => ?_) (fun h18 => ?_)
      · refine Eq.trans (e_X6_ring__47) ?_
        try simp only [mU_same, mU_mU]
        refine mw_oZ ?_ (rr_X6_isGreen (d + 5)) rfl (fun v5 hv5 => ?_)
        · rfl
        refine Eq.trans (e_X6_ring__52) ?_
        try simp only [mU_same, mU_mU]
        refine mw_ite (fun h15 => ?_) (fun h15 => ?_)
        · refine Eq.trans (e_X6_ring__55) ?_
          try simp only [mU_same, mU_mU]
          refine mw_oW ?_ (rr_X6_gives (d + 7)) (fun p6 => ?_)
          · rfl
          refine Eq.trans (e_X6_ring__60) ?_
          try simp only [mU_same, mU_mU]
          all_goals rfl
        · refine Eq.trans (e_X6_ring__61) ?_
          try simp only [mU_same, mU_mU]
          refine mw_ite (fun h14 => ?_) (fun h14 => ?_)
          · refine Eq.trans (e_X6_ring__77) ?_
            try simp only [mU_same, mU_mU]
            refine mw_ite (fun h12 => ?_) (fun h12 => ?_)
            · refine Eq.trans (e_X6_ring__83) ?_
              try simp only [mU_same, mU_mU]
              refine mw_oZ ?_ (rr_X6_isDone d) rfl (fun v7 hv7 => ?_)
              · rfl
              refine Eq.trans (e_X6_ring__88) ?_
              try simp only [mU_same, mU_mU]
              refine mw_ite (fun h8 => ?_) (fun h8 => ?_)
              · refine Eq.trans (e_X6_ring__95) ?_
                try simp only [mU_same, mU_mU]
                exact rj_X6_ring__117 d
              · refine Eq.trans (e_X6_ring__91) ?_
                try simp only [mU_same, mU_mU]
                exact rj_X6_ring__117 d
            · refine Eq.trans (e_X6_ring__99) ?_
              try simp only [mU_same, mU_mU]
              refine mw_oI ?_ (rr_X6_ofRing (d + 6)) (fun v9 => ?_)
              · rfl
              refine Eq.trans (e_X6_ring__106) ?_
              try simp only [mU_same, mU_mU]
              refine mw_oZ ?_ (rr_X6_isForced (d + 3)) rfl (fun v10 hv10 => ?_)
              · rfl
              refine Eq.trans (e_X6_ring__109) ?_
              try simp only [mU_same, mU_mU]
              refine mw_ite (fun h11 => ?_) (fun h11 => ?_)
              · refine Eq.trans (e_X6_ring__116) ?_
                try simp only [mU_same, mU_mU]
                exact rj_X6_ring__117 d
              · refine Eq.trans (e_X6_ring__112) ?_
                try simp only [mU_same, mU_mU]
                exact rj_X6_ring__117 d
          · refine Eq.trans (e_X6_ring__68) ?_
            try simp only [mU_same, mU_mU]
            refine mw_oI ?_ (rr_X6_ofRing (d + 6)) (fun v13 => ?_)
            · rfl
            refine Eq.trans (e_X6_ring__74) ?_
            try simp only [mU_same, mU_mU]
            exact rj_X6_ring__117 d
      · refine Eq.trans (e_X6_ring__36) ?_
        try simp only [mU_same, mU_mU]
        refine mw_oI ?_ (rr_X6_ofRing (d + 6)) (fun v16 => ?_)
        · rfl
        refine Eq.trans (e_X6_ring__43) ?_
        try simp only [mU_same, mU_mU]
        refine mw_oW ?_ (rr_X6_gives (d + 7)) (fun p17 => ?_)
        · rfl
        refine Eq.trans (e_X6_ring__46) ?_
        try simp only [mU_same, mU_mU]
        all_goals rfl
theorem rr_X6_ring__at (d : Nat) {X : mX} {g : mG} {x1 x2 : Int32} : mCall mD X (d + 9) 234 [mr 7 20, mi x1, mi x2] g = wO (wW g 7) (P_X6_ring_ (g 7) x1 x2) := by
  have h := rr_X6_ring_ (X := X) d (g := g) (c := g 7) (x1 := x1) (x2 := x2)
  rw [mU_self] at h
  exact h
theorem e_X6_lampOf_0 {X : mX} {call : Nat → List mV → mG → mR} {g : mG} {x1 : Int32} : mEv X call 1 t_X6_lampOf (mDrop t_X6_lampOf 0) [some (mr 7 20), some (mi x1), none] [] g = mAns (mEv X call 1 t_X6_lampOf) (mDrop t_X6_lampOf 6) [some (mr 7 20), some (mi x1), none] [] (call 165 [mr 7 20, mi x1, mi 0] g) := (mEv_4 _ _ _ _).trans rfl
theorem e_X6_lampOf_6 {X : mX} {call : Nat → List mV → mG → mR} {g : mG} {x1 s0 : Int32} : mEv X call 1 t_X6_lampOf (mDrop t_X6_lampOf 6) [some (mr 7 20), some (mi x1), none] [mi s0] g = mAns (mEv X call 1 t_X6_lampOf) (mDrop t_X6_lampOf 13) [some (mr 7 20), some (mi x1), some (mi s0)] [] (call 158 [mr 7 20, mi 6] g) := (mEv_4 _ _ _ _).trans rfl
theorem e_X6_lampOf_13 {X : mX} {call : Nat → List mV → mG → mR} {g : mG} {x1 x2 s0 : Int32} : mEv X call 1 t_X6_lampOf (mDrop t_X6_lampOf 13) [some (mr 7 20), some (mi x1), some (mi x2)] [mi s0] g = mAns (mEv X call 1 t_X6_lampOf) (mDrop t_X6_lampOf 17) [some (mr 7 20), some (mi x1), some (mi x2)] [] (call 156 [mi s0, mi x1] g) := (mEv_2 _ _ _ _).trans rfl
theorem e_X6_lampOf_17 {X : mX} {call : Nat → List mV → mG → mR} {g : mG} {x1 x2 s0 : Int32} : mEv X call 1 t_X6_lampOf (mDrop t_X6_lampOf 17) [some (mr 7 20), some (mi x1), some (mi x2)] [mi s0] g = if s0 = 0 then mEv X call 1 t_X6_lampOf (mDrop t_X6_lampOf 22) [some (mr 7 20), some (mi x1), some (mi x2)] [] g else mEv X call 1 t_X6_lampOf (mDrop t_X6_lampOf 20) [some (mr 7 20), some (mi x1), some (mi x2)] [] g := (mEv_1 _ _ _ _).trans rfl
theorem e_X6_lampOf_22 {X : mX} {call : Nat → List mV → mG → mR} {g : mG} {x1 x2 : Int32} : mEv X call 1 t_X6_lampOf (mDrop t_X6_lampOf 22) [some (mr 7 20), some (mi x1), some (mi x2)] [] g = mAns (mEv X call 1 t_X6_lampOf) (mDrop t_X6_lampOf 27) [some (mr 7 20), some (mi x1), some (mi x2)] [] (call 180 [mr 7 20, mi x2] g) := (mEv_3 _ _ _ _).trans rfl
theorem e_X6_lampOf_27 {X : mX} {call : Nat → List mV → mG → mR} {g : mG} {x1 x2 s0 : Int32} : mEv X call 1 t_X6_lampOf (mDrop t_X6_lampOf 27) [some (mr 7 20), some (mi x1), some (mi x2)] [mi s0] g = if s0 = 0 then mEv X call 1 t_X6_lampOf (mDrop t_X6_lampOf 40) [some (mr 7 20), some (mi x1), some (mi x2)] [] g else mEv X call 1 t_X6_lampOf (mDrop t_X6_lampOf 30) [some (mr 7 20), some (mi x1), some (mi x2)] [] g := (mEv_1 _ _ _ _).trans rfl
theorem e_X6_lampOf_40 {X : mX} {call : Nat → List mV → mG → mR} {g : mG} {x1 x2 : Int32} : mEv X call 1 t_X6_lampOf (mDrop t_X6_lampOf 40) [some (mr 7 20), some (mi x1), some (mi x2)] [] g = mEv X call 1 t_X6_lampOf (mDrop t_X6_lampOf 72) [some (mr 7 20), some (mi x1), some (mi x2)] [mi 0] g := (mEv_2 _ _ _ _).trans rfl
theorem e_X6_lampOf_72 {X : mX} {call : Nat → List mV → mG → mR} {g : mG} {x1 x2 s0 : Int32} : mEv X call 1 t_X6_lampOf (mDrop t_X6_lampOf 72) [some (mr 7 20), some (mi x1), some (mi x2)] [mi s0] g = some (some (mi s0), g) := (mEv_1 _ _ _ _).trans rfl
noncomputable def J_X6_lampOf_40 (c : mC) : (Option (Int32)) := (some 0)
theorem rj_X6_lampOf_40 (d : Nat) {X : mX} {g : mG} {x1 x2 : Int32} {c : mC} : mEv X (mCall mD X (d + 3)) 1 t_X6_lampOf (mDrop t_X6_lampOf 40) [some (mr 7 20), some (mi x1), some (mi x2)] [] (mU g 7 c) = (wO (wI g 7 c)) (J_X6_lampOf_40 c) := by
  refine Eq.trans (e_X6_lampOf_40) ?_
  try simp only [mU_same, mU_mU]
  refine Eq.trans (e_X6_lampOf_72) ?_
  try simp only [mU_same, mU_mU]
  all_goals rfl
theorem e_X6_lampOf_30 {X : mX} {call : Nat → List mV → mG → mR} {g : mG} {x1 x2 : Int32} : mEv X call 1 t_X6_lampOf (mDrop t_X6_lampOf 30) [some (mr 7 20), some (mi x1), some (mi x2)] [] g = mAns (mEv X call 1 t_X6_lampOf) (mDrop t_X6_lampOf 36) [some (mr 7 20), some (mi x1), some (mi x2)] [] (call 163 [mr 7 20, mi x2, mi 0] g) := (mEv_4 _ _ _ _).trans rfl
theorem e_X6_lampOf_36 {X : mX} {call : Nat → List mV → mG → mR} {g : mG} {x1 x2 s0 : Int32} : mEv X call 1 t_X6_lampOf (mDrop t_X6_lampOf 36) [some (mr 7 20), some (mi x1), some (mi x2)] [mi s0] g = if s0 = x1 then mEv X call 1 t_X6_lampOf (mDrop t_X6_lampOf 44) [some (mr 7 20), some (mi x1), some (mi x2)] [] g else mEv X call 1 t_X6_lampOf (mDrop t_X6_lampOf 40) [some (mr 7 20), some (mi x1), some (mi x2)] [] g := (mEv_2 _ _ _ _).trans rfl
theorem e_X6_lampOf_44 {X : mX} {call : Nat → List mV → mG → mR} {g : mG} {x1 x2 : Int32} : mEv X call 1 t_X6_lampOf (mDrop t_X6_lampOf 44) [some (mr 7 20), some (mi x1), some (mi x2)] [] g = mAns (mEv X call 1 t_X6_lampOf) (mDrop t_X6_lampOf 50) [some (mr 7 20), some (mi x1), some (mi x2)] [] (call 163 [mr 7 20, mi x2, mi 1] g) := (mEv_4 _ _ _ _).trans rfl
theorem e_X6_lampOf_50 {X : mX} {call : Nat → List mV → mG → mR} {g : mG} {x1 x2 s0 : Int32} : mEv X call 1 t_X6_lampOf (mDrop t_X6_lampOf 50) [some (mr 7 20), some (mi x1), some (mi x2)] [mi s0] g = if s0 = 0 then mEv X call 1 t_X6_lampOf (mDrop t_X6_lampOf 53) [some (mr 7 20), some (mi x1), some (mi x2)] [] g else mEv X call 1 t_X6_lampOf (mDrop t_X6_lampOf 57) [some (mr 7 20), some (mi x1), some (mi x2)] [] g := (mEv_1 _ _ _ _).trans rfl
theorem e_X6_lampOf_53 {X : mX} {call : Nat → List mV → mG → mR} {g : mG} {x1 x2 : Int32} : mEv X call 1 t_X6_lampOf (mDrop t_X6_lampOf 53) [some (mr 7 20), some (mi x1), some (mi x2)] [] g = mEv X call 1 t_X6_lampOf (mDrop t_X6_lampOf 72) [some (mr 7 20), some (mi x1), some (mi x2)] [mi 2] g := (mEv_2 _ _ _ _).trans rfl
theorem e_X6_lampOf_57 {X : mX} {call : Nat → List mV → mG → mR} {g : mG} {x1 x2 : Int32} : mEv X call 1 t_X6_lampOf (mDrop t_X6_lampOf 57) [some (mr 7 20), some (mi x1), some (mi x2)] [] g = mAns (mEv X call 1 t_X6_lampOf) (mDrop t_X6_lampOf 63) [some (mr 7 20), some (mi x1), some (mi x2)] [] (call 163 [mr 7 20, mi x2, mi 1] g) := (mEv_4 _ _ _ _).trans rfl
theorem e_X6_lampOf_63 {X : mX} {call : Nat → List mV → mG → mR} {g : mG} {x1 x2 s0 : Int32} : mEv X call 1 t_X6_lampOf (mDrop t_X6_lampOf 63) [some (mr 7 20), some (mi x1), some (mi x2)] [mi s0] g = if s0 = 1 then mEv X call 1 t_X6_lampOf (mDrop t_X6_lampOf 67) [some (mr 7 20), some (mi x1), some (mi x2)] [] g else mEv X call 1 t_X6_lampOf (mDrop t_X6_lampOf 71) [some (mr 7 20), some (mi x1), some (mi x2)] [] g := (mEv_2 _ _ _ _).trans rfl
theorem e_X6_lampOf_67 {X : mX} {call : Nat → List mV → mG → mR} {g : mG} {x1 x2 : Int32} : mEv X call 1 t_X6_lampOf (mDrop t_X6_lampOf 67) [some (mr 7 20), some (mi x1), some (mi x2)] [] g = mEv X call 1 t_X6_lampOf (mDrop t_X6_lampOf 72) [some (mr 7 20), some (mi x1), some (mi x2)] [mi 1] g := (mEv_2 _ _ _ _).trans rfl
theorem e_X6_lampOf_71 {X : mX} {call : Nat → List mV → mG → mR} {g : mG} {x1 x2 : Int32} : mEv X call 1 t_X6_lampOf (mDrop t_X6_lampOf 71) [some (mr 7 20), some (mi x1), some (mi x2)] [] g = mEv X call 1 t_X6_lampOf (mDrop t_X6_lampOf 72) [some (mr 7 20), some (mi x1), some (mi x2)] [mi 0] g := (mEv_1 _ _ _ _).trans rfl
theorem e_X6_lampOf_20 {X : mX} {call : Nat → List mV → mG → mR} {g : mG} {x1 x2 : Int32} : mEv X call 1 t_X6_lampOf (mDrop t_X6_lampOf 20) [some (mr 7 20), some (mi x1), some (mi x2)] [] g = some (some (mi 2), g) := (mEv_2 _ _ _ _).trans rfl
noncomputable def P_X6_lampOf (c : mC) (x1 : Int32) : (Option (Int32)) := (mBo (α := Int32) none (P_X6_ofPhase c x1 0) (fun v1 => (mBo (α := Int32) none (P_X6_of c 6) (fun v2 => (mBd (α := Int32) (P_X6_has v2 x1) (fun v3 => (if v3 = 0 then (mBo (α := Int32) none (P_X6_isHolding c v1) (fun v4 => (if v4 = 0 then (J_X6_lampOf_40 c) else (mBo (α := Int32) none (P_X6_ofRing c v1 0) (fun v5 => (if v5 = x1 then (mBo (α := Int32) none (P_X6_ofRing c v1 1) (fun v6 => (if v6 = 0 then (some 2) else (mBo (α := Int32) none (P_X6_ofRing c v1 1) (fun v7 => (if v7 = 1 then (some 1) else (some 0))))))) else (J_X6_lampOf_40 c))))))) else (some 2))))))))
theorem rr_X6_lampOf (d : Nat) {X : mX} {g : mG} {x1 : Int32} {c : mC} : mCall mD X (d + 4) 235 [mr 7 20, mi x1] (mU g 7 c) = (wO (wI g 7 c)) (P_X6_lampOf c x1) := by
  refine Eq.trans (mCall_eq (d := d + 3) rfl) ?_
  show mEv X (mCall mD X (d + 3)) 1 t_X6_lampOf (mDrop t_X6_lampOf 0) [some (mr 7 20), some (mi x1), none] [] (mU g 7 c) = _
  refine Eq.trans (e_X6_lampOf_0) ?_
  try simp only [mU_same, mU_mU]
  refine mw_oI ?_ (rr_X6_ofPhase (d + 1)) (fun v1 => ?_)
  · rfl
  refine Eq.trans (e_X6_lampOf_6) ?_
  try simp only [mU_same, mU_mU]
  refine mw_oI ?_ (rr_X6_of (d + 2)) (fun v2 => ?_)
  · rfl
  refine Eq.trans (e_X6_lampOf_13) ?_
  try simp only [mU_same, mU_mU]
  refine mw_cZ (rr_X6_has (d + 2)) rfl (fun v3 hv3 => ?_)
  refine Eq.trans (e_X6_lampOf_17) ?_
  try simp only [mU_same, mU_mU]
  refine mw_ite (fun h12 => ?_) (fun h12 => ?_)
  · refine Eq.trans (e_X6_lampOf_22) ?_
    try simp only [mU_same, mU_mU]
    refine mw_oZ ?_ (rr_X6_isHolding d) rfl (fun v4 hv4 => ?_)
    · rfl
    refine Eq.trans (e_X6_lampOf_27) ?_
    try simp only [mU_same, mU_mU]
    refine mw_ite (fun h11 => ?_) (fun h11 => ?_)
    · exact rj_X6_lampOf_40 d
    · refine Eq.trans (e_X6_lampOf_30) ?_
      try simp only [mU_same, mU_mU]
      refine mw_oI ?_ (rr_X6_ofRing (d + 1)) (fun v5 => ?_)
      · rfl
      refine Eq.trans (e_X6_lampOf_36) ?_
      try simp only [mU_same, mU_mU]
      refine mw_ite (fun h10 => ?_) (fun h10 => ?_)
      · refine Eq.trans (e_X6_lampOf_44) ?_
        try simp only [mU_same, mU_mU]
        refine mw_oI ?_ (rr_X6_ofRing (d + 1)) (fun v6 => ?_)
        · rfl
        refine Eq.trans (e_X6_lampOf_50) ?_
        try simp only [mU_same, mU_mU]
        refine mw_ite (fun h9 => ?_) (fun h9 => ?_)
        · refine Eq.trans (e_X6_lampOf_53) ?_
          try simp only [mU_same, mU_mU]
          refine Eq.trans (e_X6_lampOf_72) ?_
          try simp only [mU_same, mU_mU]
          all_goals rfl
        · refine Eq.trans (e_X6_lampOf_57) ?_
          try simp only [mU_same, mU_mU]
          refine mw_oI ?_ (rr_X6_ofRing (d + 1)) (fun v7 => ?_)
          · rfl
          refine Eq.trans (e_X6_lampOf_63) ?_
          try simp only [mU_same, mU_mU]
          refine mw_ite (fun h8 => ?_) (fun h8 => ?_)
          · refine Eq.trans (e_X6_lampOf_67) ?_
            try simp only [mU_same, mU_mU]
            refine Eq.trans (e_X6_lampOf_72) ?_
            try simp only [mU_same, mU_mU]
            all_goals rfl
          · refine Eq.trans (e_X6_lampOf_71) ?_
            try simp only [mU_same, mU_mU]
            refine Eq.trans (e_X6_lampOf_72) ?_
            try simp only [mU_same, mU_mU]
            all_goals rfl
      · exact rj_X6_lampOf_40 d
  · refine Eq.trans (e_X6_lampOf_20) ?_
    try simp only [mU_same, mU_mU]
    all_goals rfl
theorem rr_X6_lampOf_at (d : Nat) {X : mX} {g : mG} {x1 : Int32} : mCall mD X (d + 4) 235 [mr 7 20, mi x1] g = wO (wN g) (P_X6_lampOf (g 7) x1) := by
  have h := rr_X6_lampOf (X := X) d (g := g) (c := g 7) (x1 := x1)
  rw [mU_self] at h
  exact h.trans (wOI_self _ _ _)
theorem e_X6_phase_0 {X : mX} {call : Nat → List mV → mG → mR} {g : mG} {x1 x2 : Int32} : mEv X call 1 t_X6_phase (mDrop t_X6_phase 0) [some (mr 7 20), some (mi x1), some (mi x2)] [] g = mAns (mEv X call 1 t_X6_phase) (mDrop t_X6_phase 7) [some (mr 7 20), some (mi x1), some (mi x2)] [] (call 155 [mi x2, mi 0, mi 8] g) := (mEv_4 _ _ _ _).trans rfl
theorem e_X6_phase_7 {X : mX} {call : Nat → List mV → mG → mR} {g : mG} {x1 x2 s0 : Int32} : mEv X call 1 t_X6_phase (mDrop t_X6_phase 7) [some (mr 7 20), some (mi x1), some (mi x2)] [mi s0] g = if s0 = 0 then mEv X call 1 t_X6_phase (mDrop t_X6_phase 10) [some (mr 7 20), some (mi x1), some (mi x2)] [] g else mEv X call 1 t_X6_phase (mDrop t_X6_phase 16) [some (mr 7 20), some (mi x1), some (mi x2)] [] g := (mEv_1 _ _ _ _).trans rfl
theorem e_X6_phase_10 {X : mX} {call : Nat → List mV → mG → mR} {g : mG} {x1 x2 : Int32} : mEv X call 1 t_X6_phase (mDrop t_X6_phase 10) [some (mr 7 20), some (mi x1), some (mi x2)] [] g = mAns (mEv X call 1 t_X6_phase) (mDrop t_X6_phase 15) [some (mr 7 20), some (mi x1), some (mi x2)] [] (call 152 [mr 7 20, mi 1] g) := (mEv_3 _ _ _ _).trans rfl
theorem e_X6_phase_15 {X : mX} {call : Nat → List mV → mG → mR} {g : mG} {x1 x2 s0 : Int32} : mEv X call 1 t_X6_phase (mDrop t_X6_phase 15) [some (mr 7 20), some (mi x1), some (mi x2)] [mi s0] g = some (some (mi s0), g) := (mEv_1 _ _ _ _).trans rfl
theorem e_X6_phase_16 {X : mX} {call : Nat → List mV → mG → mR} {g : mG} {x1 x2 : Int32} : mEv X call 1 t_X6_phase (mDrop t_X6_phase 16) [some (mr 7 20), some (mi x1), some (mi x2)] [] g = mAns (mEv X call 1 t_X6_phase) (mDrop t_X6_phase 21) [some (mr 7 20), some (mi x1), some (mi x2)] [] (call 168 [mr 7 20, mi x1] g) := (mEv_3 _ _ _ _).trans rfl
theorem e_X6_phase_21 {X : mX} {call : Nat → List mV → mG → mR} {g : mG} {x1 x2 s0 : Int32} : mEv X call 1 t_X6_phase (mDrop t_X6_phase 21) [some (mr 7 20), some (mi x1), some (mi x2)] [mi s0] g = if s0 = 0 then mEv X call 1 t_X6_phase (mDrop t_X6_phase 24) [some (mr 7 20), some (mi x1), some (mi x2)] [] g else mEv X call 1 t_X6_phase (mDrop t_X6_phase 30) [some (mr 7 20), some (mi x1), some (mi x2)] [] g := (mEv_1 _ _ _ _).trans rfl
theorem e_X6_phase_24 {X : mX} {call : Nat → List mV → mG → mR} {g : mG} {x1 x2 : Int32} : mEv X call 1 t_X6_phase (mDrop t_X6_phase 24) [some (mr 7 20), some (mi x1), some (mi x2)] [] g = mAns (mEv X call 1 t_X6_phase) (mDrop t_X6_phase 29) [some (mr 7 20), some (mi x1), some (mi x2)] [] (call 152 [mr 7 20, mi 2] g) := (mEv_3 _ _ _ _).trans rfl
theorem e_X6_phase_29 {X : mX} {call : Nat → List mV → mG → mR} {g : mG} {x1 x2 s0 : Int32} : mEv X call 1 t_X6_phase (mDrop t_X6_phase 29) [some (mr 7 20), some (mi x1), some (mi x2)] [mi s0] g = some (some (mi s0), g) := (mEv_1 _ _ _ _).trans rfl
theorem e_X6_phase_30 {X : mX} {call : Nat → List mV → mG → mR} {g : mG} {x1 x2 : Int32} : mEv X call 1 t_X6_phase (mDrop t_X6_phase 30) [some (mr 7 20), some (mi x1), some (mi x2)] [] g = if x2 = 0 then mEv X call 1 t_X6_phase (mDrop t_X6_phase 76) [some (mr 7 20), some (mi x1), some (mi x2)] [] g else (if x2 = 1 then mEv X call 1 t_X6_phase (mDrop t_X6_phase 76) [some (mr 7 20), some (mi x1), some (mi x2)] [] g else (if x2 = 2 then mEv X call 1 t_X6_phase (mDrop t_X6_phase 87) [some (mr 7 20), some (mi x1), some (mi x2)] [] g else (if x2 = 3 then mEv X call 1 t_X6_phase (mDrop t_X6_phase 97) [some (mr 7 20), some (mi x1), some (mi x2)] [] g else (if x2 = 4 then mEv X call 1 t_X6_phase (mDrop t_X6_phase 109) [some (mr 7 20), some (mi x1), some (mi x2)] [] g else (if x2 = 5 then mEv X call 1 t_X6_phase (mDrop t_X6_phase 127) [some (mr 7 20), some (mi x1), some (mi x2)] [] g else (if x2 = 6 then mEv X call 1 t_X6_phase (mDrop t_X6_phase 145) [some (mr 7 20), some (mi x1), some (mi x2)] [] g else (if x2 = 7 then mEv X call 1 t_X6_phase (mDrop t_X6_phase 157) [some (mr 7 20), some (mi x1), some (mi x2)] [] g else (mEv X call 1 t_X6_phase (mDrop t_X6_phase 167) [some (mr 7 20), some (mi x1), some (mi x2)] [] g)))))))) := (mEv_2 _ _ _ _).trans rfl
theorem e_X6_phase_167 {X : mX} {call : Nat → List mV → mG → mR} {g : mG} {x1 x2 : Int32} : mEv X call 1 t_X6_phase (mDrop t_X6_phase 167) [some (mr 7 20), some (mi x1), some (mi x2)] [] g = mAns (mEv X call 1 t_X6_phase) (mDrop t_X6_phase 173) [some (mr 7 20), some (mi x1), some (mi x2)] [mr 7 20] (call 171 [mr 7 20, mi x1] g) := (mEv_4 _ _ _ _).trans rfl
theorem e_X6_phase_173 {X : mX} {call : Nat → List mV → mG → mR} {g : mG} {x1 x2 s1 : Int32} : mEv X call 1 t_X6_phase (mDrop t_X6_phase 173) [some (mr 7 20), some (mi x1), some (mi x2)] [mi s1, mr 7 20] g = mAns (mEv X call 1 t_X6_phase) (mDrop t_X6_phase 176) [some (mr 7 20), some (mi x1), some (mi x2)] [] (call 154 [mr 7 20, mi s1] g) := (mEv_1 _ _ _ _).trans rfl
theorem e_X6_phase_176 {X : mX} {call : Nat → List mV → mG → mR} {g : mG} {x1 x2 s0 : Int32} : mEv X call 1 t_X6_phase (mDrop t_X6_phase 176) [some (mr 7 20), some (mi x1), some (mi x2)] [mi s0] g = some (some (mi s0), g) := (mEv_1 _ _ _ _).trans rfl
theorem e_X6_phase_76 {X : mX} {call : Nat → List mV → mG → mR} {g : mG} {x1 x2 : Int32} : mEv X call 1 t_X6_phase (mDrop t_X6_phase 76) [some (mr 7 20), some (mi x1), some (mi x2)] [] g = mAns (mEv X call 1 t_X6_phase) (mDrop t_X6_phase 83) [some (mr 7 20), some (mi x1), some (mi x2)] [mr 7 20] (call 165 [mr 7 20, mi x1, mi x2] g) := (mEv_5 _ _ _ _).trans rfl
theorem e_X6_phase_83 {X : mX} {call : Nat → List mV → mG → mR} {g : mG} {x1 x2 s1 : Int32} : mEv X call 1 t_X6_phase (mDrop t_X6_phase 83) [some (mr 7 20), some (mi x1), some (mi x2)] [mi s1, mr 7 20] g = mAns (mEv X call 1 t_X6_phase) (mDrop t_X6_phase 86) [some (mr 7 20), some (mi x1), some (mi x2)] [] (call 154 [mr 7 20, mi s1] g) := (mEv_1 _ _ _ _).trans rfl
theorem e_X6_phase_86 {X : mX} {call : Nat → List mV → mG → mR} {g : mG} {x1 x2 s0 : Int32} : mEv X call 1 t_X6_phase (mDrop t_X6_phase 86) [some (mr 7 20), some (mi x1), some (mi x2)] [mi s0] g = some (some (mi s0), g) := (mEv_1 _ _ _ _).trans rfl
theorem e_X6_phase_87 {X : mX} {call : Nat → List mV → mG → mR} {g : mG} {x1 x2 : Int32} : mEv X call 1 t_X6_phase (mDrop t_X6_phase 87) [some (mr 7 20), some (mi x1), some (mi x2)] [] g = mAns (mEv X call 1 t_X6_phase) (mDrop t_X6_phase 93) [some (mr 7 20), some (mi x1), some (mi x2)] [mr 7 20] (call 235 [mr 7 20, mi x1] g) := (mEv_4 _ _ _ _).trans rfl
theorem e_X6_phase_93 {X : mX} {call : Nat → List mV → mG → mR} {g : mG} {x1 x2 s1 : Int32} : mEv X call 1 t_X6_phase (mDrop t_X6_phase 93) [some (mr 7 20), some (mi x1), some (mi x2)] [mi s1, mr 7 20] g = mAns (mEv X call 1 t_X6_phase) (mDrop t_X6_phase 96) [some (mr 7 20), some (mi x1), some (mi x2)] [] (call 154 [mr 7 20, mi s1] g) := (mEv_1 _ _ _ _).trans rfl
theorem e_X6_phase_96 {X : mX} {call : Nat → List mV → mG → mR} {g : mG} {x1 x2 s0 : Int32} : mEv X call 1 t_X6_phase (mDrop t_X6_phase 96) [some (mr 7 20), some (mi x1), some (mi x2)] [mi s0] g = some (some (mi s0), g) := (mEv_1 _ _ _ _).trans rfl
theorem e_X6_phase_97 {X : mX} {call : Nat → List mV → mG → mR} {g : mG} {x1 x2 : Int32} : mEv X call 1 t_X6_phase (mDrop t_X6_phase 97) [some (mr 7 20), some (mi x1), some (mi x2)] [] g = mAns (mEv X call 1 t_X6_phase) (mDrop t_X6_phase 105) [some (mr 7 20), some (mi x1), some (mi x2)] [mr 7 20] (call 165 [mr 7 20, mi x1, mi 12] g) := (mEv_5 _ _ _ _).trans rfl
theorem e_X6_phase_105 {X : mX} {call : Nat → List mV → mG → mR} {g : mG} {x1 x2 s1 : Int32} : mEv X call 1 t_X6_phase (mDrop t_X6_phase 105) [some (mr 7 20), some (mi x1), some (mi x2)] [mi s1, mr 7 20] g = mAns (mEv X call 1 t_X6_phase) (mDrop t_X6_phase 108) [some (mr 7 20), some (mi x1), some (mi x2)] [] (call 154 [mr 7 20, mi s1] g) := (mEv_1 _ _ _ _).trans rfl
theorem e_X6_phase_108 {X : mX} {call : Nat → List mV → mG → mR} {g : mG} {x1 x2 s0 : Int32} : mEv X call 1 t_X6_phase (mDrop t_X6_phase 108) [some (mr 7 20), some (mi x1), some (mi x2)] [mi s0] g = some (some (mi s0), g) := (mEv_1 _ _ _ _).trans rfl
theorem e_X6_phase_109 {X : mX} {call : Nat → List mV → mG → mR} {g : mG} {x1 x2 : Int32} : mEv X call 1 t_X6_phase (mDrop t_X6_phase 109) [some (mr 7 20), some (mi x1), some (mi x2)] [] g = mAns (mEv X call 1 t_X6_phase) (mDrop t_X6_phase 115) [some (mr 7 20), some (mi x1), some (mi x2)] [mr 7 20] (call 176 [mr 7 20, mi x1] g) := (mEv_4 _ _ _ _).trans rfl
theorem e_X6_phase_115 {X : mX} {call : Nat → List mV → mG → mR} {g : mG} {x1 x2 s1 : Int32} : mEv X call 1 t_X6_phase (mDrop t_X6_phase 115) [some (mr 7 20), some (mi x1), some (mi x2)] [mi s1, mr 7 20] g = if s1 = 0 then mEv X call 1 t_X6_phase (mDrop t_X6_phase 122) [some (mr 7 20), some (mi x1), some (mi x2)] [mr 7 20] g else mEv X call 1 t_X6_phase (mDrop t_X6_phase 118) [some (mr 7 20), some (mi x1), some (mi x2)] [mr 7 20] g := (mEv_1 _ _ _ _).trans rfl
theorem e_X6_phase_122 {X : mX} {call : Nat → List mV → mG → mR} {g : mG} {x1 x2 : Int32} : mEv X call 1 t_X6_phase (mDrop t_X6_phase 122) [some (mr 7 20), some (mi x1), some (mi x2)] [mr 7 20] g = mEv X call 1 t_X6_phase (mDrop t_X6_phase 123) [some (mr 7 20), some (mi x1), some (mi x2)] [mi 0, mr 7 20] g := (mEv_1 _ _ _ _).trans rfl
theorem e_X6_phase_123 {X : mX} {call : Nat → List mV → mG → mR} {g : mG} {x1 x2 s1 : Int32} : mEv X call 1 t_X6_phase (mDrop t_X6_phase 123) [some (mr 7 20), some (mi x1), some (mi x2)] [mi s1, mr 7 20] g = mAns (mEv X call 1 t_X6_phase) (mDrop t_X6_phase 126) [some (mr 7 20), some (mi x1), some (mi x2)] [] (call 154 [mr 7 20, mi s1] g) := (mEv_1 _ _ _ _).trans rfl
theorem e_X6_phase_126 {X : mX} {call : Nat → List mV → mG → mR} {g : mG} {x1 x2 s0 : Int32} : mEv X call 1 t_X6_phase (mDrop t_X6_phase 126) [some (mr 7 20), some (mi x1), some (mi x2)] [mi s0] g = some (some (mi s0), g) := (mEv_1 _ _ _ _).trans rfl
noncomputable def J_X6_phase_123 (c : mC) (s1 : Int32) : (Option (Int32 × mC)) := (mBo (α := Int32 × mC) none (P_X6_gives c s1) (fun p1 => (some (p1.1, p1.2))))
theorem rj_X6_phase_123 (d : Nat) {X : mX} {g : mG} {x1 x2 s1 : Int32} {c : mC} : mEv X (mCall mD X (d + 4)) 1 t_X6_phase (mDrop t_X6_phase 123) [some (mr 7 20), some (mi x1), some (mi x2)] [mi s1, mr 7 20] (mU g 7 c) = (wO (wW g 7)) (J_X6_phase_123 c s1) := by
  refine Eq.trans (e_X6_phase_123) ?_
  try simp only [mU_same, mU_mU]
  refine mw_oW ?_ (rr_X6_gives (d + 3)) (fun p1 => ?_)
  · rfl
  refine Eq.trans (e_X6_phase_126) ?_
  try simp only [mU_same, mU_mU]
  all_goals rfl
theorem e_X6_phase_118 {X : mX} {call : Nat → List mV → mG → mR} {g : mG} {x1 x2 : Int32} : mEv X call 1 t_X6_phase (mDrop t_X6_phase 118) [some (mr 7 20), some (mi x1), some (mi x2)] [mr 7 20] g = mEv X call 1 t_X6_phase (mDrop t_X6_phase 123) [some (mr 7 20), some (mi x1), some (mi x2)] [mi 1, mr 7 20] g := (mEv_2 _ _ _ _).trans rfl
theorem e_X6_phase_127 {X : mX} {call : Nat → List mV → mG → mR} {g : mG} {x1 x2 : Int32} : mEv X call 1 t_X6_phase (mDrop t_X6_phase 127) [some (mr 7 20), some (mi x1), some (mi x2)] [] g = mAns (mEv X call 1 t_X6_phase) (mDrop t_X6_phase 133) [some (mr 7 20), some (mi x1), some (mi x2)] [mr 7 20] (call 177 [mr 7 20, mi x1] g) := (mEv_4 _ _ _ _).trans rfl
theorem e_X6_phase_133 {X : mX} {call : Nat → List mV → mG → mR} {g : mG} {x1 x2 s1 : Int32} : mEv X call 1 t_X6_phase (mDrop t_X6_phase 133) [some (mr 7 20), some (mi x1), some (mi x2)] [mi s1, mr 7 20] g = if s1 = 0 then mEv X call 1 t_X6_phase (mDrop t_X6_phase 140) [some (mr 7 20), some (mi x1), some (mi x2)] [mr 7 20] g else mEv X call 1 t_X6_phase (mDrop t_X6_phase 136) [some (mr 7 20), some (mi x1), some (mi x2)] [mr 7 20] g := (mEv_1 _ _ _ _).trans rfl
theorem e_X6_phase_140 {X : mX} {call : Nat → List mV → mG → mR} {g : mG} {x1 x2 : Int32} : mEv X call 1 t_X6_phase (mDrop t_X6_phase 140) [some (mr 7 20), some (mi x1), some (mi x2)] [mr 7 20] g = mEv X call 1 t_X6_phase (mDrop t_X6_phase 141) [some (mr 7 20), some (mi x1), some (mi x2)] [mi 0, mr 7 20] g := (mEv_1 _ _ _ _).trans rfl
theorem e_X6_phase_141 {X : mX} {call : Nat → List mV → mG → mR} {g : mG} {x1 x2 s1 : Int32} : mEv X call 1 t_X6_phase (mDrop t_X6_phase 141) [some (mr 7 20), some (mi x1), some (mi x2)] [mi s1, mr 7 20] g = mAns (mEv X call 1 t_X6_phase) (mDrop t_X6_phase 144) [some (mr 7 20), some (mi x1), some (mi x2)] [] (call 154 [mr 7 20, mi s1] g) := (mEv_1 _ _ _ _).trans rfl
theorem e_X6_phase_144 {X : mX} {call : Nat → List mV → mG → mR} {g : mG} {x1 x2 s0 : Int32} : mEv X call 1 t_X6_phase (mDrop t_X6_phase 144) [some (mr 7 20), some (mi x1), some (mi x2)] [mi s0] g = some (some (mi s0), g) := (mEv_1 _ _ _ _).trans rfl
noncomputable def J_X6_phase_141 (c : mC) (s1 : Int32) : (Option (Int32 × mC)) := (mBo (α := Int32 × mC) none (P_X6_gives c s1) (fun p1 => (some (p1.1, p1.2))))
theorem rj_X6_phase_141 (d : Nat) {X : mX} {g : mG} {x1 x2 s1 : Int32} {c : mC} : mEv X (mCall mD X (d + 4)) 1 t_X6_phase (mDrop t_X6_phase 141) [some (mr 7 20), some (mi x1), some (mi x2)] [mi s1, mr 7 20] (mU g 7 c) = (wO (wW g 7)) (J_X6_phase_141 c s1) := by
  refine Eq.trans (e_X6_phase_141) ?_
  try simp only [mU_same, mU_mU]
  refine mw_oW ?_ (rr_X6_gives (d + 3)) (fun p1 => ?_)
  · rfl
  refine Eq.trans (e_X6_phase_144) ?_
  try simp only [mU_same, mU_mU]
  all_goals rfl
theorem e_X6_phase_136 {X : mX} {call : Nat → List mV → mG → mR} {g : mG} {x1 x2 : Int32} : mEv X call 1 t_X6_phase (mDrop t_X6_phase 136) [some (mr 7 20), some (mi x1), some (mi x2)] [mr 7 20] g = mEv X call 1 t_X6_phase (mDrop t_X6_phase 141) [some (mr 7 20), some (mi x1), some (mi x2)] [mi 1, mr 7 20] g := (mEv_2 _ _ _ _).trans rfl
theorem e_X6_phase_145 {X : mX} {call : Nat → List mV → mG → mR} {g : mG} {x1 x2 : Int32} : mEv X call 1 t_X6_phase (mDrop t_X6_phase 145) [some (mr 7 20), some (mi x1), some (mi x2)] [] g = mAns (mEv X call 1 t_X6_phase) (mDrop t_X6_phase 153) [some (mr 7 20), some (mi x1), some (mi x2)] [mr 7 20] (call 165 [mr 7 20, mi x1, mi 15] g) := (mEv_5 _ _ _ _).trans rfl
theorem e_X6_phase_153 {X : mX} {call : Nat → List mV → mG → mR} {g : mG} {x1 x2 s1 : Int32} : mEv X call 1 t_X6_phase (mDrop t_X6_phase 153) [some (mr 7 20), some (mi x1), some (mi x2)] [mi s1, mr 7 20] g = mAns (mEv X call 1 t_X6_phase) (mDrop t_X6_phase 156) [some (mr 7 20), some (mi x1), some (mi x2)] [] (call 154 [mr 7 20, mi s1] g) := (mEv_1 _ _ _ _).trans rfl
theorem e_X6_phase_156 {X : mX} {call : Nat → List mV → mG → mR} {g : mG} {x1 x2 s0 : Int32} : mEv X call 1 t_X6_phase (mDrop t_X6_phase 156) [some (mr 7 20), some (mi x1), some (mi x2)] [mi s0] g = some (some (mi s0), g) := (mEv_1 _ _ _ _).trans rfl
theorem e_X6_phase_157 {X : mX} {call : Nat → List mV → mG → mR} {g : mG} {x1 x2 : Int32} : mEv X call 1 t_X6_phase (mDrop t_X6_phase 157) [some (mr 7 20), some (mi x1), some (mi x2)] [] g = mAns (mEv X call 1 t_X6_phase) (mDrop t_X6_phase 163) [some (mr 7 20), some (mi x1), some (mi x2)] [mr 7 20] (call 192 [mr 7 20, mi x1] g) := (mEv_4 _ _ _ _).trans rfl
theorem e_X6_phase_163 {X : mX} {call : Nat → List mV → mG → mR} {g : mG} {x1 x2 s1 : Int32} : mEv X call 1 t_X6_phase (mDrop t_X6_phase 163) [some (mr 7 20), some (mi x1), some (mi x2)] [mi s1, mr 7 20] g = mAns (mEv X call 1 t_X6_phase) (mDrop t_X6_phase 166) [some (mr 7 20), some (mi x1), some (mi x2)] [] (call 154 [mr 7 20, mi s1] g) := (mEv_1 _ _ _ _).trans rfl
theorem e_X6_phase_166 {X : mX} {call : Nat → List mV → mG → mR} {g : mG} {x1 x2 s0 : Int32} : mEv X call 1 t_X6_phase (mDrop t_X6_phase 166) [some (mr 7 20), some (mi x1), some (mi x2)] [mi s0] g = some (some (mi s0), g) := (mEv_1 _ _ _ _).trans rfl
noncomputable def P_X6_phase (c : mC) (x1 : Int32) (x2 : Int32) : (Option (Int32 × mC)) := (mBd (α := Int32) (P_X6_isFrom x2 0 8) (fun v1 => (if v1 = 0 then (mBo (α := Int32 × mC) none (P_X6_refuse c 1) (fun p2 => (some (p2.1, p2.2)))) else (mBo (α := Int32) none (P_X6_isPhase c x1) (fun v3 => (if v3 = 0 then (mBo (α := Int32 × mC) none (P_X6_refuse c 2) (fun p4 => (some (p4.1, p4.2)))) else (if x2 = 0 then (mBo (α := Int32) none (P_X6_ofPhase c x1 x2) (fun v7 => (mBo (α := Int32 × mC) none (P_X6_gives c v7) (fun p8 => (some (p8.1, p8.2)))))) else (if x2 = 1 then (mBo (α := Int32) none (P_X6_ofPhase c x1 x2) (fun v9 => (mBo (α := Int32 × mC) none (P_X6_gives c v9) (fun p10 => (some (p10.1, p10.2)))))) else (if x2 = 2 then (mBo (α := Int32) none (P_X6_lampOf c x1) (fun v11 => (mBo (α := Int32 × mC) none (P_X6_gives c v11) (fun p12 => (some (p12.1, p12.2)))))) else (if x2 = 3 then (mBo (α := Int32) none (P_X6_ofPhase c x1 12) (fun v13 => (mBo (α := Int32 × mC) none (P_X6_gives c v13) (fun p14 => (some (p14.1, p14.2)))))) else (if x2 = 4 then (mBo (α := Int32) none (P_X6_isCalled c x1) (fun v15 => (if v15 = 0 then (J_X6_phase_123 c 0) else (J_X6_phase_123 c 1)))) else (if x2 = 5 then (mBo (α := Int32) none (P_X6_isOnFoot c x1) (fun v17 => (if v17 = 0 then (J_X6_phase_141 c 0) else (J_X6_phase_141 c 1)))) else (if x2 = 6 then (mBo (α := Int32) none (P_X6_ofPhase c x1 15) (fun v19 => (mBo (α := Int32 × mC) none (P_X6_gives c v19) (fun p20 => (some (p20.1, p20.2)))))) else (if x2 = 7 then (mBo (α := Int32) none (P_X6_endOf c x1) (fun v21 => (mBo (α := Int32 × mC) none (P_X6_gives c v21) (fun p22 => (some (p22.1, p22.2)))))) else (mBo (α := Int32) none (P_X6_foesOf c x1) (fun v5 => (mBo (α := Int32 × mC) none (P_X6_gives c v5) (fun p6 => (some (p6.1, p6.2))))))))))))))))))))
theorem rr_X6_phase (d : Nat) {X : mX} {g : mG} {x1 x2 : Int32} {c : mC} : mCall mD X (d + 5) 236 [mr 7 20, mi x1, mi x2] (mU g 7 c) = (wO (wW g 7)) (P_X6_phase c x1 x2) := by
  refine Eq.trans (mCall_eq (d := d + 4) rfl) ?_
  show mEv X (mCall mD X (d + 4)) 1 t_X6_phase (mDrop t_X6_phase 0) [some (mr 7 20), some (mi x1), some (mi x2)] [] (mU g 7 c) = _
  refine Eq.trans (e_X6_phase_0) ?_
  try simp only [mU_same, mU_mU]
  refine mw_cZ (rr_X6_isFrom (d + 3)) rfl (fun v1 hv1 => ?_)
  refine Eq.trans (e_X6_phase_7) ?_
  try simp only [mU_same, mU_mU]
  refine mw_ite (fun h24 => ?_) (fun h24 => ?_)
  · refine Eq.trans (e_X6_phase_10) ?_
    try simp only [mU_same, mU_mU]
    refine mw_oW ?_ (rr_X6_refuse (d + 3)) (fun p2 => ?_)
    · rfl
    refine Eq.trans (e_X6_phase_15) ?_
    try simp only [mU_same, mU_mU]
    all_goals rfl
  · refine Eq.trans (e_X6_phase_16) ?_
    try simp only [mU_same, mU_mU]
    refine mw_oZ ?_ (rr_X6_isPhase (d + 2)) rfl (fun v3 hv3 => ?_)
    · rfl
    refine Eq.trans (e_X6_phase_21) ?_
    try simp only [mU_same, mU_mU]
    refine mw_ite (fun h23 => ?_) (fun h23 => ?_)
    · refine Eq.trans (e_X6_phase_24) ?_
      try simp only [mU_same, mU_mU]
      refine mw_oW ?_ (rr_X6_refuse (d + 3)) (fun p4 => ?_)
      · rfl
      refine Eq.trans (e_X6_phase_29) ?_
      try simp only [mU_same, mU_mU]
      all_goals rfl
    · refine Eq.trans (e_X6_phase_30) ?_
      try simp only [mU_same, mU_mU]
      refine mw_ite (fun _ => ?_) (fun _ => ?_)
      · refine Eq.trans (e_X6_phase_76) ?_
        try simp only [mU_same, mU_mU]
        refine mw_oI ?_ (rr_X6_ofPhase (d + 2)) (fun v7 => ?_)
        · rfl
        refine Eq.trans (e_X6_phase_83) ?_
        try simp only [mU_same, mU_mU]
        refine mw_oW ?_ (rr_X6_gives (d + 3)) (fun p8 => ?_)
        · rfl
        refine Eq.trans (e_X6_phase_86) ?_
        try simp only [mU_same, mU_mU]
        all_goals rfl
      · refine mw_ite (fun _ => ?_) (fun _ => ?_)
        · refine Eq.trans (e_X6_phase_76) ?_
          try simp only [mU_same, mU_mU]
          refine mw_oI ?_ (rr_X6_ofPhase (d + 2)) (fun v9 => ?_)
          · rfl
          refine Eq.trans (e_X6_phase_83) ?_
          try simp only [mU_same, mU_mU]
          refine mw_oW ?_ (rr_X6_gives (d + 3)) (fun p10 => ?_)
          · rfl
          refine Eq.trans (e_X6_phase_86) ?_
          try simp only [mU_same, mU_mU]
          all_goals rfl
        · refine mw_ite (fun _ => ?_) (fun _ => ?_)
          · refine Eq.trans (e_X6_phase_87) ?_
            try simp only [mU_same, mU_mU]
            refine mw_oI ?_ (rr_X6_lampOf d) (fun v11 => ?_)
            · rfl
            refine Eq.trans (e_X6_phase_93) ?_
            try simp only [mU_same, mU_mU]
            refine mw_oW ?_ (rr_X6_gives (d + 3)) (fun p12 => ?_)
            · rfl
            refine Eq.trans (e_X6_phase_96) ?_
            try simp only [mU_same, mU_mU]
            all_goals rfl
          · refine mw_ite (fun _ => ?_) (fun _ => ?_)
            · refine Eq.trans (e_X6_phase_97) ?_
              try simp only [mU_same, mU_mU]
              refine mw_oI ?_ (rr_X6_ofPhase (d + 2)) (fun v13 => ?_)
              · rfl
              refine Eq.trans (e_X6_phase_105) ?_
              try simp only [mU_same, mU_mU]
              refine mw_oW ?_ (rr_X6_gives (d + 3)) (fun p14 => ?_)
              · rfl
              refine Eq.trans (e_X6_phase_108) ?_
              try simp only [mU_same, mU_mU]
              all_goals rfl
            · refine mw_ite (fun _ => ?_) (fun _ => ?_)
              · refine Eq.trans (e_X6_phase_109) ?_
                try simp only [mU_same, mU_mU]
                refine mw_oZ ?_ (rr_X6_isCalled d) rfl (fun v15 hv15 => ?_)
                · rfl
                refine Eq.trans (e_X6_phase_115) ?_
                try simp only [mU_same, mU_mU]
                refine mw_ite (fun h16 => ?_) (fun h16 => ?_)
                · refine Eq.trans (e_X6_phase_122) ?_
                  try simp only [mU_same, mU_mU]
                  exact rj_X6_phase_123 d
                · refine Eq.trans (e_X6_phase_118) ?_
                  try simp only [mU_same, mU_mU]
                  exact rj_X6_phase_123 d
              · refine mw_ite (fun _ => ?_) (fun _ => ?_)
                · refine Eq.trans (e_X6_phase_127) ?_
                  try simp only [mU_same, mU_mU]
                  refine mw_oZ ?_ (rr_X6_isOnFoot d) rfl (fun v17 hv17 => ?_)
                  · rfl
                  refine Eq.trans (e_X6_phase_133) ?_
                  try simp only [mU_same, mU_mU]
                  refine mw_ite (fun h18 => ?_) (fun h18 => ?_)
                  · refine Eq.trans (e_X6_phase_140) ?_
                    try simp only [mU_same, mU_mU]
                    exact rj_X6_phase_141 d
                  · refine Eq.trans (e_X6_phase_136) ?_
                    try simp only [mU_same, mU_mU]
                    exact rj_X6_phase_141 d
                · refine mw_ite (fun _ => ?_) (fun _ => ?_)
                  · refine Eq.trans (e_X6_phase_145) ?_
                    try simp only [mU_same, mU_mU]
                    refine mw_oI ?_ (rr_X6_ofPhase (d + 2)) (fun v19 => ?_)
                    · rfl
                    refine Eq.trans (e_X6_phase_153) ?_
                    try simp only [mU_same, mU_mU]
                    refine mw_oW ?_ (rr_X6_gives (d + 3)) (fun p20 => ?_)
                    · rfl
                    refine Eq.trans (e_X6_phase_156) ?_
                    try simp only [mU_same, mU_mU]
                    all_goals rfl
                  · refine mw_ite (fun _ => ?_) (fun _ => ?_)
                    · refine Eq.trans (e_X6_phase_157) ?_
                      try simp only [mU_same, mU_mU]
                      refine mw_oI ?_ (rr_X6_endOf d) (fun v21 => ?_)
                      · rfl
                      refine Eq.trans (e_X6_phase_163) ?_
                      try simp only [mU_same, mU_mU]
                      refine mw_oW ?_ (rr_X6_gives (d + 3)) (fun p22 => ?_)
                      · rfl
                      refine Eq.trans (e_X6_phase_166) ?_
                      try simp only [mU_same, mU_mU]
                      all_goals rfl
                    · refine Eq.trans (e_X6_phase_167) ?_
                      try simp only [mU_same, mU_mU]
                      refine mw_oI ?_ (rr_X6_foesOf d) (fun v5 => ?_)
                      · rfl
                      refine Eq.trans (e_X6_phase_173) ?_
                      try simp only [mU_same, mU_mU]
                      refine mw_oW ?_ (rr_X6_gives (d + 3)) (fun p6 => ?_)
                      · rfl
                      refine Eq.trans (e_X6_phase_176) ?_
                      try simp only [mU_same, mU_mU]
                      all_goals rfl
theorem rr_X6_phase_at (d : Nat) {X : mX} {g : mG} {x1 x2 : Int32} : mCall mD X (d + 5) 236 [mr 7 20, mi x1, mi x2] g = wO (wW g 7) (P_X6_phase (g 7) x1 x2) := by
  have h := rr_X6_phase (X := X) d (g := g) (c := g 7) (x1 := x1) (x2 := x2)
  rw [mU_self] at h
  exact h
theorem e_X6_marked_0 {X : mX} {call : Nat → List mV → mG → mR} {g : mG} {x1 x2 : Int32} : mEv X call 1 t_X6_marked (mDrop t_X6_marked 0) [some (mr 7 20), some (mi x1), some (mi x2)] [] g = mAns (mEv X call 1 t_X6_marked) (mDrop t_X6_marked 7) [some (mr 7 20), some (mi x1), some (mi x2)] [] (call 155 [mi x2, mi 0, mi 9] g) := (mEv_4 _ _ _ _).trans rfl
theorem e_X6_marked_7 {X : mX} {call : Nat → List mV → mG → mR} {g : mG} {x1 x2 s0 : Int32} : mEv X call 1 t_X6_marked (mDrop t_X6_marked 7) [some (mr 7 20), some (mi x1), some (mi x2)] [mi s0] g = if s0 = 0 then mEv X call 1 t_X6_marked (mDrop t_X6_marked 10) [some (mr 7 20), some (mi x1), some (mi x2)] [] g else mEv X call 1 t_X6_marked (mDrop t_X6_marked 16) [some (mr 7 20), some (mi x1), some (mi x2)] [] g := (mEv_1 _ _ _ _).trans rfl
theorem e_X6_marked_10 {X : mX} {call : Nat → List mV → mG → mR} {g : mG} {x1 x2 : Int32} : mEv X call 1 t_X6_marked (mDrop t_X6_marked 10) [some (mr 7 20), some (mi x1), some (mi x2)] [] g = mAns (mEv X call 1 t_X6_marked) (mDrop t_X6_marked 15) [some (mr 7 20), some (mi x1), some (mi x2)] [] (call 152 [mr 7 20, mi 1] g) := (mEv_3 _ _ _ _).trans rfl
theorem e_X6_marked_15 {X : mX} {call : Nat → List mV → mG → mR} {g : mG} {x1 x2 s0 : Int32} : mEv X call 1 t_X6_marked (mDrop t_X6_marked 15) [some (mr 7 20), some (mi x1), some (mi x2)] [mi s0] g = some (some (mi s0), g) := (mEv_1 _ _ _ _).trans rfl
theorem e_X6_marked_16 {X : mX} {call : Nat → List mV → mG → mR} {g : mG} {x1 x2 : Int32} : mEv X call 1 t_X6_marked (mDrop t_X6_marked 16) [some (mr 7 20), some (mi x1), some (mi x2)] [] g = mAns (mEv X call 1 t_X6_marked) (mDrop t_X6_marked 21) [some (mr 7 20), some (mi x1), some (mi x2)] [] (call 168 [mr 7 20, mi x1] g) := (mEv_3 _ _ _ _).trans rfl
theorem e_X6_marked_21 {X : mX} {call : Nat → List mV → mG → mR} {g : mG} {x1 x2 s0 : Int32} : mEv X call 1 t_X6_marked (mDrop t_X6_marked 21) [some (mr 7 20), some (mi x1), some (mi x2)] [mi s0] g = if s0 = 0 then mEv X call 1 t_X6_marked (mDrop t_X6_marked 37) [some (mr 7 20), some (mi x1), some (mi x2)] [] g else mEv X call 1 t_X6_marked (mDrop t_X6_marked 24) [some (mr 7 20), some (mi x1), some (mi x2)] [] g := (mEv_1 _ _ _ _).trans rfl
theorem e_X6_marked_37 {X : mX} {call : Nat → List mV → mG → mR} {g : mG} {x1 x2 : Int32} : mEv X call 1 t_X6_marked (mDrop t_X6_marked 37) [some (mr 7 20), some (mi x1), some (mi x2)] [] g = mAns (mEv X call 1 t_X6_marked) (mDrop t_X6_marked 42) [some (mr 7 20), some (mi x1), some (mi x2)] [] (call 152 [mr 7 20, mi 2] g) := (mEv_3 _ _ _ _).trans rfl
theorem e_X6_marked_42 {X : mX} {call : Nat → List mV → mG → mR} {g : mG} {x1 x2 s0 : Int32} : mEv X call 1 t_X6_marked (mDrop t_X6_marked 42) [some (mr 7 20), some (mi x1), some (mi x2)] [mi s0] g = some (some (mi s0), g) := (mEv_1 _ _ _ _).trans rfl
theorem e_X6_marked_24 {X : mX} {call : Nat → List mV → mG → mR} {g : mG} {x1 x2 : Int32} : mEv X call 1 t_X6_marked (mDrop t_X6_marked 24) [some (mr 7 20), some (mi x1), some (mi x2)] [] g = mAns (mEv X call 1 t_X6_marked) (mDrop t_X6_marked 31) [some (mr 7 20), some (mi x1), some (mi x2)] [mr 7 20] (call 167 [mr 7 20, mi x1, mi x2] g) := (mEv_5 _ _ _ _).trans rfl
theorem e_X6_marked_31 {X : mX} {call : Nat → List mV → mG → mR} {g : mG} {x1 x2 s1 : Int32} : mEv X call 1 t_X6_marked (mDrop t_X6_marked 31) [some (mr 7 20), some (mi x1), some (mi x2)] [mi s1, mr 7 20] g = mAns (mEv X call 1 t_X6_marked) (mDrop t_X6_marked 34) [some (mr 7 20), some (mi x1), some (mi x2)] [] (call 154 [mr 7 20, mi s1] g) := (mEv_1 _ _ _ _).trans rfl
theorem e_X6_marked_34 {X : mX} {call : Nat → List mV → mG → mR} {g : mG} {x1 x2 s0 : Int32} : mEv X call 1 t_X6_marked (mDrop t_X6_marked 34) [some (mr 7 20), some (mi x1), some (mi x2)] [mi s0] g = mEv X call 1 t_X6_marked (mDrop t_X6_marked 42) [some (mr 7 20), some (mi x1), some (mi x2)] [mi s0] g := (mEv_1 _ _ _ _).trans rfl
noncomputable def P_X6_marked (c : mC) (x1 : Int32) (x2 : Int32) : (Option (Int32 × mC)) := (mBd (α := Int32) (P_X6_isFrom x2 0 9) (fun v1 => (if v1 = 0 then (mBo (α := Int32 × mC) none (P_X6_refuse c 1) (fun p2 => (some (p2.1, p2.2)))) else (mBo (α := Int32) none (P_X6_isPhase c x1) (fun v3 => (if v3 = 0 then (mBo (α := Int32 × mC) none (P_X6_refuse c 2) (fun p4 => (some (p4.1, p4.2)))) else (mBo (α := Int32) none (P_X6_mark c x1 x2) (fun v5 => (mBo (α := Int32 × mC) none (P_X6_gives c v5) (fun p6 => (some (p6.1, p6.2))))))))))))
theorem rr_X6_marked (d : Nat) {X : mX} {g : mG} {x1 x2 : Int32} {c : mC} : mCall mD X (d + 4) 237 [mr 7 20, mi x1, mi x2] (mU g 7 c) = (wO (wW g 7)) (P_X6_marked c x1 x2) := by
  refine Eq.trans (mCall_eq (d := d + 3) rfl) ?_
  show mEv X (mCall mD X (d + 3)) 1 t_X6_marked (mDrop t_X6_marked 0) [some (mr 7 20), some (mi x1), some (mi x2)] [] (mU g 7 c) = _
  refine Eq.trans (e_X6_marked_0) ?_
  try simp only [mU_same, mU_mU]
  refine mw_cZ (rr_X6_isFrom (d + 2)) rfl (fun v1 hv1 => ?_)
  refine Eq.trans (e_X6_marked_7) ?_
  try simp only [mU_same, mU_mU]
  refine mw_ite (fun h8 => ?_) (fun h8 => ?_)
  · refine Eq.trans (e_X6_marked_10) ?_
    try simp only [mU_same, mU_mU]
    refine mw_oW ?_ (rr_X6_refuse (d + 2)) (fun p2 => ?_)
    · rfl
    refine Eq.trans (e_X6_marked_15) ?_
    try simp only [mU_same, mU_mU]
    all_goals rfl
  · refine Eq.trans (e_X6_marked_16) ?_
    try simp only [mU_same, mU_mU]
    refine mw_oZ ?_ (rr_X6_isPhase (d + 1)) rfl (fun v3 hv3 => ?_)
    · rfl
    refine Eq.trans (e_X6_marked_21) ?_
    try simp only [mU_same, mU_mU]
    refine mw_ite (fun h7 => ?_) (fun h7 => ?_)
    · refine Eq.trans (e_X6_marked_37) ?_
      try simp only [mU_same, mU_mU]
      refine mw_oW ?_ (rr_X6_refuse (d + 2)) (fun p4 => ?_)
      · rfl
      refine Eq.trans (e_X6_marked_42) ?_
      try simp only [mU_same, mU_mU]
      all_goals rfl
    · refine Eq.trans (e_X6_marked_24) ?_
      try simp only [mU_same, mU_mU]
      refine mw_oI ?_ (rr_X6_mark d) (fun v5 => ?_)
      · rfl
      refine Eq.trans (e_X6_marked_31) ?_
      try simp only [mU_same, mU_mU]
      refine mw_oW ?_ (rr_X6_gives (d + 2)) (fun p6 => ?_)
      · rfl
      refine Eq.trans (e_X6_marked_34) ?_
      try simp only [mU_same, mU_mU]
      refine Eq.trans (e_X6_marked_42) ?_
      try simp only [mU_same, mU_mU]
      all_goals rfl
theorem rr_X6_marked_at (d : Nat) {X : mX} {g : mG} {x1 x2 : Int32} : mCall mD X (d + 4) 237 [mr 7 20, mi x1, mi x2] g = wO (wW g 7) (P_X6_marked (g 7) x1 x2) := by
  have h := rr_X6_marked (X := X) d (g := g) (c := g 7) (x1 := x1) (x2 := x2)
  rw [mU_self] at h
  exact h
theorem e_X6_brake_0 {X : mX} {call : Nat → List mV → mG → mR} {g : mG} {x1 x2 : Int32} : mEv X call 1 t_X6_brake (mDrop t_X6_brake 0) [some (mr 7 20), some (mi x1), some (mi x2)] [] g = mAns (mEv X call 1 t_X6_brake) (mDrop t_X6_brake 6) [some (mr 7 20), some (mi x1), some (mi x2)] [] (call 155 [mi x2, mi 0, mi 5] g) := (mEv_4 _ _ _ _).trans rfl
theorem e_X6_brake_6 {X : mX} {call : Nat → List mV → mG → mR} {g : mG} {x1 x2 s0 : Int32} : mEv X call 1 t_X6_brake (mDrop t_X6_brake 6) [some (mr 7 20), some (mi x1), some (mi x2)] [mi s0] g = if s0 = 0 then mEv X call 1 t_X6_brake (mDrop t_X6_brake 9) [some (mr 7 20), some (mi x1), some (mi x2)] [] g else mEv X call 1 t_X6_brake (mDrop t_X6_brake 15) [some (mr 7 20), some (mi x1), some (mi x2)] [] g := (mEv_1 _ _ _ _).trans rfl
theorem e_X6_brake_9 {X : mX} {call : Nat → List mV → mG → mR} {g : mG} {x1 x2 : Int32} : mEv X call 1 t_X6_brake (mDrop t_X6_brake 9) [some (mr 7 20), some (mi x1), some (mi x2)] [] g = mAns (mEv X call 1 t_X6_brake) (mDrop t_X6_brake 14) [some (mr 7 20), some (mi x1), some (mi x2)] [] (call 152 [mr 7 20, mi 1] g) := (mEv_3 _ _ _ _).trans rfl
theorem e_X6_brake_14 {X : mX} {call : Nat → List mV → mG → mR} {g : mG} {x1 x2 s0 : Int32} : mEv X call 1 t_X6_brake (mDrop t_X6_brake 14) [some (mr 7 20), some (mi x1), some (mi x2)] [mi s0] g = some (some (mi s0), g) := (mEv_1 _ _ _ _).trans rfl
theorem e_X6_brake_15 {X : mX} {call : Nat → List mV → mG → mR} {g : mG} {x1 x2 : Int32} : mEv X call 1 t_X6_brake (mDrop t_X6_brake 15) [some (mr 7 20), some (mi x1), some (mi x2)] [] g = mAns (mEv X call 1 t_X6_brake) (mDrop t_X6_brake 21) [some (mr 7 20), some (mi x1), some (mi x2)] [] (call 155 [mi x1, mi 0, mi 1] g) := (mEv_4 _ _ _ _).trans rfl
theorem e_X6_brake_21 {X : mX} {call : Nat → List mV → mG → mR} {g : mG} {x1 x2 s0 : Int32} : mEv X call 1 t_X6_brake (mDrop t_X6_brake 21) [some (mr 7 20), some (mi x1), some (mi x2)] [mi s0] g = if s0 = 0 then mEv X call 1 t_X6_brake (mDrop t_X6_brake 24) [some (mr 7 20), some (mi x1), some (mi x2)] [] g else mEv X call 1 t_X6_brake (mDrop t_X6_brake 30) [some (mr 7 20), some (mi x1), some (mi x2)] [] g := (mEv_1 _ _ _ _).trans rfl
theorem e_X6_brake_24 {X : mX} {call : Nat → List mV → mG → mR} {g : mG} {x1 x2 : Int32} : mEv X call 1 t_X6_brake (mDrop t_X6_brake 24) [some (mr 7 20), some (mi x1), some (mi x2)] [] g = mAns (mEv X call 1 t_X6_brake) (mDrop t_X6_brake 29) [some (mr 7 20), some (mi x1), some (mi x2)] [] (call 152 [mr 7 20, mi 2] g) := (mEv_3 _ _ _ _).trans rfl
theorem e_X6_brake_29 {X : mX} {call : Nat → List mV → mG → mR} {g : mG} {x1 x2 s0 : Int32} : mEv X call 1 t_X6_brake (mDrop t_X6_brake 29) [some (mr 7 20), some (mi x1), some (mi x2)] [mi s0] g = some (some (mi s0), g) := (mEv_1 _ _ _ _).trans rfl
theorem e_X6_brake_30 {X : mX} {call : Nat → List mV → mG → mR} {g : mG} {x1 x2 : Int32} : mEv X call 1 t_X6_brake (mDrop t_X6_brake 30) [some (mr 7 20), some (mi x1), some (mi x2)] [] g = if x2 = 5 then mEv X call 1 t_X6_brake (mDrop t_X6_brake 36) [some (mr 7 20), some (mi x1), some (mi x2)] [mr 7 20] g else mEv X call 1 t_X6_brake (mDrop t_X6_brake 49) [some (mr 7 20), some (mi x1), some (mi x2)] [mr 7 20] g := (mEv_4 _ _ _ _).trans rfl
theorem e_X6_brake_36 {X : mX} {call : Nat → List mV → mG → mR} {g : mG} {x1 x2 : Int32} : mEv X call 1 t_X6_brake (mDrop t_X6_brake 36) [some (mr 7 20), some (mi x1), some (mi x2)] [mr 7 20] g = mAns (mEv X call 1 t_X6_brake) (mDrop t_X6_brake 42) [some (mr 7 20), some (mi x1), some (mi x2)] [mr 7 20] (call 158 [mr 7 20, mi 10] g) := (mEv_3 _ _ _ _).trans rfl
theorem e_X6_brake_42 {X : mX} {call : Nat → List mV → mG → mR} {g : mG} {x1 x2 s1 : Int32} : mEv X call 1 t_X6_brake (mDrop t_X6_brake 42) [some (mr 7 20), some (mi x1), some (mi x2)] [mi s1, mr 7 20] g = mEv X call 1 t_X6_brake (mDrop t_X6_brake 55) [some (mr 7 20), some (mi x1), some (mi x2)] [mi ((s1 >>> (x1 &&& 31)) &&& 1), mr 7 20] g := (mEv_5 _ _ _ _).trans rfl
theorem e_X6_brake_55 {X : mX} {call : Nat → List mV → mG → mR} {g : mG} {x1 x2 s1 : Int32} : mEv X call 1 t_X6_brake (mDrop t_X6_brake 55) [some (mr 7 20), some (mi x1), some (mi x2)] [mi s1, mr 7 20] g = mAns (mEv X call 1 t_X6_brake) (mDrop t_X6_brake 58) [some (mr 7 20), some (mi x1), some (mi x2)] [] (call 154 [mr 7 20, mi s1] g) := (mEv_1 _ _ _ _).trans rfl
theorem e_X6_brake_58 {X : mX} {call : Nat → List mV → mG → mR} {g : mG} {x1 x2 s0 : Int32} : mEv X call 1 t_X6_brake (mDrop t_X6_brake 58) [some (mr 7 20), some (mi x1), some (mi x2)] [mi s0] g = some (some (mi s0), g) := (mEv_1 _ _ _ _).trans rfl
noncomputable def J_X6_brake_55 (c : mC) (s1 : Int32) : (Option (Int32 × mC)) := (mBo (α := Int32 × mC) none (P_X6_gives c s1) (fun p1 => (some (p1.1, p1.2))))
theorem rj_X6_brake_55 (d : Nat) {X : mX} {g : mG} {x1 x2 s1 : Int32} {c : mC} : mEv X (mCall mD X (d + 2)) 1 t_X6_brake (mDrop t_X6_brake 55) [some (mr 7 20), some (mi x1), some (mi x2)] [mi s1, mr 7 20] (mU g 7 c) = (wO (wW g 7)) (J_X6_brake_55 c s1) := by
  refine Eq.trans (e_X6_brake_55) ?_
  try simp only [mU_same, mU_mU]
  refine mw_oW ?_ (rr_X6_gives (d + 1)) (fun p1 => ?_)
  · rfl
  refine Eq.trans (e_X6_brake_58) ?_
  try simp only [mU_same, mU_mU]
  all_goals rfl
theorem e_X6_brake_49 {X : mX} {call : Nat → List mV → mG → mR} {g : mG} {x1 x2 : Int32} : mEv X call 1 t_X6_brake (mDrop t_X6_brake 49) [some (mr 7 20), some (mi x1), some (mi x2)] [mr 7 20] g = mAns (mEv X call 1 t_X6_brake) (mDrop t_X6_brake 55) [some (mr 7 20), some (mi x1), some (mi x2)] [mr 7 20] (call 202 [mr 7 20, mi x1, mi x2] g) := (mEv_4 _ _ _ _).trans rfl
noncomputable def P_X6_brake (c : mC) (x1 : Int32) (x2 : Int32) : (Option (Int32 × mC)) := (mBd (α := Int32) (P_X6_isFrom x2 0 5) (fun v1 => (if v1 = 0 then (mBo (α := Int32 × mC) none (P_X6_refuse c 1) (fun p2 => (some (p2.1, p2.2)))) else (mBd (α := Int32) (P_X6_isFrom x1 0 1) (fun v3 => (if v3 = 0 then (mBo (α := Int32 × mC) none (P_X6_refuse c 2) (fun p4 => (some (p4.1, p4.2)))) else (if x2 = 5 then (mBo (α := Int32) none (P_X6_of c 10) (fun v5 => (J_X6_brake_55 c ((v5 >>> (x1 &&& 31)) &&& 1)))) else (mBo (α := Int32) none (P_X6_ofBreak c x1 x2) (fun v6 => (J_X6_brake_55 c v6))))))))))
theorem rr_X6_brake (d : Nat) {X : mX} {g : mG} {x1 x2 : Int32} {c : mC} : mCall mD X (d + 3) 238 [mr 7 20, mi x1, mi x2] (mU g 7 c) = (wO (wW g 7)) (P_X6_brake c x1 x2) := by
  refine Eq.trans (mCall_eq (d := d + 2) rfl) ?_
  show mEv X (mCall mD X (d + 2)) 1 t_X6_brake (mDrop t_X6_brake 0) [some (mr 7 20), some (mi x1), some (mi x2)] [] (mU g 7 c) = _
  refine Eq.trans (e_X6_brake_0) ?_
  try simp only [mU_same, mU_mU]
  refine mw_cZ (rr_X6_isFrom (d + 1)) rfl (fun v1 hv1 => ?_)
  refine Eq.trans (e_X6_brake_6) ?_
  try simp only [mU_same, mU_mU]
  refine mw_ite (fun h9 => ?_) (fun h9 => ?_)
  · refine Eq.trans (e_X6_brake_9) ?_
    try simp only [mU_same, mU_mU]
    refine mw_oW ?_ (rr_X6_refuse (d + 1)) (fun p2 => ?_)
    · rfl
    refine Eq.trans (e_X6_brake_14) ?_
    try simp only [mU_same, mU_mU]
    all_goals rfl
  · refine Eq.trans (e_X6_brake_15) ?_
    try simp only [mU_same, mU_mU]
    refine mw_cZ (rr_X6_isFrom (d + 1)) rfl (fun v3 hv3 => ?_)
    refine Eq.trans (e_X6_brake_21) ?_
    try simp only [mU_same, mU_mU]
    refine mw_ite (fun h8 => ?_) (fun h8 => ?_)
    · refine Eq.trans (e_X6_brake_24) ?_
      try simp only [mU_same, mU_mU]
      refine mw_oW ?_ (rr_X6_refuse (d + 1)) (fun p4 => ?_)
      · rfl
      refine Eq.trans (e_X6_brake_29) ?_
      try simp only [mU_same, mU_mU]
      all_goals rfl
    · refine Eq.trans (e_X6_brake_30) ?_
      try simp only [mU_same, mU_mU]
      refine mw_ite (fun h7 => ?_) (fun h7 => ?_)
      · refine Eq.trans (e_X6_brake_36) ?_
        try simp only [mU_same, mU_mU]
        refine mw_oI ?_ (rr_X6_of (d + 1)) (fun v5 => ?_)
        · rfl
        refine Eq.trans (e_X6_brake_42) ?_
        try simp only [mU_same, mU_mU]
        exact rj_X6_brake_55 d
      · refine Eq.trans (e_X6_brake_49) ?_
        try simp only [mU_same, mU_mU]
        refine mw_oI ?_ (rr_X6_ofBreak d) (fun v6 => ?_)
        · rfl
        exact rj_X6_brake_55 d
theorem rr_X6_brake_at (d : Nat) {X : mX} {g : mG} {x1 x2 : Int32} : mCall mD X (d + 3) 238 [mr 7 20, mi x1, mi x2] g = wO (wW g 7) (P_X6_brake (g 7) x1 x2) := by
  have h := rr_X6_brake (X := X) d (g := g) (c := g 7) (x1 := x1) (x2 := x2)
  rw [mU_self] at h
  exact h
theorem e_X6_greatest_0 {X : mX} {call : Nat → List mV → mG → mR} {g : mG} : mEv X call 1 t_X6_greatest (mDrop t_X6_greatest 0) [some (mr 7 20), none, none] [] g = mEv X call 1 t_X6_greatest (mDrop t_X6_greatest 4) [some (mr 7 20), some (mi (-1)), some (mi 0)] [] g := (mEv_4 _ _ _ _).trans rfl
theorem e_X6_greatest_4 {X : mX} {call : Nat → List mV → mG → mR} {g : mG} {x1 x2 : Int32} : mEv X call 1 t_X6_greatest (mDrop t_X6_greatest 4) [some (mr 7 20), some (mi x1), some (mi x2)] [] g = mAns (mEv X call 1 t_X6_greatest) (mDrop t_X6_greatest 10) [some (mr 7 20), some (mi x1), some (mi x2)] [mi x2] (call 158 [mr 7 20, mi 0] g) := (mEv_4 _ _ _ _).trans rfl
theorem e_X6_greatest_10 {X : mX} {call : Nat → List mV → mG → mR} {g : mG} {x1 x2 s0 s1 : Int32} : mEv X call 1 t_X6_greatest (mDrop t_X6_greatest 10) [some (mr 7 20), some (mi x1), some (mi x2)] [mi s1, mi s0] g = if s1 ≤ s0 then mEv X call 1 t_X6_greatest (mDrop t_X6_greatest 47) [some (mr 7 20), some (mi x1), some (mi x2)] [] g else mEv X call 1 t_X6_greatest (mDrop t_X6_greatest 13) [some (mr 7 20), some (mi x1), some (mi x2)] [] g := (mEv_1 _ _ _ _).trans rfl
theorem e_X6_greatest_47 {X : mX} {call : Nat → List mV → mG → mR} {g : mG} {x1 x2 : Int32} : mEv X call 1 t_X6_greatest (mDrop t_X6_greatest 47) [some (mr 7 20), some (mi x1), some (mi x2)] [] g = some (some (mi x1), g) := (mEv_2 _ _ _ _).trans rfl
theorem e_X6_greatest_13 {X : mX} {call : Nat → List mV → mG → mR} {g : mG} {x1 x2 : Int32} : mEv X call 1 t_X6_greatest (mDrop t_X6_greatest 13) [some (mr 7 20), some (mi x1), some (mi x2)] [] g = mAns (mEv X call 1 t_X6_greatest) (mDrop t_X6_greatest 20) [some (mr 7 20), some (mi x1), some (mi x2)] [] (call 165 [mr 7 20, mi x2, mi 12] g) := (mEv_4 _ _ _ _).trans rfl
theorem e_X6_greatest_20 {X : mX} {call : Nat → List mV → mG → mR} {g : mG} {x1 x2 s0 : Int32} : mEv X call 1 t_X6_greatest (mDrop t_X6_greatest 20) [some (mr 7 20), some (mi x1), some (mi x2)] [mi s0] g = if x1 = (-1) then mEv X call 1 t_X6_greatest (mDrop t_X6_greatest 25) [some (mr 7 20), some (mi x1), some (mi x2)] [mi s0] g else mEv X call 1 t_X6_greatest (mDrop t_X6_greatest 29) [some (mr 7 20), some (mi x1), some (mi x2)] [mi s0] g := (mEv_3 _ _ _ _).trans rfl
theorem e_X6_greatest_25 {X : mX} {call : Nat → List mV → mG → mR} {g : mG} {x1 x2 s0 : Int32} : mEv X call 1 t_X6_greatest (mDrop t_X6_greatest 25) [some (mr 7 20), some (mi x1), some (mi x2)] [mi s0] g = mEv X call 1 t_X6_greatest (mDrop t_X6_greatest 36) [some (mr 7 20), some (mi x1), some (mi x2)] [mi 0, mi s0] g := (mEv_2 _ _ _ _).trans rfl
theorem e_X6_greatest_36 {X : mX} {call : Nat → List mV → mG → mR} {g : mG} {x1 x2 s0 s1 : Int32} : mEv X call 1 t_X6_greatest (mDrop t_X6_greatest 36) [some (mr 7 20), some (mi x1), some (mi x2)] [mi s1, mi s0] g = if s0 ≤ s1 then mEv X call 1 t_X6_greatest (mDrop t_X6_greatest 41) [some (mr 7 20), some (mi x1), some (mi x2)] [] g else mEv X call 1 t_X6_greatest (mDrop t_X6_greatest 39) [some (mr 7 20), some (mi x1), some (mi x2)] [] g := (mEv_1 _ _ _ _).trans rfl
theorem e_X6_greatest_41 {X : mX} {call : Nat → List mV → mG → mR} {g : mG} {x1 x2 : Int32} : mEv X call 1 t_X6_greatest (mDrop t_X6_greatest 41) [some (mr 7 20), some (mi x1), some (mi x2)] [] g = mEv X call 1 t_X6_greatest (mDrop t_X6_greatest 4) [some (mr 7 20), some (mi x1), some (mi (x2 + 1))] [] g := (mEv_2 _ _ _ _).trans rfl
noncomputable def J_X6_greatest_41 (c : mC) (x1 : Int32) (x2 : Int32) : ((Int32 × Int32) ⊕ (Option (Int32))) := (.inl (x1, (x2 + 1)))
theorem rj_X6_greatest_41 (d : Nat) {X : mX} {g : mG} {x1 x2 : Int32} {c : mC} : mEv X (mCall mD X (d + 2)) 1 t_X6_greatest (mDrop t_X6_greatest 41) [some (mr 7 20), some (mi x1), some (mi x2)] [] (mU g 7 c) = (wB (fun s : (Int32 × Int32) => match s with | (x1, x2) => mEv X (mCall mD X (d + 2)) 1 t_X6_greatest (mDrop t_X6_greatest 4) [some (mr 7 20), some (mi x1), some (mi x2)] [] (mU g 7 c)) (wO (wI g 7 c))) (J_X6_greatest_41 c x1 x2) := by
  refine Eq.trans (e_X6_greatest_41) ?_
  try simp only [mU_same, mU_mU]
  exact mw_inl rfl
theorem e_X6_greatest_39 {X : mX} {call : Nat → List mV → mG → mR} {g : mG} {x1 x2 : Int32} : mEv X call 1 t_X6_greatest (mDrop t_X6_greatest 39) [some (mr 7 20), some (mi x1), some (mi x2)] [] g = mEv X call 1 t_X6_greatest (mDrop t_X6_greatest 41) [some (mr 7 20), some (mi x2), some (mi x2)] [] g := (mEv_2 _ _ _ _).trans rfl
noncomputable def J_X6_greatest_36 (c : mC) (x1 : Int32) (x2 : Int32) (s0 : Int32) (s1 : Int32) : ((Int32 × Int32) ⊕ (Option (Int32))) := (if s0 ≤ s1 then (J_X6_greatest_41 c x1 x2) else (J_X6_greatest_41 c x2 x2))
theorem rj_X6_greatest_36 (d : Nat) {X : mX} {g : mG} {x1 x2 s0 s1 : Int32} {c : mC} : mEv X (mCall mD X (d + 2)) 1 t_X6_greatest (mDrop t_X6_greatest 36) [some (mr 7 20), some (mi x1), some (mi x2)] [mi s1, mi s0] (mU g 7 c) = (wB (fun s : (Int32 × Int32) => match s with | (x1, x2) => mEv X (mCall mD X (d + 2)) 1 t_X6_greatest (mDrop t_X6_greatest 4) [some (mr 7 20), some (mi x1), some (mi x2)] [] (mU g 7 c)) (wO (wI g 7 c))) (J_X6_greatest_36 c x1 x2 s0 s1) := by
  refine Eq.trans (e_X6_greatest_36) ?_
  try simp only [mU_same, mU_mU]
  refine mw_ite (fun h1 => ?_) (fun h1 => ?_)
  · exact rj_X6_greatest_41 d
  · refine Eq.trans (e_X6_greatest_39) ?_
    try simp only [mU_same, mU_mU]
    exact rj_X6_greatest_41 d
theorem e_X6_greatest_29 {X : mX} {call : Nat → List mV → mG → mR} {g : mG} {x1 x2 s0 : Int32} : mEv X call 1 t_X6_greatest (mDrop t_X6_greatest 29) [some (mr 7 20), some (mi x1), some (mi x2)] [mi s0] g = mAns (mEv X call 1 t_X6_greatest) (mDrop t_X6_greatest 36) [some (mr 7 20), some (mi x1), some (mi x2)] [mi s0] (call 165 [mr 7 20, mi x1, mi 12] g) := (mEv_4 _ _ _ _).trans rfl
noncomputable def B_X6_greatest_4 (c : mC) : (Int32 × Int32) → (Int32 × Int32) ⊕ (Option (Int32)) := fun s => match s with | (x1, x2) => (mBo (α := Int32) (.inr none) (P_X6_of c 0) (fun v1 => (if v1 ≤ x2 then (.inr (some x1)) else (mBo (α := Int32) (.inr none) (P_X6_ofPhase c x2 12) (fun v2 => (if x1 = (-1) then (J_X6_greatest_36 c x1 x2 v2 0) else (mBo (α := Int32) (.inr none) (P_X6_ofPhase c x1 12) (fun v3 => (J_X6_greatest_36 c x1 x2 v2 v3)))))))))
set_option maxRecDepth 100000 in
theorem tm_X6_greatest_4 {c : mC} : mTm (B_X6_greatest_4 c) := by
  refine ⟨fun s => match s with | (x1, x2) => mMx x2, fun s s2 h => ?_⟩
  obtain ⟨x1, x2⟩ := s
  simp only [B_X6_greatest_4, J_X6_greatest_36, J_X6_greatest_41, mBd, mBo] at h
  (repeat' split at h) <;> first | (have h2 := Sum.inl.inj h; subst h2; dsimp only; first | exact mtm_max (by assumption) | exact mtm_lt (by assumption)) | (cases h; done)
theorem rl_X6_greatest_4 (d : Nat) {X : mX} {g : mG} {x1 x2 : Int32} {c : mC} : mEv X (mCall mD X (d + 2)) 1 t_X6_greatest (mDrop t_X6_greatest 4) [some (mr 7 20), some (mi x1), some (mi x2)] [] (mU g 7 c) = (wO (wI g 7 c)) (mWh none (B_X6_greatest_4 c) (x1, x2)) := by
  refine mWh_ev (B := (B_X6_greatest_4 c)) (ev := fun s : (Int32 × Int32) => match s with | (x1, x2) => mEv X (mCall mD X (d + 2)) 1 t_X6_greatest (mDrop t_X6_greatest 4) [some (mr 7 20), some (mi x1), some (mi x2)] [] (mU g 7 c)) (w := (wO (wI g 7 c))) (tm_X6_greatest_4) ?_ (x1, x2)
  rintro ⟨x1, x2⟩
  show mEv X (mCall mD X (d + 2)) 1 t_X6_greatest (mDrop t_X6_greatest 4) [some (mr 7 20), some (mi x1), some (mi x2)] [] (mU g 7 c) = wB (fun s : (Int32 × Int32) => match s with | (x1, x2) => mEv X (mCall mD X (d + 2)) 1 t_X6_greatest (mDrop t_X6_greatest 4) [some (mr 7 20), some (mi x1), some (mi x2)] [] (mU g 7 c)) (wO (wI g 7 c)) (mBo (α := Int32) (.inr none) (P_X6_of c 0) (fun v1 => (if v1 ≤ x2 then (.inr (some x1)) else (mBo (α := Int32) (.inr none) (P_X6_ofPhase c x2 12) (fun v2 => (if x1 = (-1) then (J_X6_greatest_36 c x1 x2 v2 0) else (mBo (α := Int32) (.inr none) (P_X6_ofPhase c x1 12) (fun v3 => (J_X6_greatest_36 c x1 x2 v2 v3)))))))))
  refine Eq.trans (e_X6_greatest_4) ?_
  try simp only [mU_same, mU_mU]
  refine mw_oI ?_ (rr_X6_of (d + 1)) (fun v1 => ?_)
  · rfl
  refine Eq.trans (e_X6_greatest_10) ?_
  try simp only [mU_same, mU_mU]
  refine mw_ite (fun h5 => ?_) (fun h5 => ?_)
  · refine mw_inr ?_
    refine Eq.trans (e_X6_greatest_47) ?_
    try simp only [mU_same, mU_mU]
    all_goals rfl
  · refine Eq.trans (e_X6_greatest_13) ?_
    try simp only [mU_same, mU_mU]
    refine mw_oI ?_ (rr_X6_ofPhase d) (fun v2 => ?_)
    · rfl
    refine Eq.trans (e_X6_greatest_20) ?_
    try simp only [mU_same, mU_mU]
    refine mw_ite (fun h4 => ?_) (fun h4 => ?_)
    · refine Eq.trans (e_X6_greatest_25) ?_
      try simp only [mU_same, mU_mU]
      exact rj_X6_greatest_36 d
    · refine Eq.trans (e_X6_greatest_29) ?_
      try simp only [mU_same, mU_mU]
      refine mw_oI ?_ (rr_X6_ofPhase d) (fun v3 => ?_)
      · rfl
      exact rj_X6_greatest_36 d
noncomputable def P_X6_greatest (c : mC) : (Option (Int32)) := (mWh none (B_X6_greatest_4 c) ((-1), 0))
theorem rr_X6_greatest (d : Nat) {X : mX} {g : mG} {c : mC} : mCall mD X (d + 3) 239 [mr 7 20] (mU g 7 c) = (wO (wI g 7 c)) (P_X6_greatest c) := by
  refine Eq.trans (mCall_eq (d := d + 2) rfl) ?_
  show mEv X (mCall mD X (d + 2)) 1 t_X6_greatest (mDrop t_X6_greatest 0) [some (mr 7 20), none, none] [] (mU g 7 c) = _
  refine Eq.trans (e_X6_greatest_0) ?_
  try simp only [mU_same, mU_mU]
  exact rl_X6_greatest_4 d
theorem rr_X6_greatest_at (d : Nat) {X : mX} {g : mG} : mCall mD X (d + 3) 239 [mr 7 20] g = wO (wN g) (P_X6_greatest (g 7)) := by
  have h := rr_X6_greatest (X := X) d (g := g) (c := g 7)
  rw [mU_self] at h
  exact h.trans (wOI_self _ _ _)
theorem e_X6_goneAll_0 {X : mX} {call : Nat → List mV → mG → mR} {g : mG} : mEv X call 1 t_X6_goneAll (mDrop t_X6_goneAll 0) [some (mr 7 20), none, none] [] g = mEv X call 1 t_X6_goneAll (mDrop t_X6_goneAll 4) [some (mr 7 20), some (mi 0), some (mi 0)] [] g := (mEv_4 _ _ _ _).trans rfl
theorem e_X6_goneAll_4 {X : mX} {call : Nat → List mV → mG → mR} {g : mG} {x1 x2 : Int32} : mEv X call 1 t_X6_goneAll (mDrop t_X6_goneAll 4) [some (mr 7 20), some (mi x1), some (mi x2)] [] g = mAns (mEv X call 1 t_X6_goneAll) (mDrop t_X6_goneAll 10) [some (mr 7 20), some (mi x1), some (mi x2)] [mi x2] (call 158 [mr 7 20, mi 0] g) := (mEv_4 _ _ _ _).trans rfl
theorem e_X6_goneAll_10 {X : mX} {call : Nat → List mV → mG → mR} {g : mG} {x1 x2 s0 s1 : Int32} : mEv X call 1 t_X6_goneAll (mDrop t_X6_goneAll 10) [some (mr 7 20), some (mi x1), some (mi x2)] [mi s1, mi s0] g = if s1 ≤ s0 then mEv X call 1 t_X6_goneAll (mDrop t_X6_goneAll 29) [some (mr 7 20), some (mi x1), some (mi x2)] [] g else mEv X call 1 t_X6_goneAll (mDrop t_X6_goneAll 13) [some (mr 7 20), some (mi x1), some (mi x2)] [] g := (mEv_1 _ _ _ _).trans rfl
theorem e_X6_goneAll_29 {X : mX} {call : Nat → List mV → mG → mR} {g : mG} {x1 x2 : Int32} : mEv X call 1 t_X6_goneAll (mDrop t_X6_goneAll 29) [some (mr 7 20), some (mi x1), some (mi x2)] [] g = some (some (mi x1), g) := (mEv_2 _ _ _ _).trans rfl
theorem e_X6_goneAll_13 {X : mX} {call : Nat → List mV → mG → mR} {g : mG} {x1 x2 : Int32} : mEv X call 1 t_X6_goneAll (mDrop t_X6_goneAll 13) [some (mr 7 20), some (mi x1), some (mi x2)] [] g = mAns (mEv X call 1 t_X6_goneAll) (mDrop t_X6_goneAll 21) [some (mr 7 20), some (mi x1), some (mi x2)] [mi x1] (call 165 [mr 7 20, mi x2, mi 15] g) := (mEv_5 _ _ _ _).trans rfl
theorem e_X6_goneAll_21 {X : mX} {call : Nat → List mV → mG → mR} {g : mG} {x1 x2 s0 s1 : Int32} : mEv X call 1 t_X6_goneAll (mDrop t_X6_goneAll 21) [some (mr 7 20), some (mi x1), some (mi x2)] [mi s1, mi s0] g = mEv X call 1 t_X6_goneAll (mDrop t_X6_goneAll 4) [some (mr 7 20), some (mi (s0 + s1)), some (mi (x2 + 1))] [] g := (mEv_4 _ _ _ _).trans rfl
noncomputable def B_X6_goneAll_4 (c : mC) : (Int32 × Int32) → (Int32 × Int32) ⊕ (Option (Int32)) := fun s => match s with | (x1, x2) => (mBo (α := Int32) (.inr none) (P_X6_of c 0) (fun v1 => (if v1 ≤ x2 then (.inr (some x1)) else (mBo (α := Int32) (.inr none) (P_X6_ofPhase c x2 15) (fun v2 => (.inl ((x1 + v2), (x2 + 1))))))))
set_option maxRecDepth 100000 in
theorem tm_X6_goneAll_4 {c : mC} : mTm (B_X6_goneAll_4 c) := by
  refine ⟨fun s => match s with | (x1, x2) => mMx x2, fun s s2 h => ?_⟩
  obtain ⟨x1, x2⟩ := s
  simp only [B_X6_goneAll_4, mBd, mBo] at h
  (repeat' split at h) <;> first | (have h2 := Sum.inl.inj h; subst h2; dsimp only; first | exact mtm_max (by assumption) | exact mtm_lt (by assumption)) | (cases h; done)
theorem rl_X6_goneAll_4 (d : Nat) {X : mX} {g : mG} {x1 x2 : Int32} {c : mC} : mEv X (mCall mD X (d + 2)) 1 t_X6_goneAll (mDrop t_X6_goneAll 4) [some (mr 7 20), some (mi x1), some (mi x2)] [] (mU g 7 c) = (wO (wI g 7 c)) (mWh none (B_X6_goneAll_4 c) (x1, x2)) := by
  refine mWh_ev (B := (B_X6_goneAll_4 c)) (ev := fun s : (Int32 × Int32) => match s with | (x1, x2) => mEv X (mCall mD X (d + 2)) 1 t_X6_goneAll (mDrop t_X6_goneAll 4) [some (mr 7 20), some (mi x1), some (mi x2)] [] (mU g 7 c)) (w := (wO (wI g 7 c))) (tm_X6_goneAll_4) ?_ (x1, x2)
  rintro ⟨x1, x2⟩
  show mEv X (mCall mD X (d + 2)) 1 t_X6_goneAll (mDrop t_X6_goneAll 4) [some (mr 7 20), some (mi x1), some (mi x2)] [] (mU g 7 c) = wB (fun s : (Int32 × Int32) => match s with | (x1, x2) => mEv X (mCall mD X (d + 2)) 1 t_X6_goneAll (mDrop t_X6_goneAll 4) [some (mr 7 20), some (mi x1), some (mi x2)] [] (mU g 7 c)) (wO (wI g 7 c)) (mBo (α := Int32) (.inr none) (P_X6_of c 0) (fun v1 => (if v1 ≤ x2 then (.inr (some x1)) else (mBo (α := Int32) (.inr none) (P_X6_ofPhase c x2 15) (fun v2 => (.inl ((x1 + v2), (x2 + 1))))))))
  refine Eq.trans (e_X6_goneAll_4) ?_
  try simp only [mU_same, mU_mU]
  refine mw_oI ?_ (rr_X6_of (d + 1)) (fun v1 => ?_)
  · rfl
  refine Eq.trans (e_X6_goneAll_10) ?_
  try simp only [mU_same, mU_mU]
  refine mw_ite (fun h3 => ?_) (fun h3 => ?_)
  · refine mw_inr ?_
    refine Eq.trans (e_X6_goneAll_29) ?_
    try simp only [mU_same, mU_mU]
    all_goals rfl
  · refine Eq.trans (e_X6_goneAll_13) ?_
    try simp only [mU_same, mU_mU]
    refine mw_oI ?_ (rr_X6_ofPhase d) (fun v2 => ?_)
    · rfl
    refine Eq.trans (e_X6_goneAll_21) ?_
    try simp only [mU_same, mU_mU]
    exact mw_inl rfl
noncomputable def P_X6_goneAll (c : mC) : (Option (Int32)) := (mWh none (B_X6_goneAll_4 c) (0, 0))
theorem rr_X6_goneAll (d : Nat) {X : mX} {g : mG} {c : mC} : mCall mD X (d + 3) 240 [mr 7 20] (mU g 7 c) = (wO (wI g 7 c)) (P_X6_goneAll c) := by
  refine Eq.trans (mCall_eq (d := d + 2) rfl) ?_
  show mEv X (mCall mD X (d + 2)) 1 t_X6_goneAll (mDrop t_X6_goneAll 0) [some (mr 7 20), none, none] [] (mU g 7 c) = _
  refine Eq.trans (e_X6_goneAll_0) ?_
  try simp only [mU_same, mU_mU]
  exact rl_X6_goneAll_4 d
theorem rr_X6_goneAll_at (d : Nat) {X : mX} {g : mG} : mCall mD X (d + 3) 240 [mr 7 20] g = wO (wN g) (P_X6_goneAll (g 7)) := by
  have h := rr_X6_goneAll (X := X) d (g := g) (c := g 7)
  rw [mU_self] at h
  exact h.trans (wOI_self _ _ _)
theorem e_X6_sum_0 {X : mX} {call : Nat → List mV → mG → mR} {g : mG} {x1 : Int32} : mEv X call 1 t_X6_sum (mDrop t_X6_sum 0) [some (mr 7 20), some (mi x1)] [] g = if x1 = 0 then mEv X call 1 t_X6_sum (mDrop t_X6_sum 40) [some (mr 7 20), some (mi x1)] [] g else (if x1 = 1 then mEv X call 1 t_X6_sum (mDrop t_X6_sum 49) [some (mr 7 20), some (mi x1)] [] g else (if x1 = 2 then mEv X call 1 t_X6_sum (mDrop t_X6_sum 60) [some (mr 7 20), some (mi x1)] [] g else (if x1 = 3 then mEv X call 1 t_X6_sum (mDrop t_X6_sum 69) [some (mr 7 20), some (mi x1)] [] g else (if x1 = 4 then mEv X call 1 t_X6_sum (mDrop t_X6_sum 96) [some (mr 7 20), some (mi x1)] [] g else (if x1 = 5 then mEv X call 1 t_X6_sum (mDrop t_X6_sum 105) [some (mr 7 20), some (mi x1)] [] g else (mEv X call 1 t_X6_sum (mDrop t_X6_sum 114) [some (mr 7 20), some (mi x1)] [] g)))))) := (mEv_2 _ _ _ _).trans rfl
theorem e_X6_sum_114 {X : mX} {call : Nat → List mV → mG → mR} {g : mG} {x1 : Int32} : mEv X call 1 t_X6_sum (mDrop t_X6_sum 114) [some (mr 7 20), some (mi x1)] [] g = mAns (mEv X call 1 t_X6_sum) (mDrop t_X6_sum 119) [some (mr 7 20), some (mi x1)] [] (call 152 [mr 7 20, mi 1] g) := (mEv_3 _ _ _ _).trans rfl
theorem e_X6_sum_119 {X : mX} {call : Nat → List mV → mG → mR} {g : mG} {x1 s0 : Int32} : mEv X call 1 t_X6_sum (mDrop t_X6_sum 119) [some (mr 7 20), some (mi x1)] [mi s0] g = some (some (mi s0), g) := (mEv_1 _ _ _ _).trans rfl
theorem e_X6_sum_40 {X : mX} {call : Nat → List mV → mG → mR} {g : mG} {x1 : Int32} : mEv X call 1 t_X6_sum (mDrop t_X6_sum 40) [some (mr 7 20), some (mi x1)] [] g = mAns (mEv X call 1 t_X6_sum) (mDrop t_X6_sum 45) [some (mr 7 20), some (mi x1)] [mr 7 20] (call 240 [mr 7 20] g) := (mEv_3 _ _ _ _).trans rfl
theorem e_X6_sum_45 {X : mX} {call : Nat → List mV → mG → mR} {g : mG} {x1 s1 : Int32} : mEv X call 1 t_X6_sum (mDrop t_X6_sum 45) [some (mr 7 20), some (mi x1)] [mi s1, mr 7 20] g = mAns (mEv X call 1 t_X6_sum) (mDrop t_X6_sum 48) [some (mr 7 20), some (mi x1)] [] (call 154 [mr 7 20, mi s1] g) := (mEv_1 _ _ _ _).trans rfl
theorem e_X6_sum_48 {X : mX} {call : Nat → List mV → mG → mR} {g : mG} {x1 s0 : Int32} : mEv X call 1 t_X6_sum (mDrop t_X6_sum 48) [some (mr 7 20), some (mi x1)] [mi s0] g = some (some (mi s0), g) := (mEv_1 _ _ _ _).trans rfl
theorem e_X6_sum_49 {X : mX} {call : Nat → List mV → mG → mR} {g : mG} {x1 : Int32} : mEv X call 1 t_X6_sum (mDrop t_X6_sum 49) [some (mr 7 20), some (mi x1)] [] g = mAns (mEv X call 1 t_X6_sum) (mDrop t_X6_sum 56) [some (mr 7 20), some (mi x1)] [mr 7 20] (call 158 [mr 7 20, mi 11] g) := (mEv_4 _ _ _ _).trans rfl
theorem e_X6_sum_56 {X : mX} {call : Nat → List mV → mG → mR} {g : mG} {x1 s1 : Int32} : mEv X call 1 t_X6_sum (mDrop t_X6_sum 56) [some (mr 7 20), some (mi x1)] [mi s1, mr 7 20] g = mAns (mEv X call 1 t_X6_sum) (mDrop t_X6_sum 59) [some (mr 7 20), some (mi x1)] [] (call 154 [mr 7 20, mi s1] g) := (mEv_1 _ _ _ _).trans rfl
theorem e_X6_sum_59 {X : mX} {call : Nat → List mV → mG → mR} {g : mG} {x1 s0 : Int32} : mEv X call 1 t_X6_sum (mDrop t_X6_sum 59) [some (mr 7 20), some (mi x1)] [mi s0] g = some (some (mi s0), g) := (mEv_1 _ _ _ _).trans rfl
theorem e_X6_sum_60 {X : mX} {call : Nat → List mV → mG → mR} {g : mG} {x1 : Int32} : mEv X call 1 t_X6_sum (mDrop t_X6_sum 60) [some (mr 7 20), some (mi x1)] [] g = mAns (mEv X call 1 t_X6_sum) (mDrop t_X6_sum 65) [some (mr 7 20), some (mi x1)] [mr 7 20] (call 200 [mr 7 20] g) := (mEv_3 _ _ _ _).trans rfl
theorem e_X6_sum_65 {X : mX} {call : Nat → List mV → mG → mR} {g : mG} {x1 s1 : Int32} : mEv X call 1 t_X6_sum (mDrop t_X6_sum 65) [some (mr 7 20), some (mi x1)] [mi s1, mr 7 20] g = mAns (mEv X call 1 t_X6_sum) (mDrop t_X6_sum 68) [some (mr 7 20), some (mi x1)] [] (call 154 [mr 7 20, mi s1] g) := (mEv_1 _ _ _ _).trans rfl
theorem e_X6_sum_68 {X : mX} {call : Nat → List mV → mG → mR} {g : mG} {x1 s0 : Int32} : mEv X call 1 t_X6_sum (mDrop t_X6_sum 68) [some (mr 7 20), some (mi x1)] [mi s0] g = some (some (mi s0), g) := (mEv_1 _ _ _ _).trans rfl
theorem e_X6_sum_69 {X : mX} {call : Nat → List mV → mG → mR} {g : mG} {x1 : Int32} : mEv X call 1 t_X6_sum (mDrop t_X6_sum 69) [some (mr 7 20), some (mi x1)] [] g = mAns (mEv X call 1 t_X6_sum) (mDrop t_X6_sum 74) [some (mr 7 20), some (mi x1)] [mr 7 20] (call 239 [mr 7 20] g) := (mEv_3 _ _ _ _).trans rfl
theorem e_X6_sum_74 {X : mX} {call : Nat → List mV → mG → mR} {g : mG} {x1 s1 : Int32} : mEv X call 1 t_X6_sum (mDrop t_X6_sum 74) [some (mr 7 20), some (mi x1)] [mi s1, mr 7 20] g = if s1 = (-1) then mEv X call 1 t_X6_sum (mDrop t_X6_sum 78) [some (mr 7 20), some (mi x1)] [mr 7 20] g else mEv X call 1 t_X6_sum (mDrop t_X6_sum 82) [some (mr 7 20), some (mi x1)] [mr 7 20] g := (mEv_2 _ _ _ _).trans rfl
theorem e_X6_sum_78 {X : mX} {call : Nat → List mV → mG → mR} {g : mG} {x1 : Int32} : mEv X call 1 t_X6_sum (mDrop t_X6_sum 78) [some (mr 7 20), some (mi x1)] [mr 7 20] g = mEv X call 1 t_X6_sum (mDrop t_X6_sum 92) [some (mr 7 20), some (mi x1)] [mi 0, mr 7 20] g := (mEv_2 _ _ _ _).trans rfl
theorem e_X6_sum_92 {X : mX} {call : Nat → List mV → mG → mR} {g : mG} {x1 s1 : Int32} : mEv X call 1 t_X6_sum (mDrop t_X6_sum 92) [some (mr 7 20), some (mi x1)] [mi s1, mr 7 20] g = mAns (mEv X call 1 t_X6_sum) (mDrop t_X6_sum 95) [some (mr 7 20), some (mi x1)] [] (call 154 [mr 7 20, mi s1] g) := (mEv_1 _ _ _ _).trans rfl
theorem e_X6_sum_95 {X : mX} {call : Nat → List mV → mG → mR} {g : mG} {x1 s0 : Int32} : mEv X call 1 t_X6_sum (mDrop t_X6_sum 95) [some (mr 7 20), some (mi x1)] [mi s0] g = some (some (mi s0), g) := (mEv_1 _ _ _ _).trans rfl
noncomputable def J_X6_sum_92 (c : mC) (s1 : Int32) : (Option (Int32 × mC)) := (mBo (α := Int32 × mC) none (P_X6_gives c s1) (fun p1 => (some (p1.1, p1.2))))
theorem rj_X6_sum_92 (d : Nat) {X : mX} {g : mG} {x1 s1 : Int32} {c : mC} : mEv X (mCall mD X (d + 4)) 1 t_X6_sum (mDrop t_X6_sum 92) [some (mr 7 20), some (mi x1)] [mi s1, mr 7 20] (mU g 7 c) = (wO (wW g 7)) (J_X6_sum_92 c s1) := by
  refine Eq.trans (e_X6_sum_92) ?_
  try simp only [mU_same, mU_mU]
  refine mw_oW ?_ (rr_X6_gives (d + 3)) (fun p1 => ?_)
  · rfl
  refine Eq.trans (e_X6_sum_95) ?_
  try simp only [mU_same, mU_mU]
  all_goals rfl
theorem e_X6_sum_82 {X : mX} {call : Nat → List mV → mG → mR} {g : mG} {x1 : Int32} : mEv X call 1 t_X6_sum (mDrop t_X6_sum 82) [some (mr 7 20), some (mi x1)] [mr 7 20] g = mAns (mEv X call 1 t_X6_sum) (mDrop t_X6_sum 87) [some (mr 7 20), some (mi x1)] [mr 7 20, mr 7 20] (call 239 [mr 7 20] g) := (mEv_3 _ _ _ _).trans rfl
theorem e_X6_sum_87 {X : mX} {call : Nat → List mV → mG → mR} {g : mG} {x1 s2 : Int32} : mEv X call 1 t_X6_sum (mDrop t_X6_sum 87) [some (mr 7 20), some (mi x1)] [mi s2, mr 7 20, mr 7 20] g = mAns (mEv X call 1 t_X6_sum) (mDrop t_X6_sum 92) [some (mr 7 20), some (mi x1)] [mr 7 20] (call 165 [mr 7 20, mi s2, mi 12] g) := (mEv_2 _ _ _ _).trans rfl
theorem e_X6_sum_96 {X : mX} {call : Nat → List mV → mG → mR} {g : mG} {x1 : Int32} : mEv X call 1 t_X6_sum (mDrop t_X6_sum 96) [some (mr 7 20), some (mi x1)] [] g = mAns (mEv X call 1 t_X6_sum) (mDrop t_X6_sum 101) [some (mr 7 20), some (mi x1)] [mr 7 20] (call 239 [mr 7 20] g) := (mEv_3 _ _ _ _).trans rfl
theorem e_X6_sum_101 {X : mX} {call : Nat → List mV → mG → mR} {g : mG} {x1 s1 : Int32} : mEv X call 1 t_X6_sum (mDrop t_X6_sum 101) [some (mr 7 20), some (mi x1)] [mi s1, mr 7 20] g = mAns (mEv X call 1 t_X6_sum) (mDrop t_X6_sum 104) [some (mr 7 20), some (mi x1)] [] (call 154 [mr 7 20, mi s1] g) := (mEv_1 _ _ _ _).trans rfl
theorem e_X6_sum_104 {X : mX} {call : Nat → List mV → mG → mR} {g : mG} {x1 s0 : Int32} : mEv X call 1 t_X6_sum (mDrop t_X6_sum 104) [some (mr 7 20), some (mi x1)] [mi s0] g = some (some (mi s0), g) := (mEv_1 _ _ _ _).trans rfl
theorem e_X6_sum_105 {X : mX} {call : Nat → List mV → mG → mR} {g : mG} {x1 : Int32} : mEv X call 1 t_X6_sum (mDrop t_X6_sum 105) [some (mr 7 20), some (mi x1)] [] g = mAns (mEv X call 1 t_X6_sum) (mDrop t_X6_sum 110) [some (mr 7 20), some (mi x1)] [mr 7 20] (call 198 [mr 7 20] g) := (mEv_3 _ _ _ _).trans rfl
theorem e_X6_sum_110 {X : mX} {call : Nat → List mV → mG → mR} {g : mG} {x1 s1 : Int32} : mEv X call 1 t_X6_sum (mDrop t_X6_sum 110) [some (mr 7 20), some (mi x1)] [mi s1, mr 7 20] g = mAns (mEv X call 1 t_X6_sum) (mDrop t_X6_sum 113) [some (mr 7 20), some (mi x1)] [] (call 154 [mr 7 20, mi s1] g) := (mEv_1 _ _ _ _).trans rfl
theorem e_X6_sum_113 {X : mX} {call : Nat → List mV → mG → mR} {g : mG} {x1 s0 : Int32} : mEv X call 1 t_X6_sum (mDrop t_X6_sum 113) [some (mr 7 20), some (mi x1)] [mi s0] g = some (some (mi s0), g) := (mEv_1 _ _ _ _).trans rfl
noncomputable def P_X6_sum (c : mC) (x1 : Int32) : (Option (Int32 × mC)) := (if x1 = 0 then (mBo (α := Int32) none (P_X6_goneAll c) (fun v2 => (mBo (α := Int32 × mC) none (P_X6_gives c v2) (fun p3 => (some (p3.1, p3.2)))))) else (if x1 = 1 then (mBo (α := Int32) none (P_X6_of c 11) (fun v4 => (mBo (α := Int32 × mC) none (P_X6_gives c v4) (fun p5 => (some (p5.1, p5.2)))))) else (if x1 = 2 then (mBo (α := Int32) none (P_X6_queues c) (fun v6 => (mBo (α := Int32 × mC) none (P_X6_gives c v6) (fun p7 => (some (p7.1, p7.2)))))) else (if x1 = 3 then (mBo (α := Int32) none (P_X6_greatest c) (fun v8 => (if v8 = (-1) then (J_X6_sum_92 c 0) else (mBo (α := Int32) none (P_X6_greatest c) (fun v9 => (mBo (α := Int32) none (P_X6_ofPhase c v9 12) (fun v10 => (J_X6_sum_92 c v10)))))))) else (if x1 = 4 then (mBo (α := Int32) none (P_X6_greatest c) (fun v12 => (mBo (α := Int32 × mC) none (P_X6_gives c v12) (fun p13 => (some (p13.1, p13.2)))))) else (if x1 = 5 then (mBo (α := Int32) none (P_X6_shown c) (fun v14 => (mBo (α := Int32 × mC) none (P_X6_gives c v14) (fun p15 => (some (p15.1, p15.2)))))) else (mBo (α := Int32 × mC) none (P_X6_refuse c 1) (fun p1 => (some (p1.1, p1.2))))))))))
theorem rr_X6_sum (d : Nat) {X : mX} {g : mG} {x1 : Int32} {c : mC} : mCall mD X (d + 5) 241 [mr 7 20, mi x1] (mU g 7 c) = (wO (wW g 7)) (P_X6_sum c x1) := by
  refine Eq.trans (mCall_eq (d := d + 4) rfl) ?_
  show mEv X (mCall mD X (d + 4)) 1 t_X6_sum (mDrop t_X6_sum 0) [some (mr 7 20), some (mi x1)] [] (mU g 7 c) = _
  refine Eq.trans (e_X6_sum_0) ?_
  try simp only [mU_same, mU_mU]
  refine mw_ite (fun _ => ?_) (fun _ => ?_)
  · refine Eq.trans (e_X6_sum_40) ?_
    try simp only [mU_same, mU_mU]
    refine mw_oI ?_ (rr_X6_goneAll (d + 1)) (fun v2 => ?_)
    · rfl
    refine Eq.trans (e_X6_sum_45) ?_
    try simp only [mU_same, mU_mU]
    refine mw_oW ?_ (rr_X6_gives (d + 3)) (fun p3 => ?_)
    · rfl
    refine Eq.trans (e_X6_sum_48) ?_
    try simp only [mU_same, mU_mU]
    all_goals rfl
  · refine mw_ite (fun _ => ?_) (fun _ => ?_)
    · refine Eq.trans (e_X6_sum_49) ?_
      try simp only [mU_same, mU_mU]
      refine mw_oI ?_ (rr_X6_of (d + 3)) (fun v4 => ?_)
      · rfl
      refine Eq.trans (e_X6_sum_56) ?_
      try simp only [mU_same, mU_mU]
      refine mw_oW ?_ (rr_X6_gives (d + 3)) (fun p5 => ?_)
      · rfl
      refine Eq.trans (e_X6_sum_59) ?_
      try simp only [mU_same, mU_mU]
      all_goals rfl
    · refine mw_ite (fun _ => ?_) (fun _ => ?_)
      · refine Eq.trans (e_X6_sum_60) ?_
        try simp only [mU_same, mU_mU]
        refine mw_oI ?_ (rr_X6_queues (d + 1)) (fun v6 => ?_)
        · rfl
        refine Eq.trans (e_X6_sum_65) ?_
        try simp only [mU_same, mU_mU]
        refine mw_oW ?_ (rr_X6_gives (d + 3)) (fun p7 => ?_)
        · rfl
        refine Eq.trans (e_X6_sum_68) ?_
        try simp only [mU_same, mU_mU]
        all_goals rfl
      · refine mw_ite (fun _ => ?_) (fun _ => ?_)
        · refine Eq.trans (e_X6_sum_69) ?_
          try simp only [mU_same, mU_mU]
          refine mw_oI ?_ (rr_X6_greatest (d + 1)) (fun v8 => ?_)
          · rfl
          refine Eq.trans (e_X6_sum_74) ?_
          try simp only [mU_same, mU_mU]
          refine mw_ite (fun h11 => ?_) (fun h11 => ?_)
          · refine Eq.trans (e_X6_sum_78) ?_
            try simp only [mU_same, mU_mU]
            exact rj_X6_sum_92 d
          · refine Eq.trans (e_X6_sum_82) ?_
            try simp only [mU_same, mU_mU]
            refine mw_oI ?_ (rr_X6_greatest (d + 1)) (fun v9 => ?_)
            · rfl
            refine Eq.trans (e_X6_sum_87) ?_
            try simp only [mU_same, mU_mU]
            refine mw_oI ?_ (rr_X6_ofPhase (d + 2)) (fun v10 => ?_)
            · rfl
            exact rj_X6_sum_92 d
        · refine mw_ite (fun _ => ?_) (fun _ => ?_)
          · refine Eq.trans (e_X6_sum_96) ?_
            try simp only [mU_same, mU_mU]
            refine mw_oI ?_ (rr_X6_greatest (d + 1)) (fun v12 => ?_)
            · rfl
            refine Eq.trans (e_X6_sum_101) ?_
            try simp only [mU_same, mU_mU]
            refine mw_oW ?_ (rr_X6_gives (d + 3)) (fun p13 => ?_)
            · rfl
            refine Eq.trans (e_X6_sum_104) ?_
            try simp only [mU_same, mU_mU]
            all_goals rfl
          · refine mw_ite (fun _ => ?_) (fun _ => ?_)
            · refine Eq.trans (e_X6_sum_105) ?_
              try simp only [mU_same, mU_mU]
              refine mw_oI ?_ (rr_X6_shown d) (fun v14 => ?_)
              · rfl
              refine Eq.trans (e_X6_sum_110) ?_
              try simp only [mU_same, mU_mU]
              refine mw_oW ?_ (rr_X6_gives (d + 3)) (fun p15 => ?_)
              · rfl
              refine Eq.trans (e_X6_sum_113) ?_
              try simp only [mU_same, mU_mU]
              all_goals rfl
            · refine Eq.trans (e_X6_sum_114) ?_
              try simp only [mU_same, mU_mU]
              refine mw_oW ?_ (rr_X6_refuse (d + 3)) (fun p1 => ?_)
              · rfl
              refine Eq.trans (e_X6_sum_119) ?_
              try simp only [mU_same, mU_mU]
              all_goals rfl
theorem rr_X6_sum_at (d : Nat) {X : mX} {g : mG} {x1 : Int32} : mCall mD X (d + 5) 241 [mr 7 20, mi x1] g = wO (wW g 7) (P_X6_sum (g 7) x1) := by
  have h := rr_X6_sum (X := X) d (g := g) (c := g 7) (x1 := x1)
  rw [mU_self] at h
  exact h
theorem e_X6_event_0 {X : mX} {call : Nat → List mV → mG → mR} {g : mG} {x1 x2 : Int32} : mEv X call 1 t_X6_event (mDrop t_X6_event 0) [some (mr 7 20), some (mi x1), some (mi x2)] [] g = mAns (mEv X call 1 t_X6_event) (mDrop t_X6_event 7) [some (mr 7 20), some (mi x1), some (mi x2)] [] (call 155 [mi x1, mi 0, mi 31] g) := (mEv_4 _ _ _ _).trans rfl
theorem e_X6_event_7 {X : mX} {call : Nat → List mV → mG → mR} {g : mG} {x1 x2 s0 : Int32} : mEv X call 1 t_X6_event (mDrop t_X6_event 7) [some (mr 7 20), some (mi x1), some (mi x2)] [mi s0] g = if s0 = 0 then mEv X call 1 t_X6_event (mDrop t_X6_event 19) [some (mr 7 20), some (mi x1), some (mi x2)] [] g else mEv X call 1 t_X6_event (mDrop t_X6_event 10) [some (mr 7 20), some (mi x1), some (mi x2)] [] g := (mEv_1 _ _ _ _).trans rfl
theorem e_X6_event_19 {X : mX} {call : Nat → List mV → mG → mR} {g : mG} {x1 x2 : Int32} : mEv X call 1 t_X6_event (mDrop t_X6_event 19) [some (mr 7 20), some (mi x1), some (mi x2)] [] g = mAns (mEv X call 1 t_X6_event) (mDrop t_X6_event 24) [some (mr 7 20), some (mi x1), some (mi x2)] [] (call 152 [mr 7 20, mi 1] g) := (mEv_3 _ _ _ _).trans rfl
theorem e_X6_event_24 {X : mX} {call : Nat → List mV → mG → mR} {g : mG} {x1 x2 s0 : Int32} : mEv X call 1 t_X6_event (mDrop t_X6_event 24) [some (mr 7 20), some (mi x1), some (mi x2)] [mi s0] g = some (some (mi s0), g) := (mEv_1 _ _ _ _).trans rfl
noncomputable def J_X6_event_19 (c : mC) : (Option (Int32 × mC)) := (mBo (α := Int32 × mC) none (P_X6_refuse c 1) (fun p1 => (some (p1.1, p1.2))))
theorem rj_X6_event_19 (d : Nat) {X : mX} {g : mG} {x1 x2 : Int32} {c : mC} : mEv X (mCall mD X (d + 1)) 1 t_X6_event (mDrop t_X6_event 19) [some (mr 7 20), some (mi x1), some (mi x2)] [] (mU g 7 c) = (wO (wW g 7)) (J_X6_event_19 c) := by
  refine Eq.trans (e_X6_event_19) ?_
  try simp only [mU_same, mU_mU]
  refine mw_oW ?_ (rr_X6_refuse d) (fun p1 => ?_)
  · rfl
  refine Eq.trans (e_X6_event_24) ?_
  try simp only [mU_same, mU_mU]
  all_goals rfl
theorem e_X6_event_10 {X : mX} {call : Nat → List mV → mG → mR} {g : mG} {x1 x2 : Int32} : mEv X call 1 t_X6_event (mDrop t_X6_event 10) [some (mr 7 20), some (mi x1), some (mi x2)] [] g = mAns (mEv X call 1 t_X6_event) (mDrop t_X6_event 16) [some (mr 7 20), some (mi x1), some (mi x2)] [] (call 155 [mi x2, mi 0, mi 2] g) := (mEv_4 _ _ _ _).trans rfl
theorem e_X6_event_16 {X : mX} {call : Nat → List mV → mG → mR} {g : mG} {x1 x2 s0 : Int32} : mEv X call 1 t_X6_event (mDrop t_X6_event 16) [some (mr 7 20), some (mi x1), some (mi x2)] [mi s0] g = if s0 = 0 then mEv X call 1 t_X6_event (mDrop t_X6_event 19) [some (mr 7 20), some (mi x1), some (mi x2)] [] g else mEv X call 1 t_X6_event (mDrop t_X6_event 25) [some (mr 7 20), some (mi x1), some (mi x2)] [] g := (mEv_1 _ _ _ _).trans rfl
theorem e_X6_event_25 {X : mX} {call : Nat → List mV → mG → mR} {g : mG} {x1 x2 : Int32} : mEv X call 1 t_X6_event (mDrop t_X6_event 25) [some (mr 7 20), some (mi x1), some (mi x2)] [] g = mAns (mEv X call 1 t_X6_event) (mDrop t_X6_event 32) [some (mr 7 20), some (mi x1), some (mi x2)] [mi x1] (call 158 [mr 7 20, mi 12] g) := (mEv_4 _ _ _ _).trans rfl
theorem e_X6_event_32 {X : mX} {call : Nat → List mV → mG → mR} {g : mG} {x1 x2 s0 s1 : Int32} : mEv X call 1 t_X6_event (mDrop t_X6_event 32) [some (mr 7 20), some (mi x1), some (mi x2)] [mi s1, mi s0] g = if s1 ≤ s0 then mEv X call 1 t_X6_event (mDrop t_X6_event 64) [some (mr 7 20), some (mi x1), some (mi x2)] [] g else mEv X call 1 t_X6_event (mDrop t_X6_event 35) [some (mr 7 20), some (mi x1), some (mi x2)] [] g := (mEv_1 _ _ _ _).trans rfl
theorem e_X6_event_64 {X : mX} {call : Nat → List mV → mG → mR} {g : mG} {x1 x2 : Int32} : mEv X call 1 t_X6_event (mDrop t_X6_event 64) [some (mr 7 20), some (mi x1), some (mi x2)] [] g = mAns (mEv X call 1 t_X6_event) (mDrop t_X6_event 69) [some (mr 7 20), some (mi x1), some (mi x2)] [] (call 152 [mr 7 20, mi 5] g) := (mEv_3 _ _ _ _).trans rfl
theorem e_X6_event_69 {X : mX} {call : Nat → List mV → mG → mR} {g : mG} {x1 x2 s0 : Int32} : mEv X call 1 t_X6_event (mDrop t_X6_event 69) [some (mr 7 20), some (mi x1), some (mi x2)] [mi s0] g = some (some (mi s0), g) := (mEv_1 _ _ _ _).trans rfl
theorem e_X6_event_35 {X : mX} {call : Nat → List mV → mG → mR} {g : mG} {x1 x2 : Int32} : mEv X call 1 t_X6_event (mDrop t_X6_event 35) [some (mr 7 20), some (mi x1), some (mi x2)] [] g = mAns (mEv X call 1 t_X6_event) (mDrop t_X6_event 47) [some (mr 7 20), some (mi x1), some (mi x2)] [mi 3, mi 192, mr 7 20, mr 7 20] (call 158 [mr 7 20, mi 12] g) := (mEv_7 _ _ _ _).trans rfl
theorem e_X6_event_47 {X : mX} {call : Nat → List mV → mG → mR} {g : mG} {x1 x2 s2 s3 s4 : Int32} : mEv X call 1 t_X6_event (mDrop t_X6_event 47) [some (mr 7 20), some (mi x1), some (mi x2)] [mi s4, mi s3, mi s2, mr 7 20, mr 7 20] g = mAns (mEv X call 1 t_X6_event) (mDrop t_X6_event 58) [some (mr 7 20), some (mi x1), some (mi x2)] [mr 7 20] (call 158 [mr 7 20, mi ((s2 + (s3 * ((s4 - 1) - x1))) + x2)] g) := (mEv_9 _ _ _ _).trans rfl
theorem e_X6_event_58 {X : mX} {call : Nat → List mV → mG → mR} {g : mG} {x1 x2 s1 : Int32} : mEv X call 1 t_X6_event (mDrop t_X6_event 58) [some (mr 7 20), some (mi x1), some (mi x2)] [mi s1, mr 7 20] g = mAns (mEv X call 1 t_X6_event) (mDrop t_X6_event 61) [some (mr 7 20), some (mi x1), some (mi x2)] [] (call 154 [mr 7 20, mi s1] g) := (mEv_1 _ _ _ _).trans rfl
theorem e_X6_event_61 {X : mX} {call : Nat → List mV → mG → mR} {g : mG} {x1 x2 s0 : Int32} : mEv X call 1 t_X6_event (mDrop t_X6_event 61) [some (mr 7 20), some (mi x1), some (mi x2)] [mi s0] g = mEv X call 1 t_X6_event (mDrop t_X6_event 69) [some (mr 7 20), some (mi x1), some (mi x2)] [mi s0] g := (mEv_1 _ _ _ _).trans rfl
noncomputable def P_X6_event (c : mC) (x1 : Int32) (x2 : Int32) : (Option (Int32 × mC)) := (mBd (α := Int32) (P_X6_isFrom x1 0 31) (fun v1 => (if v1 = 0 then (J_X6_event_19 c) else (mBd (α := Int32) (P_X6_isFrom x2 0 2) (fun v2 => (if v2 = 0 then (J_X6_event_19 c) else (mBo (α := Int32) none (P_X6_of c 12) (fun v3 => (if v3 ≤ x1 then (mBo (α := Int32 × mC) none (P_X6_refuse c 5) (fun p4 => (some (p4.1, p4.2)))) else (mBo (α := Int32) none (P_X6_of c 12) (fun v5 => (mBo (α := Int32) none (P_X6_of c (((192 : Int32) + ((3 : Int32) * ((v5 - 1) - x1))) + x2)) (fun v6 => (mBo (α := Int32 × mC) none (P_X6_gives c v6) (fun p7 => (some (p7.1, p7.2)))))))))))))))))
theorem rr_X6_event (d : Nat) {X : mX} {g : mG} {x1 x2 : Int32} {c : mC} : mCall mD X (d + 2) 242 [mr 7 20, mi x1, mi x2] (mU g 7 c) = (wO (wW g 7)) (P_X6_event c x1 x2) := by
  refine Eq.trans (mCall_eq (d := d + 1) rfl) ?_
  show mEv X (mCall mD X (d + 1)) 1 t_X6_event (mDrop t_X6_event 0) [some (mr 7 20), some (mi x1), some (mi x2)] [] (mU g 7 c) = _
  refine Eq.trans (e_X6_event_0) ?_
  try simp only [mU_same, mU_mU]
  refine mw_cZ (rr_X6_isFrom d) rfl (fun v1 hv1 => ?_)
  refine Eq.trans (e_X6_event_7) ?_
  try simp only [mU_same, mU_mU]
  refine mw_ite (fun h10 => ?_) (fun h10 => ?_)
  · exact rj_X6_event_19 d
  · refine Eq.trans (e_X6_event_10) ?_
    try simp only [mU_same, mU_mU]
    refine mw_cZ (rr_X6_isFrom d) rfl (fun v2 hv2 => ?_)
    refine Eq.trans (e_X6_event_16) ?_
    try simp only [mU_same, mU_mU]
    refine mw_ite (fun h9 => ?_) (fun h9 => ?_)
    · exact rj_X6_event_19 d
    · refine Eq.trans (e_X6_event_25) ?_
      try simp only [mU_same, mU_mU]
      refine mw_oI ?_ (rr_X6_of d) (fun v3 => ?_)
      · rfl
      refine Eq.trans (e_X6_event_32) ?_
      try simp only [mU_same, mU_mU]
      refine mw_ite (fun h8 => ?_) (fun h8 => ?_)
      · refine Eq.trans (e_X6_event_64) ?_
        try simp only [mU_same, mU_mU]
        refine mw_oW ?_ (rr_X6_refuse d) (fun p4 => ?_)
        · rfl
        refine Eq.trans (e_X6_event_69) ?_
        try simp only [mU_same, mU_mU]
        all_goals rfl
      · refine Eq.trans (e_X6_event_35) ?_
        try simp only [mU_same, mU_mU]
        refine mw_oI ?_ (rr_X6_of d) (fun v5 => ?_)
        · rfl
        refine Eq.trans (e_X6_event_47) ?_
        try simp only [mU_same, mU_mU]
        refine mw_oI ?_ (rr_X6_of d) (fun v6 => ?_)
        · rfl
        refine Eq.trans (e_X6_event_58) ?_
        try simp only [mU_same, mU_mU]
        refine mw_oW ?_ (rr_X6_gives d) (fun p7 => ?_)
        · rfl
        refine Eq.trans (e_X6_event_61) ?_
        try simp only [mU_same, mU_mU]
        refine Eq.trans (e_X6_event_69) ?_
        try simp only [mU_same, mU_mU]
        all_goals rfl
theorem rr_X6_event_at (d : Nat) {X : mX} {g : mG} {x1 x2 : Int32} : mCall mD X (d + 2) 242 [mr 7 20, mi x1, mi x2] g = wO (wW g 7) (P_X6_event (g 7) x1 x2) := by
  have h := rr_X6_event (X := X) d (g := g) (c := g 7) (x1 := x1) (x2 := x2)
  rw [mU_self] at h
  exact h
theorem e_X6_mark__0 {X : mX} {call : Nat → List mV → mG → mR} {g : mG} {x1 x2 x3 : Int32} : mEv X call 1 t_X6_mark_ (mDrop t_X6_mark_ 0) [some (mr 7 20), some (mi x1), some (mi x2), some (mi x3), none] [] g = mAns (mEv X call 1 t_X6_mark_) (mDrop t_X6_mark_ 7) [some (mr 7 20), some (mi x1), some (mi x2), some (mi x3), none] [] (call 155 [mi x2, mi 0, mi 9] g) := (mEv_4 _ _ _ _).trans rfl
theorem e_X6_mark__7 {X : mX} {call : Nat → List mV → mG → mR} {g : mG} {x1 x2 x3 s0 : Int32} : mEv X call 1 t_X6_mark_ (mDrop t_X6_mark_ 7) [some (mr 7 20), some (mi x1), some (mi x2), some (mi x3), none] [mi s0] g = if s0 = 0 then mEv X call 1 t_X6_mark_ (mDrop t_X6_mark_ 25) [some (mr 7 20), some (mi x1), some (mi x2), some (mi x3), none] [] g else mEv X call 1 t_X6_mark_ (mDrop t_X6_mark_ 10) [some (mr 7 20), some (mi x1), some (mi x2), some (mi x3), none] [] g := (mEv_1 _ _ _ _).trans rfl
theorem e_X6_mark__25 {X : mX} {call : Nat → List mV → mG → mR} {g : mG} {x1 x2 x3 : Int32} : mEv X call 1 t_X6_mark_ (mDrop t_X6_mark_ 25) [some (mr 7 20), some (mi x1), some (mi x2), some (mi x3), none] [] g = mAns (mEv X call 1 t_X6_mark_) (mDrop t_X6_mark_ 30) [some (mr 7 20), some (mi x1), some (mi x2), some (mi x3), none] [] (call 152 [mr 7 20, mi 1] g) := (mEv_3 _ _ _ _).trans rfl
theorem e_X6_mark__30 {X : mX} {call : Nat → List mV → mG → mR} {g : mG} {x1 x2 x3 s0 : Int32} : mEv X call 1 t_X6_mark_ (mDrop t_X6_mark_ 30) [some (mr 7 20), some (mi x1), some (mi x2), some (mi x3), none] [mi s0] g = some (some (mi s0), g) := (mEv_1 _ _ _ _).trans rfl
noncomputable def J_X6_mark__25 (c : mC) : (Option (Int32 × mC)) := (mBo (α := Int32 × mC) none (P_X6_refuse c 1) (fun p1 => (some (p1.1, p1.2))))
theorem rj_X6_mark__25 (d : Nat) {X : mX} {g : mG} {x1 x2 x3 : Int32} {c : mC} : mEv X (mCall mD X (d + 3)) 1 t_X6_mark_ (mDrop t_X6_mark_ 25) [some (mr 7 20), some (mi x1), some (mi x2), some (mi x3), none] [] (mU g 7 c) = (wO (wW g 7)) (J_X6_mark__25 c) := by
  refine Eq.trans (e_X6_mark__25) ?_
  try simp only [mU_same, mU_mU]
  refine mw_oW ?_ (rr_X6_refuse (d + 2)) (fun p1 => ?_)
  · rfl
  refine Eq.trans (e_X6_mark__30) ?_
  try simp only [mU_same, mU_mU]
  all_goals rfl
theorem e_X6_mark__10 {X : mX} {call : Nat → List mV → mG → mR} {g : mG} {x1 x2 x3 : Int32} : mEv X call 1 t_X6_mark_ (mDrop t_X6_mark_ 10) [some (mr 7 20), some (mi x1), some (mi x2), some (mi x3), none] [] g = mAns (mEv X call 1 t_X6_mark_) (mDrop t_X6_mark_ 15) [some (mr 7 20), some (mi x1), some (mi x2), some (mi x3), none] [mi x3] (call 222 [mi x2] g) := (mEv_3 _ _ _ _).trans rfl
theorem e_X6_mark__15 {X : mX} {call : Nat → List mV → mG → mR} {g : mG} {x1 x2 x3 s0 s1 : Int32} : mEv X call 1 t_X6_mark_ (mDrop t_X6_mark_ 15) [some (mr 7 20), some (mi x1), some (mi x2), some (mi x3), none] [mi s1, mi s0] g = mAns (mEv X call 1 t_X6_mark_) (mDrop t_X6_mark_ 19) [some (mr 7 20), some (mi x1), some (mi x2), some (mi x3), none] [mi s1, mi s0] (call 223 [mi x2] g) := (mEv_2 _ _ _ _).trans rfl
theorem e_X6_mark__19 {X : mX} {call : Nat → List mV → mG → mR} {g : mG} {x1 x2 x3 s0 s1 s2 : Int32} : mEv X call 1 t_X6_mark_ (mDrop t_X6_mark_ 19) [some (mr 7 20), some (mi x1), some (mi x2), some (mi x3), none] [mi s2, mi s1, mi s0] g = mAns (mEv X call 1 t_X6_mark_) (mDrop t_X6_mark_ 22) [some (mr 7 20), some (mi x1), some (mi x2), some (mi x3), none] [] (call 155 [mi s0, mi s1, mi s2] g) := (mEv_1 _ _ _ _).trans rfl
theorem e_X6_mark__22 {X : mX} {call : Nat → List mV → mG → mR} {g : mG} {x1 x2 x3 s0 : Int32} : mEv X call 1 t_X6_mark_ (mDrop t_X6_mark_ 22) [some (mr 7 20), some (mi x1), some (mi x2), some (mi x3), none] [mi s0] g = if s0 = 0 then mEv X call 1 t_X6_mark_ (mDrop t_X6_mark_ 25) [some (mr 7 20), some (mi x1), some (mi x2), some (mi x3), none] [] g else mEv X call 1 t_X6_mark_ (mDrop t_X6_mark_ 31) [some (mr 7 20), some (mi x1), some (mi x2), some (mi x3), none] [] g := (mEv_1 _ _ _ _).trans rfl
theorem e_X6_mark__31 {X : mX} {call : Nat → List mV → mG → mR} {g : mG} {x1 x2 x3 : Int32} : mEv X call 1 t_X6_mark_ (mDrop t_X6_mark_ 31) [some (mr 7 20), some (mi x1), some (mi x2), some (mi x3), none] [] g = mAns (mEv X call 1 t_X6_mark_) (mDrop t_X6_mark_ 36) [some (mr 7 20), some (mi x1), some (mi x2), some (mi x3), none] [] (call 168 [mr 7 20, mi x1] g) := (mEv_3 _ _ _ _).trans rfl
theorem e_X6_mark__36 {X : mX} {call : Nat → List mV → mG → mR} {g : mG} {x1 x2 x3 s0 : Int32} : mEv X call 1 t_X6_mark_ (mDrop t_X6_mark_ 36) [some (mr 7 20), some (mi x1), some (mi x2), some (mi x3), none] [mi s0] g = if s0 = 0 then mEv X call 1 t_X6_mark_ (mDrop t_X6_mark_ 39) [some (mr 7 20), some (mi x1), some (mi x2), some (mi x3), none] [] g else mEv X call 1 t_X6_mark_ (mDrop t_X6_mark_ 45) [some (mr 7 20), some (mi x1), some (mi x2), some (mi x3), none] [] g := (mEv_1 _ _ _ _).trans rfl
theorem e_X6_mark__39 {X : mX} {call : Nat → List mV → mG → mR} {g : mG} {x1 x2 x3 : Int32} : mEv X call 1 t_X6_mark_ (mDrop t_X6_mark_ 39) [some (mr 7 20), some (mi x1), some (mi x2), some (mi x3), none] [] g = mAns (mEv X call 1 t_X6_mark_) (mDrop t_X6_mark_ 44) [some (mr 7 20), some (mi x1), some (mi x2), some (mi x3), none] [] (call 152 [mr 7 20, mi 2] g) := (mEv_3 _ _ _ _).trans rfl
theorem e_X6_mark__44 {X : mX} {call : Nat → List mV → mG → mR} {g : mG} {x1 x2 x3 s0 : Int32} : mEv X call 1 t_X6_mark_ (mDrop t_X6_mark_ 44) [some (mr 7 20), some (mi x1), some (mi x2), some (mi x3), none] [mi s0] g = some (some (mi s0), g) := (mEv_1 _ _ _ _).trans rfl
theorem e_X6_mark__45 {X : mX} {call : Nat → List mV → mG → mR} {g : mG} {x1 x2 x3 : Int32} : mEv X call 1 t_X6_mark_ (mDrop t_X6_mark_ 45) [some (mr 7 20), some (mi x1), some (mi x2), some (mi x3), none] [] g = mAns (mEv X call 1 t_X6_mark_) (mDrop t_X6_mark_ 51) [some (mr 7 20), some (mi x1), some (mi x2), some (mi x3), none] [] (call 167 [mr 7 20, mi x1, mi x2] g) := (mEv_4 _ _ _ _).trans rfl
theorem e_X6_mark__51 {X : mX} {call : Nat → List mV → mG → mR} {g : mG} {x1 x2 x3 s0 : Int32} : mEv X call 1 t_X6_mark_ (mDrop t_X6_mark_ 51) [some (mr 7 20), some (mi x1), some (mi x2), some (mi x3), none] [mi s0] g = mAns (mEv X call 1 t_X6_mark_) (mDrop t_X6_mark_ 62) [some (mr 7 20), some (mi x1), some (mi x2), some (mi x3), some (mi s0)] [] (call 166 [mr 7 20, mi x1, mi ((2 : Int32) + x2), mi x3] g) := (mEv_8 _ _ _ _).trans rfl
theorem e_X6_mark__62 {X : mX} {call : Nat → List mV → mG → mR} {g : mG} {x1 x2 x3 x4 : Int32} : mEv X call 1 t_X6_mark_ (mDrop t_X6_mark_ 62) [some (mr 7 20), some (mi x1), some (mi x2), some (mi x3), some (mi x4)] [] g = mAns (mEv X call 1 t_X6_mark_) (mDrop t_X6_mark_ 68) [some (mr 7 20), some (mi x1), some (mi x2), some (mi x3), some (mi x4)] [] (call 154 [mr 7 20, mi x4] g) := (mEv_3 _ _ _ _).trans rfl
theorem e_X6_mark__68 {X : mX} {call : Nat → List mV → mG → mR} {g : mG} {x1 x2 x3 x4 s0 : Int32} : mEv X call 1 t_X6_mark_ (mDrop t_X6_mark_ 68) [some (mr 7 20), some (mi x1), some (mi x2), some (mi x3), some (mi x4)] [mi s0] g = some (some (mi s0), g) := (mEv_1 _ _ _ _).trans rfl
noncomputable def P_X6_mark_ (c : mC) (x1 : Int32) (x2 : Int32) (x3 : Int32) : (Option (Int32 × mC)) := (mBd (α := Int32) (P_X6_isFrom x2 0 9) (fun v1 => (if v1 = 0 then (J_X6_mark__25 c) else (mBd (α := Int32) (P_X6_leastOf x2) (fun v2 => (mBd (α := Int32) (P_X6_mostOf x2) (fun v3 => (mBd (α := Int32) (P_X6_isFrom x3 v2 v3) (fun v4 => (if v4 = 0 then (J_X6_mark__25 c) else (mBo (α := Int32) none (P_X6_isPhase c x1) (fun v5 => (if v5 = 0 then (mBo (α := Int32 × mC) none (P_X6_refuse c 2) (fun p6 => (some (p6.1, p6.2)))) else (mBo (α := Int32) none (P_X6_mark c x1 x2) (fun v7 => (mBo (α := mC) none (P_X6_putsPhase c x1 ((2 : Int32) + x2) x3) (fun c8 => (mBo (α := Int32 × mC) none (P_X6_gives c8 v7) (fun p9 => (some (p9.1, p9.2)))))))))))))))))))))
theorem rr_X6_mark_ (d : Nat) {X : mX} {g : mG} {x1 x2 x3 : Int32} {c : mC} : mCall mD X (d + 4) 243 [mr 7 20, mi x1, mi x2, mi x3] (mU g 7 c) = (wO (wW g 7)) (P_X6_mark_ c x1 x2 x3) := by
  refine Eq.trans (mCall_eq (d := d + 3) rfl) ?_
  show mEv X (mCall mD X (d + 3)) 1 t_X6_mark_ (mDrop t_X6_mark_ 0) [some (mr 7 20), some (mi x1), some (mi x2), some (mi x3), none] [] (mU g 7 c) = _
  refine Eq.trans (e_X6_mark__0) ?_
  try simp only [mU_same, mU_mU]
  refine mw_cZ (rr_X6_isFrom (d + 2)) rfl (fun v1 hv1 => ?_)
  refine Eq.trans (e_X6_mark__7) ?_
  try simp only [mU_same, mU_mU]
  refine mw_ite (fun h12 => ?_) (fun h12 => ?_)
  · exact rj_X6_mark__25 d
  · refine Eq.trans (e_X6_mark__10) ?_
    try simp only [mU_same, mU_mU]
    refine mw_cI (rr_X6_leastOf (d + 2)) (fun v2 => ?_)
    refine Eq.trans (e_X6_mark__15) ?_
    try simp only [mU_same, mU_mU]
    refine mw_cI (rr_X6_mostOf (d + 2)) (fun v3 => ?_)
    refine Eq.trans (e_X6_mark__19) ?_
    try simp only [mU_same, mU_mU]
    refine mw_cZ (rr_X6_isFrom (d + 2)) rfl (fun v4 hv4 => ?_)
    refine Eq.trans (e_X6_mark__22) ?_
    try simp only [mU_same, mU_mU]
    refine mw_ite (fun h11 => ?_) (fun h11 => ?_)
    · exact rj_X6_mark__25 d
    · refine Eq.trans (e_X6_mark__31) ?_
      try simp only [mU_same, mU_mU]
      refine mw_oZ ?_ (rr_X6_isPhase (d + 1)) rfl (fun v5 hv5 => ?_)
      · rfl
      refine Eq.trans (e_X6_mark__36) ?_
      try simp only [mU_same, mU_mU]
      refine mw_ite (fun h10 => ?_) (fun h10 => ?_)
      · refine Eq.trans (e_X6_mark__39) ?_
        try simp only [mU_same, mU_mU]
        refine mw_oW ?_ (rr_X6_refuse (d + 2)) (fun p6 => ?_)
        · rfl
        refine Eq.trans (e_X6_mark__44) ?_
        try simp only [mU_same, mU_mU]
        all_goals rfl
      · refine Eq.trans (e_X6_mark__45) ?_
        try simp only [mU_same, mU_mU]
        refine mw_oI ?_ (rr_X6_mark d) (fun v7 => ?_)
        · rfl
        refine Eq.trans (e_X6_mark__51) ?_
        try simp only [mU_same, mU_mU]
        refine mw_oV ?_ (rr_X6_putsPhase (d + 1)) (fun c8 => ?_)
        · rfl
        refine Eq.trans (e_X6_mark__62) ?_
        try simp only [mU_same, mU_mU]
        refine mw_oW ?_ (rr_X6_gives (d + 2)) (fun p9 => ?_)
        · rfl
        refine Eq.trans (e_X6_mark__68) ?_
        try simp only [mU_same, mU_mU]
        all_goals rfl
theorem rr_X6_mark__at (d : Nat) {X : mX} {g : mG} {x1 x2 x3 : Int32} : mCall mD X (d + 4) 243 [mr 7 20, mi x1, mi x2, mi x3] g = wO (wW g 7) (P_X6_mark_ (g 7) x1 x2 x3) := by
  have h := rr_X6_mark_ (X := X) d (g := g) (c := g 7) (x1 := x1) (x2 := x2) (x3 := x3)
  rw [mU_self] at h
  exact h
theorem e_X6_clock_0 {X : mX} {call : Nat → List mV → mG → mR} {g : mG} {x1 x2 : Int32} : mEv X call 1 t_X6_clock (mDrop t_X6_clock 0) [some (mr 7 20), some (mi x1), some (mi x2), none] [] g = if x1 = 0 then mEv X call 1 t_X6_clock (mDrop t_X6_clock 4) [some (mr 7 20), some (mi x1), some (mi x2), none] [] g else mEv X call 1 t_X6_clock (mDrop t_X6_clock 14) [some (mr 7 20), some (mi x1), some (mi x2), none] [] g := (mEv_2 _ _ _ _).trans rfl
theorem e_X6_clock_4 {X : mX} {call : Nat → List mV → mG → mR} {g : mG} {x1 x2 : Int32} : mEv X call 1 t_X6_clock (mDrop t_X6_clock 4) [some (mr 7 20), some (mi x1), some (mi x2), none] [] g = mAns (mEv X call 1 t_X6_clock) (mDrop t_X6_clock 8) [some (mr 7 20), some (mi x1), some (mi x2), none] [] (call 228 [mi x2] g) := (mEv_2 _ _ _ _).trans rfl
theorem e_X6_clock_8 {X : mX} {call : Nat → List mV → mG → mR} {g : mG} {x1 x2 s0 : Int32} : mEv X call 1 t_X6_clock (mDrop t_X6_clock 8) [some (mr 7 20), some (mi x1), some (mi x2), none] [mi s0] g = if s0 = 0 then mEv X call 1 t_X6_clock (mDrop t_X6_clock 11) [some (mr 7 20), some (mi x1), some (mi x2), none] [] g else mEv X call 1 t_X6_clock (mDrop t_X6_clock 36) [some (mr 7 20), some (mi x1), some (mi x2), none] [] g := (mEv_1 _ _ _ _).trans rfl
theorem e_X6_clock_11 {X : mX} {call : Nat → List mV → mG → mR} {g : mG} {x1 x2 : Int32} : mEv X call 1 t_X6_clock (mDrop t_X6_clock 11) [some (mr 7 20), some (mi x1), some (mi x2), none] [] g = mEv X call 1 t_X6_clock (mDrop t_X6_clock 30) [some (mr 7 20), some (mi x1), some (mi x2), none] [] g := (mEv_1 _ _ _ _).trans rfl
theorem e_X6_clock_30 {X : mX} {call : Nat → List mV → mG → mR} {g : mG} {x1 x2 : Int32} : mEv X call 1 t_X6_clock (mDrop t_X6_clock 30) [some (mr 7 20), some (mi x1), some (mi x2), none] [] g = mAns (mEv X call 1 t_X6_clock) (mDrop t_X6_clock 35) [some (mr 7 20), some (mi x1), some (mi x2), none] [] (call 152 [mr 7 20, mi 1] g) := (mEv_3 _ _ _ _).trans rfl
theorem e_X6_clock_35 {X : mX} {call : Nat → List mV → mG → mR} {g : mG} {x1 x2 s0 : Int32} : mEv X call 1 t_X6_clock (mDrop t_X6_clock 35) [some (mr 7 20), some (mi x1), some (mi x2), none] [mi s0] g = some (some (mi s0), g) := (mEv_1 _ _ _ _).trans rfl
noncomputable def J_X6_clock_30 (c : mC) : (Option (Int32 × mC)) := (mBo (α := Int32 × mC) none (P_X6_refuse c 1) (fun p1 => (some (p1.1, p1.2))))
theorem rj_X6_clock_30 (d : Nat) {X : mX} {g : mG} {x1 x2 : Int32} {c : mC} : mEv X (mCall mD X (d + 2)) 1 t_X6_clock (mDrop t_X6_clock 30) [some (mr 7 20), some (mi x1), some (mi x2), none] [] (mU g 7 c) = (wO (wW g 7)) (J_X6_clock_30 c) := by
  refine Eq.trans (e_X6_clock_30) ?_
  try simp only [mU_same, mU_mU]
  refine mw_oW ?_ (rr_X6_refuse (d + 1)) (fun p1 => ?_)
  · rfl
  refine Eq.trans (e_X6_clock_35) ?_
  try simp only [mU_same, mU_mU]
  all_goals rfl
theorem e_X6_clock_36 {X : mX} {call : Nat → List mV → mG → mR} {g : mG} {x1 x2 : Int32} : mEv X call 1 t_X6_clock (mDrop t_X6_clock 36) [some (mr 7 20), some (mi x1), some (mi x2), none] [] g = mAns (mEv X call 1 t_X6_clock) (mDrop t_X6_clock 43) [some (mr 7 20), some (mi x1), some (mi x2), none] [] (call 158 [mr 7 20, mi ((2 : Int32) + x1)] g) := (mEv_5 _ _ _ _).trans rfl
theorem e_X6_clock_43 {X : mX} {call : Nat → List mV → mG → mR} {g : mG} {x1 x2 s0 : Int32} : mEv X call 1 t_X6_clock (mDrop t_X6_clock 43) [some (mr 7 20), some (mi x1), some (mi x2), none] [mi s0] g = if s0 = x2 then mEv X call 1 t_X6_clock (mDrop t_X6_clock 49) [some (mr 7 20), some (mi x1), some (mi x2), some (mi s0)] [] g else mEv X call 1 t_X6_clock (mDrop t_X6_clock 55) [some (mr 7 20), some (mi x1), some (mi x2), some (mi s0)] [] g := (mEv_4 _ _ _ _).trans rfl
theorem e_X6_clock_49 {X : mX} {call : Nat → List mV → mG → mR} {g : mG} {x1 x2 x3 : Int32} : mEv X call 1 t_X6_clock (mDrop t_X6_clock 49) [some (mr 7 20), some (mi x1), some (mi x2), some (mi x3)] [] g = mAns (mEv X call 1 t_X6_clock) (mDrop t_X6_clock 54) [some (mr 7 20), some (mi x1), some (mi x2), some (mi x3)] [] (call 152 [mr 7 20, mi 4] g) := (mEv_3 _ _ _ _).trans rfl
theorem e_X6_clock_54 {X : mX} {call : Nat → List mV → mG → mR} {g : mG} {x1 x2 x3 s0 : Int32} : mEv X call 1 t_X6_clock (mDrop t_X6_clock 54) [some (mr 7 20), some (mi x1), some (mi x2), some (mi x3)] [mi s0] g = some (some (mi s0), g) := (mEv_1 _ _ _ _).trans rfl
theorem e_X6_clock_55 {X : mX} {call : Nat → List mV → mG → mR} {g : mG} {x1 x2 x3 : Int32} : mEv X call 1 t_X6_clock (mDrop t_X6_clock 55) [some (mr 7 20), some (mi x1), some (mi x2), some (mi x3)] [] g = mAns (mEv X call 1 t_X6_clock) (mDrop t_X6_clock 63) [some (mr 7 20), some (mi x1), some (mi x2), some (mi x3)] [] (call 159 [mr 7 20, mi ((2 : Int32) + x1), mi x2] g) := (mEv_6 _ _ _ _).trans rfl
theorem e_X6_clock_63 {X : mX} {call : Nat → List mV → mG → mR} {g : mG} {x1 x2 x3 : Int32} : mEv X call 1 t_X6_clock (mDrop t_X6_clock 63) [some (mr 7 20), some (mi x1), some (mi x2), some (mi x3)] [] g = if x1 = 0 then mEv X call 1 t_X6_clock (mDrop t_X6_clock 67) [some (mr 7 20), some (mi x1), some (mi x2), some (mi x3)] [] g else mEv X call 1 t_X6_clock (mDrop t_X6_clock 87) [some (mr 7 20), some (mi x1), some (mi x2), some (mi x3)] [] g := (mEv_2 _ _ _ _).trans rfl
theorem e_X6_clock_67 {X : mX} {call : Nat → List mV → mG → mR} {g : mG} {x1 x2 x3 : Int32} : mEv X call 1 t_X6_clock (mDrop t_X6_clock 67) [some (mr 7 20), some (mi x1), some (mi x2), some (mi x3)] [] g = if x2 = 0 then mEv X call 1 t_X6_clock (mDrop t_X6_clock 73) [some (mr 7 20), some (mi x1), some (mi x2), some (mi x3)] [mi 4, mr 7 20] g else mEv X call 1 t_X6_clock (mDrop t_X6_clock 77) [some (mr 7 20), some (mi x1), some (mi x2), some (mi x3)] [mi 4, mr 7 20] g := (mEv_4 _ _ _ _).trans rfl
theorem e_X6_clock_73 {X : mX} {call : Nat → List mV → mG → mR} {g : mG} {x1 x2 x3 s1 : Int32} : mEv X call 1 t_X6_clock (mDrop t_X6_clock 73) [some (mr 7 20), some (mi x1), some (mi x2), some (mi x3)] [mi s1, mr 7 20] g = mEv X call 1 t_X6_clock (mDrop t_X6_clock 84) [some (mr 7 20), some (mi x1), some (mi x2), some (mi x3)] [mi 0, mi s1, mr 7 20] g := (mEv_2 _ _ _ _).trans rfl
theorem e_X6_clock_84 {X : mX} {call : Nat → List mV → mG → mR} {g : mG} {x1 x2 x3 s1 s2 : Int32} : mEv X call 1 t_X6_clock (mDrop t_X6_clock 84) [some (mr 7 20), some (mi x1), some (mi x2), some (mi x3)] [mi s2, mi s1, mr 7 20] g = mAns (mEv X call 1 t_X6_clock) (mDrop t_X6_clock 87) [some (mr 7 20), some (mi x1), some (mi x2), some (mi x3)] [] (call 159 [mr 7 20, mi s1, mi s2] g) := (mEv_1 _ _ _ _).trans rfl
theorem e_X6_clock_87 {X : mX} {call : Nat → List mV → mG → mR} {g : mG} {x1 x2 x3 : Int32} : mEv X call 1 t_X6_clock (mDrop t_X6_clock 87) [some (mr 7 20), some (mi x1), some (mi x2), some (mi x3)] [] g = mAns (mEv X call 1 t_X6_clock) (mDrop t_X6_clock 92) [some (mr 7 20), some (mi x1), some (mi x2), some (mi x3)] [] (call 154 [mr 7 20, mi x3] g) := (mEv_3 _ _ _ _).trans rfl
theorem e_X6_clock_92 {X : mX} {call : Nat → List mV → mG → mR} {g : mG} {x1 x2 x3 s0 : Int32} : mEv X call 1 t_X6_clock (mDrop t_X6_clock 92) [some (mr 7 20), some (mi x1), some (mi x2), some (mi x3)] [mi s0] g = some (some (mi s0), g) := (mEv_1 _ _ _ _).trans rfl
noncomputable def J_X6_clock_87 (c : mC) (x3 : Int32) : (Option (Int32 × mC)) := (mBo (α := Int32 × mC) none (P_X6_gives c x3) (fun p1 => (some (p1.1, p1.2))))
theorem rj_X6_clock_87 (d : Nat) {X : mX} {g : mG} {x1 x2 x3 : Int32} {c : mC} : mEv X (mCall mD X (d + 2)) 1 t_X6_clock (mDrop t_X6_clock 87) [some (mr 7 20), some (mi x1), some (mi x2), some (mi x3)] [] (mU g 7 c) = (wO (wW g 7)) (J_X6_clock_87 c x3) := by
  refine Eq.trans (e_X6_clock_87) ?_
  try simp only [mU_same, mU_mU]
  refine mw_oW ?_ (rr_X6_gives (d + 1)) (fun p1 => ?_)
  · rfl
  refine Eq.trans (e_X6_clock_92) ?_
  try simp only [mU_same, mU_mU]
  all_goals rfl
noncomputable def J_X6_clock_84 (c : mC) (x3 : Int32) (s1 : Int32) (s2 : Int32) : (Option (Int32 × mC)) := (mBo (α := mC) none (P_X6_puts c s1 s2) (fun c1 => (J_X6_clock_87 c1 x3)))
theorem rj_X6_clock_84 (d : Nat) {X : mX} {g : mG} {x1 x2 x3 s1 s2 : Int32} {c : mC} : mEv X (mCall mD X (d + 2)) 1 t_X6_clock (mDrop t_X6_clock 84) [some (mr 7 20), some (mi x1), some (mi x2), some (mi x3)] [mi s2, mi s1, mr 7 20] (mU g 7 c) = (wO (wW g 7)) (J_X6_clock_84 c x3 s1 s2) := by
  refine Eq.trans (e_X6_clock_84) ?_
  try simp only [mU_same, mU_mU]
  refine mw_oV ?_ (rr_X6_puts (d + 1)) (fun c1 => ?_)
  · rfl
  exact rj_X6_clock_87 d
theorem e_X6_clock_77 {X : mX} {call : Nat → List mV → mG → mR} {g : mG} {x1 x2 x3 s1 : Int32} : mEv X call 1 t_X6_clock (mDrop t_X6_clock 77) [some (mr 7 20), some (mi x1), some (mi x2), some (mi x3)] [mi s1, mr 7 20] g = mAns (mEv X call 1 t_X6_clock) (mDrop t_X6_clock 82) [some (mr 7 20), some (mi x1), some (mi x2), some (mi x3)] [mi s1, mr 7 20] (call 158 [mr 7 20, mi 4] g) := (mEv_3 _ _ _ _).trans rfl
theorem e_X6_clock_82 {X : mX} {call : Nat → List mV → mG → mR} {g : mG} {x1 x2 x3 s1 s2 : Int32} : mEv X call 1 t_X6_clock (mDrop t_X6_clock 82) [some (mr 7 20), some (mi x1), some (mi x2), some (mi x3)] [mi s2, mi s1, mr 7 20] g = if (x2 : Int32) = 0 then none else mEv X call 1 t_X6_clock (mDrop t_X6_clock 84) [some (mr 7 20), some (mi x1), some (mi x2), some (mi x3)] [mi (s2 - s2 / x2 * x2), mi s1, mr 7 20] g := (mEv_2 _ _ _ _).trans rfl
noncomputable def J_X6_clock_36 (c : mC) (x1 : Int32) (x2 : Int32) : (Option (Int32 × mC)) := (mBo (α := Int32) none (P_X6_of c ((2 : Int32) + x1)) (fun v1 => (if v1 = x2 then (mBo (α := Int32 × mC) none (P_X6_refuse c 4) (fun p2 => (some (p2.1, p2.2)))) else (mBo (α := mC) none (P_X6_puts c ((2 : Int32) + x1) x2) (fun c3 => (if x1 = 0 then (if x2 = 0 then (J_X6_clock_84 c3 v1 4 0) else (mBo (α := Int32) none (P_X6_of c3 4) (fun v4 => (if (x2 : Int32) = 0 then none else (J_X6_clock_84 c3 v1 4 (v4 - v4 / x2 * x2)))))) else (J_X6_clock_87 c3 v1)))))))
theorem rj_X6_clock_36 (d : Nat) {X : mX} {g : mG} {x1 x2 : Int32} {c : mC} : mEv X (mCall mD X (d + 2)) 1 t_X6_clock (mDrop t_X6_clock 36) [some (mr 7 20), some (mi x1), some (mi x2), none] [] (mU g 7 c) = (wO (wW g 7)) (J_X6_clock_36 c x1 x2) := by
  refine Eq.trans (e_X6_clock_36) ?_
  try simp only [mU_same, mU_mU]
  refine mw_oI ?_ (rr_X6_of (d + 1)) (fun v1 => ?_)
  · rfl
  refine Eq.trans (e_X6_clock_43) ?_
  try simp only [mU_same, mU_mU]
  refine mw_ite (fun h7 => ?_) (fun h7 => ?_)
  · refine Eq.trans (e_X6_clock_49) ?_
    try simp only [mU_same, mU_mU]
    refine mw_oW ?_ (rr_X6_refuse (d + 1)) (fun p2 => ?_)
    · rfl
    refine Eq.trans (e_X6_clock_54) ?_
    try simp only [mU_same, mU_mU]
    all_goals rfl
  · refine Eq.trans (e_X6_clock_55) ?_
    try simp only [mU_same, mU_mU]
    refine mw_oV ?_ (rr_X6_puts (d + 1)) (fun c3 => ?_)
    · rfl
    refine Eq.trans (e_X6_clock_63) ?_
    try simp only [mU_same, mU_mU]
    refine mw_ite (fun h6 => ?_) (fun h6 => ?_)
    · refine Eq.trans (e_X6_clock_67) ?_
      try simp only [mU_same, mU_mU]
      refine mw_ite (fun h5 => ?_) (fun h5 => ?_)
      · refine Eq.trans (e_X6_clock_73) ?_
        try simp only [mU_same, mU_mU]
        exact rj_X6_clock_84 d
      · refine Eq.trans (e_X6_clock_77) ?_
        try simp only [mU_same, mU_mU]
        refine mw_oI ?_ (rr_X6_of (d + 1)) (fun v4 => ?_)
        · rfl
        refine Eq.trans (e_X6_clock_82) ?_
        try simp only [mU_same, mU_mU]
        refine mw_ite (fun _ => rfl) (fun _ => ?_)
        exact rj_X6_clock_84 d
    · exact rj_X6_clock_87 d
theorem e_X6_clock_14 {X : mX} {call : Nat → List mV → mG → mR} {g : mG} {x1 x2 : Int32} : mEv X call 1 t_X6_clock (mDrop t_X6_clock 14) [some (mr 7 20), some (mi x1), some (mi x2), none] [] g = if x1 = 1 then mEv X call 1 t_X6_clock (mDrop t_X6_clock 19) [some (mr 7 20), some (mi x1), some (mi x2), none] [] g else mEv X call 1 t_X6_clock (mDrop t_X6_clock 30) [some (mr 7 20), some (mi x1), some (mi x2), none] [] g := (mEv_3 _ _ _ _).trans rfl
theorem e_X6_clock_19 {X : mX} {call : Nat → List mV → mG → mR} {g : mG} {x1 x2 : Int32} : mEv X call 1 t_X6_clock (mDrop t_X6_clock 19) [some (mr 7 20), some (mi x1), some (mi x2), none] [] g = mAns (mEv X call 1 t_X6_clock) (mDrop t_X6_clock 27) [some (mr 7 20), some (mi x1), some (mi x2), none] [] (call 155 [mi x2, mi 0, mi 239] g) := (mEv_4 _ _ _ _).trans rfl
theorem e_X6_clock_27 {X : mX} {call : Nat → List mV → mG → mR} {g : mG} {x1 x2 s0 : Int32} : mEv X call 1 t_X6_clock (mDrop t_X6_clock 27) [some (mr 7 20), some (mi x1), some (mi x2), none] [mi s0] g = if s0 = 0 then mEv X call 1 t_X6_clock (mDrop t_X6_clock 30) [some (mr 7 20), some (mi x1), some (mi x2), none] [] g else mEv X call 1 t_X6_clock (mDrop t_X6_clock 36) [some (mr 7 20), some (mi x1), some (mi x2), none] [] g := (mEv_1 _ _ _ _).trans rfl
noncomputable def P_X6_clock (c : mC) (x1 : Int32) (x2 : Int32) : (Option (Int32 × mC)) := (if x1 = 0 then (mBd (α := Int32) (P_X6_isCycle x2) (fun v1 => (if v1 = 0 then (J_X6_clock_30 c) else (J_X6_clock_36 c x1 x2)))) else (if x1 = 1 then (mBd (α := Int32) (P_X6_isFrom x2 0 239) (fun v3 => (if v3 = 0 then (J_X6_clock_30 c) else (J_X6_clock_36 c x1 x2)))) else (J_X6_clock_30 c)))
theorem rr_X6_clock (d : Nat) {X : mX} {g : mG} {x1 x2 : Int32} {c : mC} : mCall mD X (d + 3) 244 [mr 7 20, mi x1, mi x2] (mU g 7 c) = (wO (wW g 7)) (P_X6_clock c x1 x2) := by
  refine Eq.trans (mCall_eq (d := d + 2) rfl) ?_
  show mEv X (mCall mD X (d + 2)) 1 t_X6_clock (mDrop t_X6_clock 0) [some (mr 7 20), some (mi x1), some (mi x2), none] [] (mU g 7 c) = _
  refine Eq.trans (e_X6_clock_0) ?_
  try simp only [mU_same, mU_mU]
  refine mw_ite (fun h6 => ?_) (fun h6 => ?_)
  · refine Eq.trans (e_X6_clock_4) ?_
    try simp only [mU_same, mU_mU]
    refine mw_cZ (rr_X6_isCycle d) rfl (fun v1 hv1 => ?_)
    refine Eq.trans (e_X6_clock_8) ?_
    try simp only [mU_same, mU_mU]
    refine mw_ite (fun h2 => ?_) (fun h2 => ?_)
    · refine Eq.trans (e_X6_clock_11) ?_
      try simp only [mU_same, mU_mU]
      exact rj_X6_clock_30 d
    · exact rj_X6_clock_36 d
  · refine Eq.trans (e_X6_clock_14) ?_
    try simp only [mU_same, mU_mU]
    refine mw_ite (fun h5 => ?_) (fun h5 => ?_)
    · refine Eq.trans (e_X6_clock_19) ?_
      try simp only [mU_same, mU_mU]
      refine mw_cZ (rr_X6_isFrom (d + 1)) rfl (fun v3 hv3 => ?_)
      refine Eq.trans (e_X6_clock_27) ?_
      try simp only [mU_same, mU_mU]
      refine mw_ite (fun h4 => ?_) (fun h4 => ?_)
      · exact rj_X6_clock_30 d
      · exact rj_X6_clock_36 d
    · exact rj_X6_clock_30 d
theorem rr_X6_clock_at (d : Nat) {X : mX} {g : mG} {x1 x2 : Int32} : mCall mD X (d + 3) 244 [mr 7 20, mi x1, mi x2] g = wO (wW g 7) (P_X6_clock (g 7) x1 x2) := by
  have h := rr_X6_clock (X := X) d (g := g) (c := g 7) (x1 := x1) (x2 := x2)
  rw [mU_self] at h
  exact h
theorem e_X6_calls_0 {X : mX} {call : Nat → List mV → mG → mR} {g : mG} {x1 : Int32} : mEv X call 0 t_X6_calls (mDrop t_X6_calls 0) [some (mr 7 20), some (mi x1), none] [] g = mAns (mEv X call 0 t_X6_calls) (mDrop t_X6_calls 6) [some (mr 7 20), some (mi x1), none] [] (call 165 [mr 7 20, mi x1, mi 0] g) := (mEv_4 _ _ _ _).trans rfl
theorem e_X6_calls_6 {X : mX} {call : Nat → List mV → mG → mR} {g : mG} {x1 s0 : Int32} : mEv X call 0 t_X6_calls (mDrop t_X6_calls 6) [some (mr 7 20), some (mi x1), none] [mi s0] g = mAns (mEv X call 0 t_X6_calls) (mDrop t_X6_calls 14) [some (mr 7 20), some (mi x1), some (mi s0)] [mi x1, mr 7 20] (call 181 [mr 7 20, mi s0] g) := (mEv_6 _ _ _ _).trans rfl
theorem e_X6_calls_14 {X : mX} {call : Nat → List mV → mG → mR} {g : mG} {x1 x2 s1 s2 : Int32} : mEv X call 0 t_X6_calls (mDrop t_X6_calls 14) [some (mr 7 20), some (mi x1), some (mi x2)] [mi s2, mi s1, mr 7 20] g = if s2 = 0 then mEv X call 0 t_X6_calls (mDrop t_X6_calls 32) [some (mr 7 20), some (mi x1), some (mi x2)] [mi s1, mr 7 20] g else mEv X call 0 t_X6_calls (mDrop t_X6_calls 17) [some (mr 7 20), some (mi x1), some (mi x2)] [mi s1, mr 7 20] g := (mEv_1 _ _ _ _).trans rfl
theorem e_X6_calls_32 {X : mX} {call : Nat → List mV → mG → mR} {g : mG} {x1 x2 s1 : Int32} : mEv X call 0 t_X6_calls (mDrop t_X6_calls 32) [some (mr 7 20), some (mi x1), some (mi x2)] [mi s1, mr 7 20] g = mEv X call 0 t_X6_calls (mDrop t_X6_calls 34) [some (mr 7 20), some (mi x1), some (mi x2)] [mi 13, mi s1, mr 7 20] g := (mEv_1 _ _ _ _).trans rfl
theorem e_X6_calls_34 {X : mX} {call : Nat → List mV → mG → mR} {g : mG} {x1 x2 s1 s2 : Int32} : mEv X call 0 t_X6_calls (mDrop t_X6_calls 34) [some (mr 7 20), some (mi x1), some (mi x2)] [mi s2, mi s1, mr 7 20] g = mAns (mEv X call 0 t_X6_calls) (mDrop t_X6_calls 38) [some (mr 7 20), some (mi x1), some (mi x2)] [] (call 166 [mr 7 20, mi s1, mi s2, mi 1] g) := (mEv_2 _ _ _ _).trans rfl
theorem e_X6_calls_38 {X : mX} {call : Nat → List mV → mG → mR} {g : mG} {x1 x2 : Int32} : mEv X call 0 t_X6_calls (mDrop t_X6_calls 38) [some (mr 7 20), some (mi x1), some (mi x2)] [] g = some (none, g) := (mEv_1 _ _ _ _).trans rfl
noncomputable def J_X6_calls_34 (c : mC) (s1 : Int32) (s2 : Int32) : (Option (mC)) := (mBo (α := mC) none (P_X6_putsPhase c s1 s2 1) (fun c1 => (some c1)))
theorem rj_X6_calls_34 (d : Nat) {X : mX} {g : mG} {x1 x2 s1 s2 : Int32} {c : mC} : mEv X (mCall mD X (d + 3)) 0 t_X6_calls (mDrop t_X6_calls 34) [some (mr 7 20), some (mi x1), some (mi x2)] [mi s2, mi s1, mr 7 20] (mU g 7 c) = (wO (wV g 7)) (J_X6_calls_34 c s1 s2) := by
  refine Eq.trans (e_X6_calls_34) ?_
  try simp only [mU_same, mU_mU]
  refine mw_oV ?_ (rr_X6_putsPhase (d + 1)) (fun c1 => ?_)
  · rfl
  refine Eq.trans (e_X6_calls_38) ?_
  try simp only [mU_same, mU_mU]
  all_goals rfl
noncomputable def J_X6_calls_32 (c : mC) (s1 : Int32) : (Option (mC)) := (J_X6_calls_34 c s1 13)
theorem rj_X6_calls_32 (d : Nat) {X : mX} {g : mG} {x1 x2 s1 : Int32} {c : mC} : mEv X (mCall mD X (d + 3)) 0 t_X6_calls (mDrop t_X6_calls 32) [some (mr 7 20), some (mi x1), some (mi x2)] [mi s1, mr 7 20] (mU g 7 c) = (wO (wV g 7)) (J_X6_calls_32 c s1) := by
  refine Eq.trans (e_X6_calls_32) ?_
  try simp only [mU_same, mU_mU]
  exact rj_X6_calls_34 d
theorem e_X6_calls_17 {X : mX} {call : Nat → List mV → mG → mR} {g : mG} {x1 x2 s1 : Int32} : mEv X call 0 t_X6_calls (mDrop t_X6_calls 17) [some (mr 7 20), some (mi x1), some (mi x2)] [mi s1, mr 7 20] g = mAns (mEv X call 0 t_X6_calls) (mDrop t_X6_calls 23) [some (mr 7 20), some (mi x1), some (mi x2)] [mi s1, mr 7 20] (call 163 [mr 7 20, mi x2, mi 0] g) := (mEv_4 _ _ _ _).trans rfl
theorem e_X6_calls_23 {X : mX} {call : Nat → List mV → mG → mR} {g : mG} {x1 x2 s1 s2 : Int32} : mEv X call 0 t_X6_calls (mDrop t_X6_calls 23) [some (mr 7 20), some (mi x1), some (mi x2)] [mi s2, mi s1, mr 7 20] g = if s2 = x1 then mEv X call 0 t_X6_calls (mDrop t_X6_calls 27) [some (mr 7 20), some (mi x1), some (mi x2)] [mi s1, mr 7 20] g else mEv X call 0 t_X6_calls (mDrop t_X6_calls 32) [some (mr 7 20), some (mi x1), some (mi x2)] [mi s1, mr 7 20] g := (mEv_2 _ _ _ _).trans rfl
theorem e_X6_calls_27 {X : mX} {call : Nat → List mV → mG → mR} {g : mG} {x1 x2 s1 : Int32} : mEv X call 0 t_X6_calls (mDrop t_X6_calls 27) [some (mr 7 20), some (mi x1), some (mi x2)] [mi s1, mr 7 20] g = mEv X call 0 t_X6_calls (mDrop t_X6_calls 34) [some (mr 7 20), some (mi x1), some (mi x2)] [mi 16, mi s1, mr 7 20] g := (mEv_2 _ _ _ _).trans rfl
noncomputable def P_X6_calls (c : mC) (x1 : Int32) : (Option (mC)) := (mBo (α := Int32) none (P_X6_ofPhase c x1 0) (fun v1 => (mBo (α := Int32) none (P_X6_isGreen c v1) (fun v2 => (if v2 = 0 then (J_X6_calls_32 c x1) else (mBo (α := Int32) none (P_X6_ofRing c v1 0) (fun v3 => (if v3 = x1 then (J_X6_calls_34 c x1 16) else (J_X6_calls_32 c x1)))))))))
theorem rr_X6_calls (d : Nat) {X : mX} {g : mG} {x1 : Int32} {c : mC} : mCall mD X (d + 4) 245 [mr 7 20, mi x1] (mU g 7 c) = (wO (wV g 7)) (P_X6_calls c x1) := by
  refine Eq.trans (mCall_eq (d := d + 3) rfl) ?_
  show mEv X (mCall mD X (d + 3)) 0 t_X6_calls (mDrop t_X6_calls 0) [some (mr 7 20), some (mi x1), none] [] (mU g 7 c) = _
  refine Eq.trans (e_X6_calls_0) ?_
  try simp only [mU_same, mU_mU]
  refine mw_oI ?_ (rr_X6_ofPhase (d + 1)) (fun v1 => ?_)
  · rfl
  refine Eq.trans (e_X6_calls_6) ?_
  try simp only [mU_same, mU_mU]
  refine mw_oZ ?_ (rr_X6_isGreen d) rfl (fun v2 hv2 => ?_)
  · rfl
  refine Eq.trans (e_X6_calls_14) ?_
  try simp only [mU_same, mU_mU]
  refine mw_ite (fun h5 => ?_) (fun h5 => ?_)
  · exact rj_X6_calls_32 d
  · refine Eq.trans (e_X6_calls_17) ?_
    try simp only [mU_same, mU_mU]
    refine mw_oI ?_ (rr_X6_ofRing (d + 1)) (fun v3 => ?_)
    · rfl
    refine Eq.trans (e_X6_calls_23) ?_
    try simp only [mU_same, mU_mU]
    refine mw_ite (fun h4 => ?_) (fun h4 => ?_)
    · refine Eq.trans (e_X6_calls_27) ?_
      try simp only [mU_same, mU_mU]
      exact rj_X6_calls_34 d
    · exact rj_X6_calls_32 d
theorem rr_X6_calls_at (d : Nat) {X : mX} {g : mG} {x1 : Int32} : mCall mD X (d + 4) 245 [mr 7 20, mi x1] g = wO (wV g 7) (P_X6_calls (g 7) x1) := by
  have h := rr_X6_calls (X := X) d (g := g) (c := g 7) (x1 := x1)
  rw [mU_self] at h
  exact h
theorem e_X6_call_0 {X : mX} {call : Nat → List mV → mG → mR} {g : mG} {x1 x2 : Int32} : mEv X call 2 t_X6_call (mDrop t_X6_call 0) [some (mr 7 20), some (mi x1), some (mi x2)] [] g = mAns (mEv X call 2 t_X6_call) (mDrop t_X6_call 5) [some (mr 7 20), some (mi x1), some (mi x2)] [] (call 168 [mr 7 20, mi x1] g) := (mEv_3 _ _ _ _).trans rfl
theorem e_X6_call_5 {X : mX} {call : Nat → List mV → mG → mR} {g : mG} {x1 x2 s0 : Int32} : mEv X call 2 t_X6_call (mDrop t_X6_call 5) [some (mr 7 20), some (mi x1), some (mi x2)] [mi s0] g = if s0 = 0 then mEv X call 2 t_X6_call (mDrop t_X6_call 8) [some (mr 7 20), some (mi x1), some (mi x2)] [] g else mEv X call 2 t_X6_call (mDrop t_X6_call 14) [some (mr 7 20), some (mi x1), some (mi x2)] [] g := (mEv_1 _ _ _ _).trans rfl
theorem e_X6_call_8 {X : mX} {call : Nat → List mV → mG → mR} {g : mG} {x1 x2 : Int32} : mEv X call 2 t_X6_call (mDrop t_X6_call 8) [some (mr 7 20), some (mi x1), some (mi x2)] [] g = mAns (mEv X call 2 t_X6_call) (mDrop t_X6_call 13) [some (mr 7 20), some (mi x1), some (mi x2)] [] (call 153 [mr 7 20, mi 2] g) := (mEv_3 _ _ _ _).trans rfl
theorem e_X6_call_13 {X : mX} {call : Nat → List mV → mG → mR} {g : mG} {x1 x2 s0 : Int32} : mEv X call 2 t_X6_call (mDrop t_X6_call 13) [some (mr 7 20), some (mi x1), some (mi x2)] [mi s0] g = if (s0 : Int32) &&& 1 = s0 then some (some (mi s0), g) else none := (mEv_1 _ _ _ _).trans rfl
theorem e_X6_call_14 {X : mX} {call : Nat → List mV → mG → mR} {g : mG} {x1 x2 : Int32} : mEv X call 2 t_X6_call (mDrop t_X6_call 14) [some (mr 7 20), some (mi x1), some (mi x2)] [] g = if x2 = 0 then mEv X call 2 t_X6_call (mDrop t_X6_call 25) [some (mr 7 20), some (mi x1), some (mi x2)] [mi x1, mr 7 20] g else mEv X call 2 t_X6_call (mDrop t_X6_call 20) [some (mr 7 20), some (mi x1), some (mi x2)] [mi x1, mr 7 20] g := (mEv_4 _ _ _ _).trans rfl
theorem e_X6_call_25 {X : mX} {call : Nat → List mV → mG → mR} {g : mG} {x1 x2 s1 : Int32} : mEv X call 2 t_X6_call (mDrop t_X6_call 25) [some (mr 7 20), some (mi x1), some (mi x2)] [mi s1, mr 7 20] g = mEv X call 2 t_X6_call (mDrop t_X6_call 27) [some (mr 7 20), some (mi x1), some (mi x2)] [mi 13, mi s1, mr 7 20] g := (mEv_1 _ _ _ _).trans rfl
theorem e_X6_call_27 {X : mX} {call : Nat → List mV → mG → mR} {g : mG} {x1 x2 s1 s2 : Int32} : mEv X call 2 t_X6_call (mDrop t_X6_call 27) [some (mr 7 20), some (mi x1), some (mi x2)] [mi s2, mi s1, mr 7 20] g = mAns (mEv X call 2 t_X6_call) (mDrop t_X6_call 30) [some (mr 7 20), some (mi x1), some (mi x2)] [] (call 165 [mr 7 20, mi s1, mi s2] g) := (mEv_1 _ _ _ _).trans rfl
theorem e_X6_call_30 {X : mX} {call : Nat → List mV → mG → mR} {g : mG} {x1 x2 s0 : Int32} : mEv X call 2 t_X6_call (mDrop t_X6_call 30) [some (mr 7 20), some (mi x1), some (mi x2)] [mi s0] g = if s0 = 1 then mEv X call 2 t_X6_call (mDrop t_X6_call 34) [some (mr 7 20), some (mi x1), some (mi x2)] [] g else mEv X call 2 t_X6_call (mDrop t_X6_call 40) [some (mr 7 20), some (mi x1), some (mi x2)] [] g := (mEv_2 _ _ _ _).trans rfl
theorem e_X6_call_34 {X : mX} {call : Nat → List mV → mG → mR} {g : mG} {x1 x2 : Int32} : mEv X call 2 t_X6_call (mDrop t_X6_call 34) [some (mr 7 20), some (mi x1), some (mi x2)] [] g = mAns (mEv X call 2 t_X6_call) (mDrop t_X6_call 39) [some (mr 7 20), some (mi x1), some (mi x2)] [] (call 153 [mr 7 20, mi 4] g) := (mEv_3 _ _ _ _).trans rfl
theorem e_X6_call_39 {X : mX} {call : Nat → List mV → mG → mR} {g : mG} {x1 x2 s0 : Int32} : mEv X call 2 t_X6_call (mDrop t_X6_call 39) [some (mr 7 20), some (mi x1), some (mi x2)] [mi s0] g = if (s0 : Int32) &&& 1 = s0 then some (some (mi s0), g) else none := (mEv_1 _ _ _ _).trans rfl
theorem e_X6_call_40 {X : mX} {call : Nat → List mV → mG → mR} {g : mG} {x1 x2 : Int32} : mEv X call 2 t_X6_call (mDrop t_X6_call 40) [some (mr 7 20), some (mi x1), some (mi x2)] [] g = if x2 = 0 then mEv X call 2 t_X6_call (mDrop t_X6_call 59) [some (mr 7 20), some (mi x1), some (mi x2)] [] g else mEv X call 2 t_X6_call (mDrop t_X6_call 44) [some (mr 7 20), some (mi x1), some (mi x2)] [] g := (mEv_2 _ _ _ _).trans rfl
theorem e_X6_call_59 {X : mX} {call : Nat → List mV → mG → mR} {g : mG} {x1 x2 : Int32} : mEv X call 2 t_X6_call (mDrop t_X6_call 59) [some (mr 7 20), some (mi x1), some (mi x2)] [] g = mAns (mEv X call 2 t_X6_call) (mDrop t_X6_call 64) [some (mr 7 20), some (mi x1), some (mi x2)] [] (call 158 [mr 7 20, mi 5] g) := (mEv_3 _ _ _ _).trans rfl
theorem e_X6_call_64 {X : mX} {call : Nat → List mV → mG → mR} {g : mG} {x1 x2 s0 : Int32} : mEv X call 2 t_X6_call (mDrop t_X6_call 64) [some (mr 7 20), some (mi x1), some (mi x2)] [mi s0] g = if s0 = 1 then mEv X call 2 t_X6_call (mDrop t_X6_call 68) [some (mr 7 20), some (mi x1), some (mi x2)] [] g else mEv X call 2 t_X6_call (mDrop t_X6_call 75) [some (mr 7 20), some (mi x1), some (mi x2)] [] g := (mEv_2 _ _ _ _).trans rfl
theorem e_X6_call_68 {X : mX} {call : Nat → List mV → mG → mR} {g : mG} {x1 x2 : Int32} : mEv X call 2 t_X6_call (mDrop t_X6_call 68) [some (mr 7 20), some (mi x1), some (mi x2)] [] g = mAns (mEv X call 2 t_X6_call) (mDrop t_X6_call 74) [some (mr 7 20), some (mi x1), some (mi x2)] [] (call 153 [mr 7 20, mi 8] g) := (mEv_3 _ _ _ _).trans rfl
theorem e_X6_call_74 {X : mX} {call : Nat → List mV → mG → mR} {g : mG} {x1 x2 s0 : Int32} : mEv X call 2 t_X6_call (mDrop t_X6_call 74) [some (mr 7 20), some (mi x1), some (mi x2)] [mi s0] g = if (s0 : Int32) &&& 1 = s0 then some (some (mi s0), g) else none := (mEv_1 _ _ _ _).trans rfl
theorem e_X6_call_75 {X : mX} {call : Nat → List mV → mG → mR} {g : mG} {x1 x2 : Int32} : mEv X call 2 t_X6_call (mDrop t_X6_call 75) [some (mr 7 20), some (mi x1), some (mi x2)] [] g = if x2 = 0 then mEv X call 2 t_X6_call (mDrop t_X6_call 90) [some (mr 7 20), some (mi x1), some (mi x2)] [] g else mEv X call 2 t_X6_call (mDrop t_X6_call 79) [some (mr 7 20), some (mi x1), some (mi x2)] [] g := (mEv_2 _ _ _ _).trans rfl
theorem e_X6_call_90 {X : mX} {call : Nat → List mV → mG → mR} {g : mG} {x1 x2 : Int32} : mEv X call 2 t_X6_call (mDrop t_X6_call 90) [some (mr 7 20), some (mi x1), some (mi x2)] [] g = mAns (mEv X call 2 t_X6_call) (mDrop t_X6_call 95) [some (mr 7 20), some (mi x1), some (mi x2)] [] (call 245 [mr 7 20, mi x1] g) := (mEv_3 _ _ _ _).trans rfl
theorem e_X6_call_95 {X : mX} {call : Nat → List mV → mG → mR} {g : mG} {x1 x2 : Int32} : mEv X call 2 t_X6_call (mDrop t_X6_call 95) [some (mr 7 20), some (mi x1), some (mi x2)] [] g = mAns (mEv X call 2 t_X6_call) (mDrop t_X6_call 100) [some (mr 7 20), some (mi x1), some (mi x2)] [] (call 153 [mr 7 20, mi 0] g) := (mEv_3 _ _ _ _).trans rfl
theorem e_X6_call_100 {X : mX} {call : Nat → List mV → mG → mR} {g : mG} {x1 x2 s0 : Int32} : mEv X call 2 t_X6_call (mDrop t_X6_call 100) [some (mr 7 20), some (mi x1), some (mi x2)] [mi s0] g = if (s0 : Int32) &&& 1 = s0 then some (some (mi s0), g) else none := (mEv_1 _ _ _ _).trans rfl
noncomputable def J_X6_call_95 (c : mC) : (Option (Int32 × mC)) := (mBo (α := Int32 × mC) none (P_X6_isSo c 0) (fun p1 => (some (p1.1, p1.2))))
theorem rj_X6_call_95 (d : Nat) {X : mX} {g : mG} {x1 x2 : Int32} {c : mC} : mEv X (mCall mD X (d + 4)) 2 t_X6_call (mDrop t_X6_call 95) [some (mr 7 20), some (mi x1), some (mi x2)] [] (mU g 7 c) = (wO (wW g 7)) (J_X6_call_95 c) := by
  refine Eq.trans (e_X6_call_95) ?_
  try simp only [mU_same, mU_mU]
  refine mw_oY ?_ (rr_X6_isSo (d + 3)) rfl (fun p1 hp1 => ?_)
  · rfl
  refine Eq.trans (e_X6_call_100) ?_
  try simp only [mU_same, mU_mU]
  exact if_pos hp1
theorem e_X6_call_79 {X : mX} {call : Nat → List mV → mG → mR} {g : mG} {x1 x2 : Int32} : mEv X call 2 t_X6_call (mDrop t_X6_call 79) [some (mr 7 20), some (mi x1), some (mi x2)] [] g = mAns (mEv X call 2 t_X6_call) (mDrop t_X6_call 87) [some (mr 7 20), some (mi x1), some (mi x2)] [] (call 166 [mr 7 20, mi x1, mi 14, mi 1] g) := (mEv_5 _ _ _ _).trans rfl
theorem e_X6_call_87 {X : mX} {call : Nat → List mV → mG → mR} {g : mG} {x1 x2 : Int32} : mEv X call 2 t_X6_call (mDrop t_X6_call 87) [some (mr 7 20), some (mi x1), some (mi x2)] [] g = mEv X call 2 t_X6_call (mDrop t_X6_call 95) [some (mr 7 20), some (mi x1), some (mi x2)] [] g := (mEv_1 _ _ _ _).trans rfl
noncomputable def J_X6_call_59 (c : mC) (x1 : Int32) (x2 : Int32) : (Option (Int32 × mC)) := (mBo (α := Int32) none (P_X6_of c 5) (fun v1 => (if v1 = 1 then (mBo (α := Int32 × mC) none (P_X6_isSo c 8) (fun p2 => (some (p2.1, p2.2)))) else (if x2 = 0 then (mBo (α := mC) none (P_X6_calls c x1) (fun c3 => (J_X6_call_95 c3))) else (mBo (α := mC) none (P_X6_putsPhase c x1 14 1) (fun c4 => (J_X6_call_95 c4)))))))
theorem rj_X6_call_59 (d : Nat) {X : mX} {g : mG} {x1 x2 : Int32} {c : mC} : mEv X (mCall mD X (d + 4)) 2 t_X6_call (mDrop t_X6_call 59) [some (mr 7 20), some (mi x1), some (mi x2)] [] (mU g 7 c) = (wO (wW g 7)) (J_X6_call_59 c x1 x2) := by
  refine Eq.trans (e_X6_call_59) ?_
  try simp only [mU_same, mU_mU]
  refine mw_oI ?_ (rr_X6_of (d + 3)) (fun v1 => ?_)
  · rfl
  refine Eq.trans (e_X6_call_64) ?_
  try simp only [mU_same, mU_mU]
  refine mw_ite (fun h6 => ?_) (fun h6 => ?_)
  · refine Eq.trans (e_X6_call_68) ?_
    try simp only [mU_same, mU_mU]
    refine mw_oY ?_ (rr_X6_isSo (d + 3)) rfl (fun p2 hp2 => ?_)
    · rfl
    refine Eq.trans (e_X6_call_74) ?_
    try simp only [mU_same, mU_mU]
    exact if_pos hp2
  · refine Eq.trans (e_X6_call_75) ?_
    try simp only [mU_same, mU_mU]
    refine mw_ite (fun h5 => ?_) (fun h5 => ?_)
    · refine Eq.trans (e_X6_call_90) ?_
      try simp only [mU_same, mU_mU]
      refine mw_oV ?_ (rr_X6_calls d) (fun c3 => ?_)
      · rfl
      exact rj_X6_call_95 d
    · refine Eq.trans (e_X6_call_79) ?_
      try simp only [mU_same, mU_mU]
      refine mw_oV ?_ (rr_X6_putsPhase (d + 2)) (fun c4 => ?_)
      · rfl
      refine Eq.trans (e_X6_call_87) ?_
      try simp only [mU_same, mU_mU]
      exact rj_X6_call_95 d
theorem e_X6_call_44 {X : mX} {call : Nat → List mV → mG → mR} {g : mG} {x1 x2 : Int32} : mEv X call 2 t_X6_call (mDrop t_X6_call 44) [some (mr 7 20), some (mi x1), some (mi x2)] [] g = mAns (mEv X call 2 t_X6_call) (mDrop t_X6_call 50) [some (mr 7 20), some (mi x1), some (mi x2)] [] (call 167 [mr 7 20, mi x1, mi 5] g) := (mEv_4 _ _ _ _).trans rfl
theorem e_X6_call_50 {X : mX} {call : Nat → List mV → mG → mR} {g : mG} {x1 x2 s0 : Int32} : mEv X call 2 t_X6_call (mDrop t_X6_call 50) [some (mr 7 20), some (mi x1), some (mi x2)] [mi s0] g = if s0 = 0 then mEv X call 2 t_X6_call (mDrop t_X6_call 53) [some (mr 7 20), some (mi x1), some (mi x2)] [] g else mEv X call 2 t_X6_call (mDrop t_X6_call 59) [some (mr 7 20), some (mi x1), some (mi x2)] [] g := (mEv_1 _ _ _ _).trans rfl
theorem e_X6_call_53 {X : mX} {call : Nat → List mV → mG → mR} {g : mG} {x1 x2 : Int32} : mEv X call 2 t_X6_call (mDrop t_X6_call 53) [some (mr 7 20), some (mi x1), some (mi x2)] [] g = mAns (mEv X call 2 t_X6_call) (mDrop t_X6_call 58) [some (mr 7 20), some (mi x1), some (mi x2)] [] (call 153 [mr 7 20, mi 5] g) := (mEv_3 _ _ _ _).trans rfl
theorem e_X6_call_58 {X : mX} {call : Nat → List mV → mG → mR} {g : mG} {x1 x2 s0 : Int32} : mEv X call 2 t_X6_call (mDrop t_X6_call 58) [some (mr 7 20), some (mi x1), some (mi x2)] [mi s0] g = if (s0 : Int32) &&& 1 = s0 then some (some (mi s0), g) else none := (mEv_1 _ _ _ _).trans rfl
noncomputable def J_X6_call_27 (c : mC) (x1 : Int32) (x2 : Int32) (s1 : Int32) (s2 : Int32) : (Option (Int32 × mC)) := (mBo (α := Int32) none (P_X6_ofPhase c s1 s2) (fun v1 => (if v1 = 1 then (mBo (α := Int32 × mC) none (P_X6_isSo c 4) (fun p2 => (some (p2.1, p2.2)))) else (if x2 = 0 then (J_X6_call_59 c x1 x2) else (mBo (α := Int32) none (P_X6_mark c x1 5) (fun v3 => (if v3 = 0 then (mBo (α := Int32 × mC) none (P_X6_isSo c 5) (fun p4 => (some (p4.1, p4.2)))) else (J_X6_call_59 c x1 x2))))))))
theorem rj_X6_call_27 (d : Nat) {X : mX} {g : mG} {x1 x2 s1 s2 : Int32} {c : mC} : mEv X (mCall mD X (d + 4)) 2 t_X6_call (mDrop t_X6_call 27) [some (mr 7 20), some (mi x1), some (mi x2)] [mi s2, mi s1, mr 7 20] (mU g 7 c) = (wO (wW g 7)) (J_X6_call_27 c x1 x2 s1 s2) := by
  refine Eq.trans (e_X6_call_27) ?_
  try simp only [mU_same, mU_mU]
  refine mw_oI ?_ (rr_X6_ofPhase (d + 2)) (fun v1 => ?_)
  · rfl
  refine Eq.trans (e_X6_call_30) ?_
  try simp only [mU_same, mU_mU]
  refine mw_ite (fun h7 => ?_) (fun h7 => ?_)
  · refine Eq.trans (e_X6_call_34) ?_
    try simp only [mU_same, mU_mU]
    refine mw_oY ?_ (rr_X6_isSo (d + 3)) rfl (fun p2 hp2 => ?_)
    · rfl
    refine Eq.trans (e_X6_call_39) ?_
    try simp only [mU_same, mU_mU]
    exact if_pos hp2
  · refine Eq.trans (e_X6_call_40) ?_
    try simp only [mU_same, mU_mU]
    refine mw_ite (fun h6 => ?_) (fun h6 => ?_)
    · exact rj_X6_call_59 d
    · refine Eq.trans (e_X6_call_44) ?_
      try simp only [mU_same, mU_mU]
      refine mw_oI ?_ (rr_X6_mark (d + 1)) (fun v3 => ?_)
      · rfl
      refine Eq.trans (e_X6_call_50) ?_
      try simp only [mU_same, mU_mU]
      refine mw_ite (fun h5 => ?_) (fun h5 => ?_)
      · refine Eq.trans (e_X6_call_53) ?_
        try simp only [mU_same, mU_mU]
        refine mw_oY ?_ (rr_X6_isSo (d + 3)) rfl (fun p4 hp4 => ?_)
        · rfl
        refine Eq.trans (e_X6_call_58) ?_
        try simp only [mU_same, mU_mU]
        exact if_pos hp4
      · exact rj_X6_call_59 d
theorem e_X6_call_20 {X : mX} {call : Nat → List mV → mG → mR} {g : mG} {x1 x2 s1 : Int32} : mEv X call 2 t_X6_call (mDrop t_X6_call 20) [some (mr 7 20), some (mi x1), some (mi x2)] [mi s1, mr 7 20] g = mEv X call 2 t_X6_call (mDrop t_X6_call 27) [some (mr 7 20), some (mi x1), some (mi x2)] [mi 14, mi s1, mr 7 20] g := (mEv_2 _ _ _ _).trans rfl
noncomputable def P_X6_call (c : mC) (x1 : Int32) (x2 : Int32) : (Option (Int32 × mC)) := (mBo (α := Int32) none (P_X6_isPhase c x1) (fun v1 => (if v1 = 0 then (mBo (α := Int32 × mC) none (P_X6_isSo c 2) (fun p2 => (some (p2.1, p2.2)))) else (if x2 = 0 then (J_X6_call_27 c x1 x2 x1 13) else (J_X6_call_27 c x1 x2 x1 14)))))
theorem rr_X6_call (d : Nat) {X : mX} {g : mG} {x1 x2 : Int32} {c : mC} : mCall mD X (d + 5) 246 [mr 7 20, mi x1, mi x2] (mU g 7 c) = (wO (wW g 7)) (P_X6_call c x1 x2) := by
  refine Eq.trans (mCall_eq (d := d + 4) rfl) ?_
  show mEv X (mCall mD X (d + 4)) 2 t_X6_call (mDrop t_X6_call 0) [some (mr 7 20), some (mi x1), some (mi x2)] [] (mU g 7 c) = _
  refine Eq.trans (e_X6_call_0) ?_
  try simp only [mU_same, mU_mU]
  refine mw_oZ ?_ (rr_X6_isPhase (d + 2)) rfl (fun v1 hv1 => ?_)
  · rfl
  refine Eq.trans (e_X6_call_5) ?_
  try simp only [mU_same, mU_mU]
  refine mw_ite (fun h4 => ?_) (fun h4 => ?_)
  · refine Eq.trans (e_X6_call_8) ?_
    try simp only [mU_same, mU_mU]
    refine mw_oY ?_ (rr_X6_isSo (d + 3)) rfl (fun p2 hp2 => ?_)
    · rfl
    refine Eq.trans (e_X6_call_13) ?_
    try simp only [mU_same, mU_mU]
    exact if_pos hp2
  · refine Eq.trans (e_X6_call_14) ?_
    try simp only [mU_same, mU_mU]
    refine mw_ite (fun h3 => ?_) (fun h3 => ?_)
    · refine Eq.trans (e_X6_call_25) ?_
      try simp only [mU_same, mU_mU]
      exact rj_X6_call_27 d
    · refine Eq.trans (e_X6_call_20) ?_
      try simp only [mU_same, mU_mU]
      exact rj_X6_call_27 d
theorem rr_X6_call_at (d : Nat) {X : mX} {g : mG} {x1 x2 : Int32} : mCall mD X (d + 5) 246 [mr 7 20, mi x1, mi x2] g = wO (wW g 7) (P_X6_call (g 7) x1 x2) := by
  have h := rr_X6_call (X := X) d (g := g) (c := g 7) (x1 := x1) (x2 := x2)
  rw [mU_self] at h
  exact h
theorem e_X6_come_0 {X : mX} {call : Nat → List mV → mG → mR} {g : mG} {x1 x2 : Int32} : mEv X call 1 t_X6_come (mDrop t_X6_come 0) [some (mr 7 20), some (mi x1), some (mi x2)] [] g = mAns (mEv X call 1 t_X6_come) (mDrop t_X6_come 7) [some (mr 7 20), some (mi x1), some (mi x2)] [] (call 155 [mi x2, mi 1, mi 99] g) := (mEv_4 _ _ _ _).trans rfl
theorem e_X6_come_7 {X : mX} {call : Nat → List mV → mG → mR} {g : mG} {x1 x2 s0 : Int32} : mEv X call 1 t_X6_come (mDrop t_X6_come 7) [some (mr 7 20), some (mi x1), some (mi x2)] [mi s0] g = if s0 = 0 then mEv X call 1 t_X6_come (mDrop t_X6_come 10) [some (mr 7 20), some (mi x1), some (mi x2)] [] g else mEv X call 1 t_X6_come (mDrop t_X6_come 16) [some (mr 7 20), some (mi x1), some (mi x2)] [] g := (mEv_1 _ _ _ _).trans rfl
theorem e_X6_come_10 {X : mX} {call : Nat → List mV → mG → mR} {g : mG} {x1 x2 : Int32} : mEv X call 1 t_X6_come (mDrop t_X6_come 10) [some (mr 7 20), some (mi x1), some (mi x2)] [] g = mAns (mEv X call 1 t_X6_come) (mDrop t_X6_come 15) [some (mr 7 20), some (mi x1), some (mi x2)] [] (call 152 [mr 7 20, mi 1] g) := (mEv_3 _ _ _ _).trans rfl
theorem e_X6_come_15 {X : mX} {call : Nat → List mV → mG → mR} {g : mG} {x1 x2 s0 : Int32} : mEv X call 1 t_X6_come (mDrop t_X6_come 15) [some (mr 7 20), some (mi x1), some (mi x2)] [mi s0] g = some (some (mi s0), g) := (mEv_1 _ _ _ _).trans rfl
theorem e_X6_come_16 {X : mX} {call : Nat → List mV → mG → mR} {g : mG} {x1 x2 : Int32} : mEv X call 1 t_X6_come (mDrop t_X6_come 16) [some (mr 7 20), some (mi x1), some (mi x2)] [] g = mAns (mEv X call 1 t_X6_come) (mDrop t_X6_come 21) [some (mr 7 20), some (mi x1), some (mi x2)] [] (call 168 [mr 7 20, mi x1] g) := (mEv_3 _ _ _ _).trans rfl
theorem e_X6_come_21 {X : mX} {call : Nat → List mV → mG → mR} {g : mG} {x1 x2 s0 : Int32} : mEv X call 1 t_X6_come (mDrop t_X6_come 21) [some (mr 7 20), some (mi x1), some (mi x2)] [mi s0] g = if s0 = 0 then mEv X call 1 t_X6_come (mDrop t_X6_come 24) [some (mr 7 20), some (mi x1), some (mi x2)] [] g else mEv X call 1 t_X6_come (mDrop t_X6_come 30) [some (mr 7 20), some (mi x1), some (mi x2)] [] g := (mEv_1 _ _ _ _).trans rfl
theorem e_X6_come_24 {X : mX} {call : Nat → List mV → mG → mR} {g : mG} {x1 x2 : Int32} : mEv X call 1 t_X6_come (mDrop t_X6_come 24) [some (mr 7 20), some (mi x1), some (mi x2)] [] g = mAns (mEv X call 1 t_X6_come) (mDrop t_X6_come 29) [some (mr 7 20), some (mi x1), some (mi x2)] [] (call 152 [mr 7 20, mi 2] g) := (mEv_3 _ _ _ _).trans rfl
theorem e_X6_come_29 {X : mX} {call : Nat → List mV → mG → mR} {g : mG} {x1 x2 s0 : Int32} : mEv X call 1 t_X6_come (mDrop t_X6_come 29) [some (mr 7 20), some (mi x1), some (mi x2)] [mi s0] g = some (some (mi s0), g) := (mEv_1 _ _ _ _).trans rfl
theorem e_X6_come_30 {X : mX} {call : Nat → List mV → mG → mR} {g : mG} {x1 x2 : Int32} : mEv X call 1 t_X6_come (mDrop t_X6_come 30) [some (mr 7 20), some (mi x1), some (mi x2)] [] g = mAns (mEv X call 1 t_X6_come) (mDrop t_X6_come 37) [some (mr 7 20), some (mi x1), some (mi x2)] [] (call 165 [mr 7 20, mi x1, mi 12] g) := (mEv_4 _ _ _ _).trans rfl
theorem e_X6_come_37 {X : mX} {call : Nat → List mV → mG → mR} {g : mG} {x1 x2 s0 : Int32} : mEv X call 1 t_X6_come (mDrop t_X6_come 37) [some (mr 7 20), some (mi x1), some (mi x2)] [mi s0] g = if (s0 + x2) ≤ 99 then mEv X call 1 t_X6_come (mDrop t_X6_come 50) [some (mr 7 20), some (mi x1), some (mi x2)] [] g else mEv X call 1 t_X6_come (mDrop t_X6_come 44) [some (mr 7 20), some (mi x1), some (mi x2)] [] g := (mEv_4 _ _ _ _).trans rfl
theorem e_X6_come_50 {X : mX} {call : Nat → List mV → mG → mR} {g : mG} {x1 x2 : Int32} : mEv X call 1 t_X6_come (mDrop t_X6_come 50) [some (mr 7 20), some (mi x1), some (mi x2)] [] g = mAns (mEv X call 1 t_X6_come) (mDrop t_X6_come 61) [some (mr 7 20), some (mi x1), some (mi x2)] [mi 12, mi x1, mr 7 20] (call 165 [mr 7 20, mi x1, mi 12] g) := (mEv_7 _ _ _ _).trans rfl
theorem e_X6_come_61 {X : mX} {call : Nat → List mV → mG → mR} {g : mG} {x1 x2 s1 s2 s3 : Int32} : mEv X call 1 t_X6_come (mDrop t_X6_come 61) [some (mr 7 20), some (mi x1), some (mi x2)] [mi s3, mi s2, mi s1, mr 7 20] g = mAns (mEv X call 1 t_X6_come) (mDrop t_X6_come 66) [some (mr 7 20), some (mi x1), some (mi x2)] [] (call 166 [mr 7 20, mi s1, mi s2, mi (s3 + x2)] g) := (mEv_3 _ _ _ _).trans rfl
theorem e_X6_come_66 {X : mX} {call : Nat → List mV → mG → mR} {g : mG} {x1 x2 : Int32} : mEv X call 1 t_X6_come (mDrop t_X6_come 66) [some (mr 7 20), some (mi x1), some (mi x2)] [] g = mAns (mEv X call 1 t_X6_come) (mDrop t_X6_come 74) [some (mr 7 20), some (mi x1), some (mi x2)] [mr 7 20] (call 165 [mr 7 20, mi x1, mi 12] g) := (mEv_5 _ _ _ _).trans rfl
theorem e_X6_come_74 {X : mX} {call : Nat → List mV → mG → mR} {g : mG} {x1 x2 s1 : Int32} : mEv X call 1 t_X6_come (mDrop t_X6_come 74) [some (mr 7 20), some (mi x1), some (mi x2)] [mi s1, mr 7 20] g = mAns (mEv X call 1 t_X6_come) (mDrop t_X6_come 77) [some (mr 7 20), some (mi x1), some (mi x2)] [] (call 154 [mr 7 20, mi s1] g) := (mEv_1 _ _ _ _).trans rfl
theorem e_X6_come_77 {X : mX} {call : Nat → List mV → mG → mR} {g : mG} {x1 x2 s0 : Int32} : mEv X call 1 t_X6_come (mDrop t_X6_come 77) [some (mr 7 20), some (mi x1), some (mi x2)] [mi s0] g = some (some (mi s0), g) := (mEv_1 _ _ _ _).trans rfl
theorem e_X6_come_44 {X : mX} {call : Nat → List mV → mG → mR} {g : mG} {x1 x2 : Int32} : mEv X call 1 t_X6_come (mDrop t_X6_come 44) [some (mr 7 20), some (mi x1), some (mi x2)] [] g = mAns (mEv X call 1 t_X6_come) (mDrop t_X6_come 49) [some (mr 7 20), some (mi x1), some (mi x2)] [] (call 152 [mr 7 20, mi 3] g) := (mEv_3 _ _ _ _).trans rfl
theorem e_X6_come_49 {X : mX} {call : Nat → List mV → mG → mR} {g : mG} {x1 x2 s0 : Int32} : mEv X call 1 t_X6_come (mDrop t_X6_come 49) [some (mr 7 20), some (mi x1), some (mi x2)] [mi s0] g = some (some (mi s0), g) := (mEv_1 _ _ _ _).trans rfl
noncomputable def P_X6_come (c : mC) (x1 : Int32) (x2 : Int32) : (Option (Int32 × mC)) := (mBd (α := Int32) (P_X6_isFrom x2 1 99) (fun v1 => (if v1 = 0 then (mBo (α := Int32 × mC) none (P_X6_refuse c 1) (fun p2 => (some (p2.1, p2.2)))) else (mBo (α := Int32) none (P_X6_isPhase c x1) (fun v3 => (if v3 = 0 then (mBo (α := Int32 × mC) none (P_X6_refuse c 2) (fun p4 => (some (p4.1, p4.2)))) else (mBo (α := Int32) none (P_X6_ofPhase c x1 12) (fun v5 => (if (v5 + x2) ≤ 99 then (mBo (α := Int32) none (P_X6_ofPhase c x1 12) (fun v6 => (mBo (α := mC) none (P_X6_putsPhase c x1 12 (v6 + x2)) (fun c7 => (mBo (α := Int32) none (P_X6_ofPhase c7 x1 12) (fun v8 => (mBo (α := Int32 × mC) none (P_X6_gives c7 v8) (fun p9 => (some (p9.1, p9.2)))))))))) else (mBo (α := Int32 × mC) none (P_X6_refuse c 3) (fun p10 => (some (p10.1, p10.2)))))))))))))
theorem rr_X6_come (d : Nat) {X : mX} {g : mG} {x1 x2 : Int32} {c : mC} : mCall mD X (d + 3) 247 [mr 7 20, mi x1, mi x2] (mU g 7 c) = (wO (wW g 7)) (P_X6_come c x1 x2) := by
  refine Eq.trans (mCall_eq (d := d + 2) rfl) ?_
  show mEv X (mCall mD X (d + 2)) 1 t_X6_come (mDrop t_X6_come 0) [some (mr 7 20), some (mi x1), some (mi x2)] [] (mU g 7 c) = _
  refine Eq.trans (e_X6_come_0) ?_
  try simp only [mU_same, mU_mU]
  refine mw_cZ (rr_X6_isFrom (d + 1)) rfl (fun v1 hv1 => ?_)
  refine Eq.trans (e_X6_come_7) ?_
  try simp only [mU_same, mU_mU]
  refine mw_ite (fun h13 => ?_) (fun h13 => ?_)
  · refine Eq.trans (e_X6_come_10) ?_
    try simp only [mU_same, mU_mU]
    refine mw_oW ?_ (rr_X6_refuse (d + 1)) (fun p2 => ?_)
    · rfl
    refine Eq.trans (e_X6_come_15) ?_
    try simp only [mU_same, mU_mU]
    all_goals rfl
  · refine Eq.trans (e_X6_come_16) ?_
    try simp only [mU_same, mU_mU]
    refine mw_oZ ?_ (rr_X6_isPhase d) rfl (fun v3 hv3 => ?_)
    · rfl
    refine Eq.trans (e_X6_come_21) ?_
    try simp only [mU_same, mU_mU]
    refine mw_ite (fun h12 => ?_) (fun h12 => ?_)
    · refine Eq.trans (e_X6_come_24) ?_
      try simp only [mU_same, mU_mU]
      refine mw_oW ?_ (rr_X6_refuse (d + 1)) (fun p4 => ?_)
      · rfl
      refine Eq.trans (e_X6_come_29) ?_
      try simp only [mU_same, mU_mU]
      all_goals rfl
    · refine Eq.trans (e_X6_come_30) ?_
      try simp only [mU_same, mU_mU]
      refine mw_oI ?_ (rr_X6_ofPhase d) (fun v5 => ?_)
      · rfl
      refine Eq.trans (e_X6_come_37) ?_
      try simp only [mU_same, mU_mU]
      refine mw_ite (fun h11 => ?_) (fun h11 => ?_)
      · refine Eq.trans (e_X6_come_50) ?_
        try simp only [mU_same, mU_mU]
        refine mw_oI ?_ (rr_X6_ofPhase d) (fun v6 => ?_)
        · rfl
        refine Eq.trans (e_X6_come_61) ?_
        try simp only [mU_same, mU_mU]
        refine mw_oV ?_ (rr_X6_putsPhase d) (fun c7 => ?_)
        · rfl
        refine Eq.trans (e_X6_come_66) ?_
        try simp only [mU_same, mU_mU]
        refine mw_oI ?_ (rr_X6_ofPhase d) (fun v8 => ?_)
        · rfl
        refine Eq.trans (e_X6_come_74) ?_
        try simp only [mU_same, mU_mU]
        refine mw_oW ?_ (rr_X6_gives (d + 1)) (fun p9 => ?_)
        · rfl
        refine Eq.trans (e_X6_come_77) ?_
        try simp only [mU_same, mU_mU]
        all_goals rfl
      · refine Eq.trans (e_X6_come_44) ?_
        try simp only [mU_same, mU_mU]
        refine mw_oW ?_ (rr_X6_refuse (d + 1)) (fun p10 => ?_)
        · rfl
        refine Eq.trans (e_X6_come_49) ?_
        try simp only [mU_same, mU_mU]
        all_goals rfl
theorem rr_X6_come_at (d : Nat) {X : mX} {g : mG} {x1 x2 : Int32} : mCall mD X (d + 3) 247 [mr 7 20, mi x1, mi x2] g = wO (wW g 7) (P_X6_come (g 7) x1 x2) := by
  have h := rr_X6_come (X := X) d (g := g) (c := g 7) (x1 := x1) (x2 := x2)
  rw [mU_self] at h
  exact h
theorem e_X6_isWanted_0 {X : mX} {call : Nat → List mV → mG → mR} {g : mG} {x1 x2 : Int32} : mEv X call 2 t_X6_isWanted (mDrop t_X6_isWanted 0) [some (mr 7 20), some (mi x1), some (mi x2)] [] g = mAns (mEv X call 2 t_X6_isWanted) (mDrop t_X6_isWanted 6) [some (mr 7 20), some (mi x1), some (mi x2)] [] (call 155 [mi x1, mi 0, mi 1] g) := (mEv_4 _ _ _ _).trans rfl
theorem e_X6_isWanted_6 {X : mX} {call : Nat → List mV → mG → mR} {g : mG} {x1 x2 s0 : Int32} : mEv X call 2 t_X6_isWanted (mDrop t_X6_isWanted 6) [some (mr 7 20), some (mi x1), some (mi x2)] [mi s0] g = if s0 = 0 then mEv X call 2 t_X6_isWanted (mDrop t_X6_isWanted 9) [some (mr 7 20), some (mi x1), some (mi x2)] [] g else mEv X call 2 t_X6_isWanted (mDrop t_X6_isWanted 15) [some (mr 7 20), some (mi x1), some (mi x2)] [] g := (mEv_1 _ _ _ _).trans rfl
theorem e_X6_isWanted_9 {X : mX} {call : Nat → List mV → mG → mR} {g : mG} {x1 x2 : Int32} : mEv X call 2 t_X6_isWanted (mDrop t_X6_isWanted 9) [some (mr 7 20), some (mi x1), some (mi x2)] [] g = mAns (mEv X call 2 t_X6_isWanted) (mDrop t_X6_isWanted 14) [some (mr 7 20), some (mi x1), some (mi x2)] [] (call 153 [mr 7 20, mi 2] g) := (mEv_3 _ _ _ _).trans rfl
theorem e_X6_isWanted_14 {X : mX} {call : Nat → List mV → mG → mR} {g : mG} {x1 x2 s0 : Int32} : mEv X call 2 t_X6_isWanted (mDrop t_X6_isWanted 14) [some (mr 7 20), some (mi x1), some (mi x2)] [mi s0] g = if (s0 : Int32) &&& 1 = s0 then some (some (mi s0), g) else none := (mEv_1 _ _ _ _).trans rfl
theorem e_X6_isWanted_15 {X : mX} {call : Nat → List mV → mG → mR} {g : mG} {x1 x2 : Int32} : mEv X call 2 t_X6_isWanted (mDrop t_X6_isWanted 15) [some (mr 7 20), some (mi x1), some (mi x2)] [] g = mAns (mEv X call 2 t_X6_isWanted) (mDrop t_X6_isWanted 21) [some (mr 7 20), some (mi x1), some (mi x2)] [] (call 158 [mr 7 20, mi 10] g) := (mEv_3 _ _ _ _).trans rfl
theorem e_X6_isWanted_21 {X : mX} {call : Nat → List mV → mG → mR} {g : mG} {x1 x2 s0 : Int32} : mEv X call 2 t_X6_isWanted (mDrop t_X6_isWanted 21) [some (mr 7 20), some (mi x1), some (mi x2)] [mi s0] g = mAns (mEv X call 2 t_X6_isWanted) (mDrop t_X6_isWanted 25) [some (mr 7 20), some (mi x1), some (mi x2)] [] (call 156 [mi s0, mi x1] g) := (mEv_2 _ _ _ _).trans rfl
theorem e_X6_isWanted_25 {X : mX} {call : Nat → List mV → mG → mR} {g : mG} {x1 x2 s0 : Int32} : mEv X call 2 t_X6_isWanted (mDrop t_X6_isWanted 25) [some (mr 7 20), some (mi x1), some (mi x2)] [mi s0] g = if s0 = x2 then mEv X call 2 t_X6_isWanted (mDrop t_X6_isWanted 29) [some (mr 7 20), some (mi x1), some (mi x2)] [] g else mEv X call 2 t_X6_isWanted (mDrop t_X6_isWanted 35) [some (mr 7 20), some (mi x1), some (mi x2)] [] g := (mEv_2 _ _ _ _).trans rfl
theorem e_X6_isWanted_29 {X : mX} {call : Nat → List mV → mG → mR} {g : mG} {x1 x2 : Int32} : mEv X call 2 t_X6_isWanted (mDrop t_X6_isWanted 29) [some (mr 7 20), some (mi x1), some (mi x2)] [] g = mAns (mEv X call 2 t_X6_isWanted) (mDrop t_X6_isWanted 34) [some (mr 7 20), some (mi x1), some (mi x2)] [] (call 153 [mr 7 20, mi 4] g) := (mEv_3 _ _ _ _).trans rfl
theorem e_X6_isWanted_34 {X : mX} {call : Nat → List mV → mG → mR} {g : mG} {x1 x2 s0 : Int32} : mEv X call 2 t_X6_isWanted (mDrop t_X6_isWanted 34) [some (mr 7 20), some (mi x1), some (mi x2)] [mi s0] g = if (s0 : Int32) &&& 1 = s0 then some (some (mi s0), g) else none := (mEv_1 _ _ _ _).trans rfl
theorem e_X6_isWanted_35 {X : mX} {call : Nat → List mV → mG → mR} {g : mG} {x1 x2 : Int32} : mEv X call 2 t_X6_isWanted (mDrop t_X6_isWanted 35) [some (mr 7 20), some (mi x1), some (mi x2)] [] g = mAns (mEv X call 2 t_X6_isWanted) (mDrop t_X6_isWanted 44) [some (mr 7 20), some (mi x1), some (mi x2)] [mi 10, mr 7 20] (call 158 [mr 7 20, mi 10] g) := (mEv_5 _ _ _ _).trans rfl
theorem e_X6_isWanted_44 {X : mX} {call : Nat → List mV → mG → mR} {g : mG} {x1 x2 s1 s2 : Int32} : mEv X call 2 t_X6_isWanted (mDrop t_X6_isWanted 44) [some (mr 7 20), some (mi x1), some (mi x2)] [mi s2, mi s1, mr 7 20] g = mAns (mEv X call 2 t_X6_isWanted) (mDrop t_X6_isWanted 51) [some (mr 7 20), some (mi x1), some (mi x2)] [] (call 159 [mr 7 20, mi s1, mi (s2 ^^^ ((1 : Int32) <<< (x1 &&& 31)))] g) := (mEv_5 _ _ _ _).trans rfl
theorem e_X6_isWanted_51 {X : mX} {call : Nat → List mV → mG → mR} {g : mG} {x1 x2 : Int32} : mEv X call 2 t_X6_isWanted (mDrop t_X6_isWanted 51) [some (mr 7 20), some (mi x1), some (mi x2)] [] g = mAns (mEv X call 2 t_X6_isWanted) (mDrop t_X6_isWanted 56) [some (mr 7 20), some (mi x1), some (mi x2)] [] (call 153 [mr 7 20, mi 0] g) := (mEv_3 _ _ _ _).trans rfl
theorem e_X6_isWanted_56 {X : mX} {call : Nat → List mV → mG → mR} {g : mG} {x1 x2 s0 : Int32} : mEv X call 2 t_X6_isWanted (mDrop t_X6_isWanted 56) [some (mr 7 20), some (mi x1), some (mi x2)] [mi s0] g = if (s0 : Int32) &&& 1 = s0 then some (some (mi s0), g) else none := (mEv_1 _ _ _ _).trans rfl
noncomputable def P_X6_isWanted (c : mC) (x1 : Int32) (x2 : Int32) : (Option (Int32 × mC)) := (mBd (α := Int32) (P_X6_isFrom x1 0 1) (fun v1 => (if v1 = 0 then (mBo (α := Int32 × mC) none (P_X6_isSo c 2) (fun p2 => (some (p2.1, p2.2)))) else (mBo (α := Int32) none (P_X6_of c 10) (fun v3 => (mBd (α := Int32) (P_X6_has v3 x1) (fun v4 => (if v4 = x2 then (mBo (α := Int32 × mC) none (P_X6_isSo c 4) (fun p5 => (some (p5.1, p5.2)))) else (mBo (α := Int32) none (P_X6_of c 10) (fun v6 => (mBo (α := mC) none (P_X6_puts c 10 (v6 ^^^ ((1 : Int32) <<< (x1 &&& 31)))) (fun c7 => (mBo (α := Int32 × mC) none (P_X6_isSo c7 0) (fun p8 => (some (p8.1, p8.2))))))))))))))))
theorem rr_X6_isWanted (d : Nat) {X : mX} {g : mG} {x1 x2 : Int32} {c : mC} : mCall mD X (d + 2) 248 [mr 7 20, mi x1, mi x2] (mU g 7 c) = (wO (wW g 7)) (P_X6_isWanted c x1 x2) := by
  refine Eq.trans (mCall_eq (d := d + 1) rfl) ?_
  show mEv X (mCall mD X (d + 1)) 2 t_X6_isWanted (mDrop t_X6_isWanted 0) [some (mr 7 20), some (mi x1), some (mi x2)] [] (mU g 7 c) = _
  refine Eq.trans (e_X6_isWanted_0) ?_
  try simp only [mU_same, mU_mU]
  refine mw_cZ (rr_X6_isFrom d) rfl (fun v1 hv1 => ?_)
  refine Eq.trans (e_X6_isWanted_6) ?_
  try simp only [mU_same, mU_mU]
  refine mw_ite (fun h10 => ?_) (fun h10 => ?_)
  · refine Eq.trans (e_X6_isWanted_9) ?_
    try simp only [mU_same, mU_mU]
    refine mw_oY ?_ (rr_X6_isSo d) rfl (fun p2 hp2 => ?_)
    · rfl
    refine Eq.trans (e_X6_isWanted_14) ?_
    try simp only [mU_same, mU_mU]
    exact if_pos hp2
  · refine Eq.trans (e_X6_isWanted_15) ?_
    try simp only [mU_same, mU_mU]
    refine mw_oI ?_ (rr_X6_of d) (fun v3 => ?_)
    · rfl
    refine Eq.trans (e_X6_isWanted_21) ?_
    try simp only [mU_same, mU_mU]
    refine mw_cZ (rr_X6_has d) rfl (fun v4 hv4 => ?_)
    refine Eq.trans (e_X6_isWanted_25) ?_
    try simp only [mU_same, mU_mU]
    refine mw_ite (fun h9 => ?_) (fun h9 => ?_)
    · refine Eq.trans (e_X6_isWanted_29) ?_
      try simp only [mU_same, mU_mU]
      refine mw_oY ?_ (rr_X6_isSo d) rfl (fun p5 hp5 => ?_)
      · rfl
      refine Eq.trans (e_X6_isWanted_34) ?_
      try simp only [mU_same, mU_mU]
      exact if_pos hp5
    · refine Eq.trans (e_X6_isWanted_35) ?_
      try simp only [mU_same, mU_mU]
      refine mw_oI ?_ (rr_X6_of d) (fun v6 => ?_)
      · rfl
      refine Eq.trans (e_X6_isWanted_44) ?_
      try simp only [mU_same, mU_mU]
      refine mw_oV ?_ (rr_X6_puts d) (fun c7 => ?_)
      · rfl
      refine Eq.trans (e_X6_isWanted_51) ?_
      try simp only [mU_same, mU_mU]
      refine mw_oY ?_ (rr_X6_isSo d) rfl (fun p8 hp8 => ?_)
      · rfl
      refine Eq.trans (e_X6_isWanted_56) ?_
      try simp only [mU_same, mU_mU]
      exact if_pos hp8
theorem rr_X6_isWanted_at (d : Nat) {X : mX} {g : mG} {x1 x2 : Int32} : mCall mD X (d + 2) 248 [mr 7 20, mi x1, mi x2] g = wO (wW g 7) (P_X6_isWanted (g 7) x1 x2) := by
  have h := rr_X6_isWanted (X := X) d (g := g) (c := g 7) (x1 := x1) (x2 := x2)
  rw [mU_self] at h
  exact h
theorem e_X6_ask_0 {X : mX} {call : Nat → List mV → mG → mR} {g : mG} {x1 : Int32} : mEv X call 2 t_X6_ask (mDrop t_X6_ask 0) [some (mr 7 20), some (mi x1)] [] g = mAns (mEv X call 2 t_X6_ask) (mDrop t_X6_ask 6) [some (mr 7 20), some (mi x1)] [] (call 248 [mr 7 20, mi x1, mi 1] g) := (mEv_4 _ _ _ _).trans rfl
theorem e_X6_ask_6 {X : mX} {call : Nat → List mV → mG → mR} {g : mG} {x1 s0 : Int32} : mEv X call 2 t_X6_ask (mDrop t_X6_ask 6) [some (mr 7 20), some (mi x1)] [mi s0] g = if (s0 : Int32) &&& 1 = s0 then some (some (mi s0), g) else none := (mEv_1 _ _ _ _).trans rfl
noncomputable def P_X6_ask (c : mC) (x1 : Int32) : (Option (Int32 × mC)) := (mBo (α := Int32 × mC) none (P_X6_isWanted c x1 1) (fun p1 => (some (p1.1, p1.2))))
theorem rr_X6_ask (d : Nat) {X : mX} {g : mG} {x1 : Int32} {c : mC} : mCall mD X (d + 3) 249 [mr 7 20, mi x1] (mU g 7 c) = (wO (wW g 7)) (P_X6_ask c x1) := by
  refine Eq.trans (mCall_eq (d := d + 2) rfl) ?_
  show mEv X (mCall mD X (d + 2)) 2 t_X6_ask (mDrop t_X6_ask 0) [some (mr 7 20), some (mi x1)] [] (mU g 7 c) = _
  refine Eq.trans (e_X6_ask_0) ?_
  try simp only [mU_same, mU_mU]
  refine mw_oY ?_ (rr_X6_isWanted d) rfl (fun p1 hp1 => ?_)
  · rfl
  refine Eq.trans (e_X6_ask_6) ?_
  try simp only [mU_same, mU_mU]
  exact if_pos hp1
theorem rr_X6_ask_at (d : Nat) {X : mX} {g : mG} {x1 : Int32} : mCall mD X (d + 3) 249 [mr 7 20, mi x1] g = wO (wW g 7) (P_X6_ask (g 7) x1) := by
  have h := rr_X6_ask (X := X) d (g := g) (c := g 7) (x1 := x1)
  rw [mU_self] at h
  exact h
theorem e_X6_let_0 {X : mX} {call : Nat → List mV → mG → mR} {g : mG} {x1 : Int32} : mEv X call 2 t_X6_let (mDrop t_X6_let 0) [some (mr 7 20), some (mi x1)] [] g = mAns (mEv X call 2 t_X6_let) (mDrop t_X6_let 6) [some (mr 7 20), some (mi x1)] [] (call 248 [mr 7 20, mi x1, mi 0] g) := (mEv_4 _ _ _ _).trans rfl
theorem e_X6_let_6 {X : mX} {call : Nat → List mV → mG → mR} {g : mG} {x1 s0 : Int32} : mEv X call 2 t_X6_let (mDrop t_X6_let 6) [some (mr 7 20), some (mi x1)] [mi s0] g = if (s0 : Int32) &&& 1 = s0 then some (some (mi s0), g) else none := (mEv_1 _ _ _ _).trans rfl
noncomputable def P_X6_let (c : mC) (x1 : Int32) : (Option (Int32 × mC)) := (mBo (α := Int32 × mC) none (P_X6_isWanted c x1 0) (fun p1 => (some (p1.1, p1.2))))
theorem rr_X6_let (d : Nat) {X : mX} {g : mG} {x1 : Int32} {c : mC} : mCall mD X (d + 3) 250 [mr 7 20, mi x1] (mU g 7 c) = (wO (wW g 7)) (P_X6_let c x1) := by
  refine Eq.trans (mCall_eq (d := d + 2) rfl) ?_
  show mEv X (mCall mD X (d + 2)) 2 t_X6_let (mDrop t_X6_let 0) [some (mr 7 20), some (mi x1)] [] (mU g 7 c) = _
  refine Eq.trans (e_X6_let_0) ?_
  try simp only [mU_same, mU_mU]
  refine mw_oY ?_ (rr_X6_isWanted d) rfl (fun p1 hp1 => ?_)
  · rfl
  refine Eq.trans (e_X6_let_6) ?_
  try simp only [mU_same, mU_mU]
  exact if_pos hp1
theorem rr_X6_let_at (d : Nat) {X : mX} {g : mG} {x1 : Int32} : mCall mD X (d + 3) 250 [mr 7 20, mi x1] g = wO (wW g 7) (P_X6_let (g 7) x1) := by
  have h := rr_X6_let (X := X) d (g := g) (c := g 7) (x1 := x1)
  rw [mU_self] at h
  exact h
theorem e_X6_isSet_0 {X : mX} {call : Nat → List mV → mG → mR} {g : mG} {x1 : Int32} : mEv X call 2 t_X6_isSet (mDrop t_X6_isSet 0) [some (mr 7 20), some (mi x1)] [] g = if x1 < 0 then mEv X call 2 t_X6_isSet (mDrop t_X6_isSet 18) [some (mr 7 20), some (mi x1)] [] g else mEv X call 2 t_X6_isSet (mDrop t_X6_isSet 4) [some (mr 7 20), some (mi x1)] [] g := (mEv_2 _ _ _ _).trans rfl
theorem e_X6_isSet_18 {X : mX} {call : Nat → List mV → mG → mR} {g : mG} {x1 : Int32} : mEv X call 2 t_X6_isSet (mDrop t_X6_isSet 18) [some (mr 7 20), some (mi x1)] [] g = mEv X call 2 t_X6_isSet (mDrop t_X6_isSet 19) [some (mr 7 20), some (mi x1)] [mi 0] g := (mEv_1 _ _ _ _).trans rfl
theorem e_X6_isSet_19 {X : mX} {call : Nat → List mV → mG → mR} {g : mG} {x1 s0 : Int32} : mEv X call 2 t_X6_isSet (mDrop t_X6_isSet 19) [some (mr 7 20), some (mi x1)] [mi s0] g = if (s0 : Int32) &&& 1 = s0 then some (some (mi s0), g) else none := (mEv_1 _ _ _ _).trans rfl
noncomputable def J_X6_isSet_18 (c : mC) : (Option (Int32)) := (some 0)
theorem rj_X6_isSet_18 (d : Nat) {X : mX} {g : mG} {x1 : Int32} {c : mC} : mEv X (mCall mD X (d + 1)) 2 t_X6_isSet (mDrop t_X6_isSet 18) [some (mr 7 20), some (mi x1)] [] (mU g 7 c) = (wO (wI g 7 c)) (J_X6_isSet_18 c) := by
  refine Eq.trans (e_X6_isSet_18) ?_
  try simp only [mU_same, mU_mU]
  refine Eq.trans (e_X6_isSet_19) ?_
  try simp only [mU_same, mU_mU]
  exact if_pos (by decide)
theorem e_X6_isSet_4 {X : mX} {call : Nat → List mV → mG → mR} {g : mG} {x1 : Int32} : mEv X call 2 t_X6_isSet (mDrop t_X6_isSet 4) [some (mr 7 20), some (mi x1)] [] g = mAns (mEv X call 2 t_X6_isSet) (mDrop t_X6_isSet 10) [some (mr 7 20), some (mi x1)] [mi x1] (call 158 [mr 7 20, mi 0] g) := (mEv_4 _ _ _ _).trans rfl
theorem e_X6_isSet_10 {X : mX} {call : Nat → List mV → mG → mR} {g : mG} {x1 s0 s1 : Int32} : mEv X call 2 t_X6_isSet (mDrop t_X6_isSet 10) [some (mr 7 20), some (mi x1)] [mi s1, mi s0] g = if (s0 >>> (s1 &&& 31)) = 0 then mEv X call 2 t_X6_isSet (mDrop t_X6_isSet 14) [some (mr 7 20), some (mi x1)] [] g else mEv X call 2 t_X6_isSet (mDrop t_X6_isSet 18) [some (mr 7 20), some (mi x1)] [] g := (mEv_2 _ _ _ _).trans rfl
theorem e_X6_isSet_14 {X : mX} {call : Nat → List mV → mG → mR} {g : mG} {x1 : Int32} : mEv X call 2 t_X6_isSet (mDrop t_X6_isSet 14) [some (mr 7 20), some (mi x1)] [] g = mEv X call 2 t_X6_isSet (mDrop t_X6_isSet 19) [some (mr 7 20), some (mi x1)] [mi 1] g := (mEv_2 _ _ _ _).trans rfl
noncomputable def P_X6_isSet (c : mC) (x1 : Int32) : (Option (Int32)) := (if x1 < 0 then (J_X6_isSet_18 c) else (mBo (α := Int32) none (P_X6_of c 0) (fun v1 => (if (x1 >>> (v1 &&& 31)) = 0 then (some 1) else (J_X6_isSet_18 c)))))
theorem rr_X6_isSet (d : Nat) {X : mX} {g : mG} {x1 : Int32} {c : mC} : mCall mD X (d + 2) 251 [mr 7 20, mi x1] (mU g 7 c) = (wO (wI g 7 c)) (P_X6_isSet c x1) := by
  refine Eq.trans (mCall_eq (d := d + 1) rfl) ?_
  show mEv X (mCall mD X (d + 1)) 2 t_X6_isSet (mDrop t_X6_isSet 0) [some (mr 7 20), some (mi x1)] [] (mU g 7 c) = _
  refine Eq.trans (e_X6_isSet_0) ?_
  try simp only [mU_same, mU_mU]
  refine mw_ite (fun h3 => ?_) (fun h3 => ?_)
  · exact rj_X6_isSet_18 d
  · refine Eq.trans (e_X6_isSet_4) ?_
    try simp only [mU_same, mU_mU]
    refine mw_oI ?_ (rr_X6_of d) (fun v1 => ?_)
    · rfl
    refine Eq.trans (e_X6_isSet_10) ?_
    try simp only [mU_same, mU_mU]
    refine mw_ite (fun h2 => ?_) (fun h2 => ?_)
    · refine Eq.trans (e_X6_isSet_14) ?_
      try simp only [mU_same, mU_mU]
      refine Eq.trans (e_X6_isSet_19) ?_
      try simp only [mU_same, mU_mU]
      exact if_pos (by decide)
    · exact rj_X6_isSet_18 d
theorem rr_X6_isSet_at (d : Nat) {X : mX} {g : mG} {x1 : Int32} : mCall mD X (d + 2) 251 [mr 7 20, mi x1] g = wO (wN g) (P_X6_isSet (g 7) x1) := by
  have h := rr_X6_isSet (X := X) d (g := g) (c := g 7) (x1 := x1)
  rw [mU_self] at h
  exact h.trans (wOI_self _ _ _)
theorem e_X6_brakes_0 {X : mX} {call : Nat → List mV → mG → mR} {g : mG} {x1 x2 x3 x4 x5 x6 : Int32} : mEv X call 2 t_X6_brakes (mDrop t_X6_brakes 0) [some (mr 7 20), some (mi x1), some (mi x2), some (mi x3), some (mi x4), some (mi x5), some (mi x6), none] [] g = mAns (mEv X call 2 t_X6_brakes) (mDrop t_X6_brakes 5) [some (mr 7 20), some (mi x1), some (mi x2), some (mi x3), some (mi x4), some (mi x5), some (mi x6), none] [] (call 251 [mr 7 20, mi x2] g) := (mEv_3 _ _ _ _).trans rfl
theorem e_X6_brakes_5 {X : mX} {call : Nat → List mV → mG → mR} {g : mG} {x1 x2 x3 x4 x5 x6 s0 : Int32} : mEv X call 2 t_X6_brakes (mDrop t_X6_brakes 5) [some (mr 7 20), some (mi x1), some (mi x2), some (mi x3), some (mi x4), some (mi x5), some (mi x6), none] [mi s0] g = if s0 = 0 then mEv X call 2 t_X6_brakes (mDrop t_X6_brakes 49) [some (mr 7 20), some (mi x1), some (mi x2), some (mi x3), some (mi x4), some (mi x5), some (mi x6), none] [] g else mEv X call 2 t_X6_brakes (mDrop t_X6_brakes 8) [some (mr 7 20), some (mi x1), some (mi x2), some (mi x3), some (mi x4), some (mi x5), some (mi x6), none] [] g := (mEv_1 _ _ _ _).trans rfl
theorem e_X6_brakes_49 {X : mX} {call : Nat → List mV → mG → mR} {g : mG} {x1 x2 x3 x4 x5 x6 : Int32} : mEv X call 2 t_X6_brakes (mDrop t_X6_brakes 49) [some (mr 7 20), some (mi x1), some (mi x2), some (mi x3), some (mi x4), some (mi x5), some (mi x6), none] [] g = mAns (mEv X call 2 t_X6_brakes) (mDrop t_X6_brakes 54) [some (mr 7 20), some (mi x1), some (mi x2), some (mi x3), some (mi x4), some (mi x5), some (mi x6), none] [] (call 153 [mr 7 20, mi 1] g) := (mEv_3 _ _ _ _).trans rfl
theorem e_X6_brakes_54 {X : mX} {call : Nat → List mV → mG → mR} {g : mG} {x1 x2 x3 x4 x5 x6 s0 : Int32} : mEv X call 2 t_X6_brakes (mDrop t_X6_brakes 54) [some (mr 7 20), some (mi x1), some (mi x2), some (mi x3), some (mi x4), some (mi x5), some (mi x6), none] [mi s0] g = if (s0 : Int32) &&& 1 = s0 then some (some (mi s0), g) else none := (mEv_1 _ _ _ _).trans rfl
noncomputable def J_X6_brakes_49 (c : mC) : (Option (Int32 × mC)) := (mBo (α := Int32 × mC) none (P_X6_isSo c 1) (fun p1 => (some (p1.1, p1.2))))
theorem rj_X6_brakes_49 (d : Nat) {X : mX} {g : mG} {x1 x2 x3 x4 x5 x6 : Int32} {c : mC} : mEv X (mCall mD X (d + 5)) 2 t_X6_brakes (mDrop t_X6_brakes 49) [some (mr 7 20), some (mi x1), some (mi x2), some (mi x3), some (mi x4), some (mi x5), some (mi x6), none] [] (mU g 7 c) = (wO (wW g 7)) (J_X6_brakes_49 c) := by
  refine Eq.trans (e_X6_brakes_49) ?_
  try simp only [mU_same, mU_mU]
  refine mw_oY ?_ (rr_X6_isSo (d + 4)) rfl (fun p1 hp1 => ?_)
  · rfl
  refine Eq.trans (e_X6_brakes_54) ?_
  try simp only [mU_same, mU_mU]
  exact if_pos hp1
theorem e_X6_brakes_8 {X : mX} {call : Nat → List mV → mG → mR} {g : mG} {x1 x2 x3 x4 x5 x6 : Int32} : mEv X call 2 t_X6_brakes (mDrop t_X6_brakes 8) [some (mr 7 20), some (mi x1), some (mi x2), some (mi x3), some (mi x4), some (mi x5), some (mi x6), none] [] g = mAns (mEv X call 2 t_X6_brakes) (mDrop t_X6_brakes 14) [some (mr 7 20), some (mi x1), some (mi x2), some (mi x3), some (mi x4), some (mi x5), some (mi x6), none] [] (call 251 [mr 7 20, mi x4] g) := (mEv_3 _ _ _ _).trans rfl
theorem e_X6_brakes_14 {X : mX} {call : Nat → List mV → mG → mR} {g : mG} {x1 x2 x3 x4 x5 x6 s0 : Int32} : mEv X call 2 t_X6_brakes (mDrop t_X6_brakes 14) [some (mr 7 20), some (mi x1), some (mi x2), some (mi x3), some (mi x4), some (mi x5), some (mi x6), none] [mi s0] g = if s0 = 0 then mEv X call 2 t_X6_brakes (mDrop t_X6_brakes 49) [some (mr 7 20), some (mi x1), some (mi x2), some (mi x3), some (mi x4), some (mi x5), some (mi x6), none] [] g else mEv X call 2 t_X6_brakes (mDrop t_X6_brakes 17) [some (mr 7 20), some (mi x1), some (mi x2), some (mi x3), some (mi x4), some (mi x5), some (mi x6), none] [] g := (mEv_1 _ _ _ _).trans rfl
theorem e_X6_brakes_17 {X : mX} {call : Nat → List mV → mG → mR} {g : mG} {x1 x2 x3 x4 x5 x6 : Int32} : mEv X call 2 t_X6_brakes (mDrop t_X6_brakes 17) [some (mr 7 20), some (mi x1), some (mi x2), some (mi x3), some (mi x4), some (mi x5), some (mi x6), none] [] g = mAns (mEv X call 2 t_X6_brakes) (mDrop t_X6_brakes 24) [some (mr 7 20), some (mi x1), some (mi x2), some (mi x3), some (mi x4), some (mi x5), some (mi x6), none] [] (call 155 [mi x3, mi 0, mi 30] g) := (mEv_4 _ _ _ _).trans rfl
theorem e_X6_brakes_24 {X : mX} {call : Nat → List mV → mG → mR} {g : mG} {x1 x2 x3 x4 x5 x6 s0 : Int32} : mEv X call 2 t_X6_brakes (mDrop t_X6_brakes 24) [some (mr 7 20), some (mi x1), some (mi x2), some (mi x3), some (mi x4), some (mi x5), some (mi x6), none] [mi s0] g = if s0 = 0 then mEv X call 2 t_X6_brakes (mDrop t_X6_brakes 49) [some (mr 7 20), some (mi x1), some (mi x2), some (mi x3), some (mi x4), some (mi x5), some (mi x6), none] [] g else mEv X call 2 t_X6_brakes (mDrop t_X6_brakes 27) [some (mr 7 20), some (mi x1), some (mi x2), some (mi x3), some (mi x4), some (mi x5), some (mi x6), none] [] g := (mEv_1 _ _ _ _).trans rfl
theorem e_X6_brakes_27 {X : mX} {call : Nat → List mV → mG → mR} {g : mG} {x1 x2 x3 x4 x5 x6 : Int32} : mEv X call 2 t_X6_brakes (mDrop t_X6_brakes 27) [some (mr 7 20), some (mi x1), some (mi x2), some (mi x3), some (mi x4), some (mi x5), some (mi x6), none] [] g = mAns (mEv X call 2 t_X6_brakes) (mDrop t_X6_brakes 35) [some (mr 7 20), some (mi x1), some (mi x2), some (mi x3), some (mi x4), some (mi x5), some (mi x6), none] [] (call 155 [mi x5, mi 0, mi 30] g) := (mEv_4 _ _ _ _).trans rfl
theorem e_X6_brakes_35 {X : mX} {call : Nat → List mV → mG → mR} {g : mG} {x1 x2 x3 x4 x5 x6 s0 : Int32} : mEv X call 2 t_X6_brakes (mDrop t_X6_brakes 35) [some (mr 7 20), some (mi x1), some (mi x2), some (mi x3), some (mi x4), some (mi x5), some (mi x6), none] [mi s0] g = if s0 = 0 then mEv X call 2 t_X6_brakes (mDrop t_X6_brakes 49) [some (mr 7 20), some (mi x1), some (mi x2), some (mi x3), some (mi x4), some (mi x5), some (mi x6), none] [] g else mEv X call 2 t_X6_brakes (mDrop t_X6_brakes 38) [some (mr 7 20), some (mi x1), some (mi x2), some (mi x3), some (mi x4), some (mi x5), some (mi x6), none] [] g := (mEv_1 _ _ _ _).trans rfl
theorem e_X6_brakes_38 {X : mX} {call : Nat → List mV → mG → mR} {g : mG} {x1 x2 x3 x4 x5 x6 : Int32} : mEv X call 2 t_X6_brakes (mDrop t_X6_brakes 38) [some (mr 7 20), some (mi x1), some (mi x2), some (mi x3), some (mi x4), some (mi x5), some (mi x6), none] [] g = mAns (mEv X call 2 t_X6_brakes) (mDrop t_X6_brakes 46) [some (mr 7 20), some (mi x1), some (mi x2), some (mi x3), some (mi x4), some (mi x5), some (mi x6), none] [] (call 155 [mi x6, mi 0, mi 20] g) := (mEv_4 _ _ _ _).trans rfl
theorem e_X6_brakes_46 {X : mX} {call : Nat → List mV → mG → mR} {g : mG} {x1 x2 x3 x4 x5 x6 s0 : Int32} : mEv X call 2 t_X6_brakes (mDrop t_X6_brakes 46) [some (mr 7 20), some (mi x1), some (mi x2), some (mi x3), some (mi x4), some (mi x5), some (mi x6), none] [mi s0] g = if s0 = 0 then mEv X call 2 t_X6_brakes (mDrop t_X6_brakes 49) [some (mr 7 20), some (mi x1), some (mi x2), some (mi x3), some (mi x4), some (mi x5), some (mi x6), none] [] g else mEv X call 2 t_X6_brakes (mDrop t_X6_brakes 55) [some (mr 7 20), some (mi x1), some (mi x2), some (mi x3), some (mi x4), some (mi x5), some (mi x6), none] [] g := (mEv_1 _ _ _ _).trans rfl
theorem e_X6_brakes_55 {X : mX} {call : Nat → List mV → mG → mR} {g : mG} {x1 x2 x3 x4 x5 x6 : Int32} : mEv X call 2 t_X6_brakes (mDrop t_X6_brakes 55) [some (mr 7 20), some (mi x1), some (mi x2), some (mi x3), some (mi x4), some (mi x5), some (mi x6), none] [] g = mAns (mEv X call 2 t_X6_brakes) (mDrop t_X6_brakes 61) [some (mr 7 20), some (mi x1), some (mi x2), some (mi x3), some (mi x4), some (mi x5), some (mi x6), none] [] (call 155 [mi x1, mi 0, mi 1] g) := (mEv_4 _ _ _ _).trans rfl
theorem e_X6_brakes_61 {X : mX} {call : Nat → List mV → mG → mR} {g : mG} {x1 x2 x3 x4 x5 x6 s0 : Int32} : mEv X call 2 t_X6_brakes (mDrop t_X6_brakes 61) [some (mr 7 20), some (mi x1), some (mi x2), some (mi x3), some (mi x4), some (mi x5), some (mi x6), none] [mi s0] g = if s0 = 0 then mEv X call 2 t_X6_brakes (mDrop t_X6_brakes 64) [some (mr 7 20), some (mi x1), some (mi x2), some (mi x3), some (mi x4), some (mi x5), some (mi x6), none] [] g else mEv X call 2 t_X6_brakes (mDrop t_X6_brakes 70) [some (mr 7 20), some (mi x1), some (mi x2), some (mi x3), some (mi x4), some (mi x5), some (mi x6), none] [] g := (mEv_1 _ _ _ _).trans rfl
theorem e_X6_brakes_64 {X : mX} {call : Nat → List mV → mG → mR} {g : mG} {x1 x2 x3 x4 x5 x6 : Int32} : mEv X call 2 t_X6_brakes (mDrop t_X6_brakes 64) [some (mr 7 20), some (mi x1), some (mi x2), some (mi x3), some (mi x4), some (mi x5), some (mi x6), none] [] g = mAns (mEv X call 2 t_X6_brakes) (mDrop t_X6_brakes 69) [some (mr 7 20), some (mi x1), some (mi x2), some (mi x3), some (mi x4), some (mi x5), some (mi x6), none] [] (call 153 [mr 7 20, mi 2] g) := (mEv_3 _ _ _ _).trans rfl
theorem e_X6_brakes_69 {X : mX} {call : Nat → List mV → mG → mR} {g : mG} {x1 x2 x3 x4 x5 x6 s0 : Int32} : mEv X call 2 t_X6_brakes (mDrop t_X6_brakes 69) [some (mr 7 20), some (mi x1), some (mi x2), some (mi x3), some (mi x4), some (mi x5), some (mi x6), none] [mi s0] g = if (s0 : Int32) &&& 1 = s0 then some (some (mi s0), g) else none := (mEv_1 _ _ _ _).trans rfl
theorem e_X6_brakes_70 {X : mX} {call : Nat → List mV → mG → mR} {g : mG} {x1 x2 x3 x4 x5 x6 : Int32} : mEv X call 2 t_X6_brakes (mDrop t_X6_brakes 70) [some (mr 7 20), some (mi x1), some (mi x2), some (mi x3), some (mi x4), some (mi x5), some (mi x6), none] [] g = mAns (mEv X call 2 t_X6_brakes) (mDrop t_X6_brakes 76) [some (mr 7 20), some (mi x1), some (mi x2), some (mi x3), some (mi x4), some (mi x5), some (mi x6), none] [] (call 158 [mr 7 20, mi 7] g) := (mEv_3 _ _ _ _).trans rfl
theorem e_X6_brakes_76 {X : mX} {call : Nat → List mV → mG → mR} {g : mG} {x1 x2 x3 x4 x5 x6 s0 : Int32} : mEv X call 2 t_X6_brakes (mDrop t_X6_brakes 76) [some (mr 7 20), some (mi x1), some (mi x2), some (mi x3), some (mi x4), some (mi x5), some (mi x6), none] [mi s0] g = if s0 = x1 then mEv X call 2 t_X6_brakes (mDrop t_X6_brakes 80) [some (mr 7 20), some (mi x1), some (mi x2), some (mi x3), some (mi x4), some (mi x5), some (mi x6), none] [] g else mEv X call 2 t_X6_brakes (mDrop t_X6_brakes 86) [some (mr 7 20), some (mi x1), some (mi x2), some (mi x3), some (mi x4), some (mi x5), some (mi x6), none] [] g := (mEv_2 _ _ _ _).trans rfl
theorem e_X6_brakes_80 {X : mX} {call : Nat → List mV → mG → mR} {g : mG} {x1 x2 x3 x4 x5 x6 : Int32} : mEv X call 2 t_X6_brakes (mDrop t_X6_brakes 80) [some (mr 7 20), some (mi x1), some (mi x2), some (mi x3), some (mi x4), some (mi x5), some (mi x6), none] [] g = mAns (mEv X call 2 t_X6_brakes) (mDrop t_X6_brakes 85) [some (mr 7 20), some (mi x1), some (mi x2), some (mi x3), some (mi x4), some (mi x5), some (mi x6), none] [] (call 153 [mr 7 20, mi 4] g) := (mEv_3 _ _ _ _).trans rfl
theorem e_X6_brakes_85 {X : mX} {call : Nat → List mV → mG → mR} {g : mG} {x1 x2 x3 x4 x5 x6 s0 : Int32} : mEv X call 2 t_X6_brakes (mDrop t_X6_brakes 85) [some (mr 7 20), some (mi x1), some (mi x2), some (mi x3), some (mi x4), some (mi x5), some (mi x6), none] [mi s0] g = if (s0 : Int32) &&& 1 = s0 then some (some (mi s0), g) else none := (mEv_1 _ _ _ _).trans rfl
theorem e_X6_brakes_86 {X : mX} {call : Nat → List mV → mG → mR} {g : mG} {x1 x2 x3 x4 x5 x6 : Int32} : mEv X call 2 t_X6_brakes (mDrop t_X6_brakes 86) [some (mr 7 20), some (mi x1), some (mi x2), some (mi x3), some (mi x4), some (mi x5), some (mi x6), none] [] g = mAns (mEv X call 2 t_X6_brakes) (mDrop t_X6_brakes 91) [some (mr 7 20), some (mi x1), some (mi x2), some (mi x3), some (mi x4), some (mi x5), some (mi x6), none] [] (call 172 [mr 7 20, mi x2] g) := (mEv_3 _ _ _ _).trans rfl
theorem e_X6_brakes_91 {X : mX} {call : Nat → List mV → mG → mR} {g : mG} {x1 x2 x3 x4 x5 x6 s0 : Int32} : mEv X call 2 t_X6_brakes (mDrop t_X6_brakes 91) [some (mr 7 20), some (mi x1), some (mi x2), some (mi x3), some (mi x4), some (mi x5), some (mi x6), none] [mi s0] g = if s0 = 0 then mEv X call 2 t_X6_brakes (mDrop t_X6_brakes 103) [some (mr 7 20), some (mi x1), some (mi x2), some (mi x3), some (mi x4), some (mi x5), some (mi x6), none] [] g else mEv X call 2 t_X6_brakes (mDrop t_X6_brakes 94) [some (mr 7 20), some (mi x1), some (mi x2), some (mi x3), some (mi x4), some (mi x5), some (mi x6), none] [] g := (mEv_1 _ _ _ _).trans rfl
theorem e_X6_brakes_103 {X : mX} {call : Nat → List mV → mG → mR} {g : mG} {x1 x2 x3 x4 x5 x6 : Int32} : mEv X call 2 t_X6_brakes (mDrop t_X6_brakes 103) [some (mr 7 20), some (mi x1), some (mi x2), some (mi x3), some (mi x4), some (mi x5), some (mi x6), none] [] g = mAns (mEv X call 2 t_X6_brakes) (mDrop t_X6_brakes 109) [some (mr 7 20), some (mi x1), some (mi x2), some (mi x3), some (mi x4), some (mi x5), some (mi x6), none] [] (call 153 [mr 7 20, mi 7] g) := (mEv_3 _ _ _ _).trans rfl
theorem e_X6_brakes_109 {X : mX} {call : Nat → List mV → mG → mR} {g : mG} {x1 x2 x3 x4 x5 x6 s0 : Int32} : mEv X call 2 t_X6_brakes (mDrop t_X6_brakes 109) [some (mr 7 20), some (mi x1), some (mi x2), some (mi x3), some (mi x4), some (mi x5), some (mi x6), none] [mi s0] g = if (s0 : Int32) &&& 1 = s0 then some (some (mi s0), g) else none := (mEv_1 _ _ _ _).trans rfl
noncomputable def J_X6_brakes_103 (c : mC) : (Option (Int32 × mC)) := (mBo (α := Int32 × mC) none (P_X6_isSo c 7) (fun p1 => (some (p1.1, p1.2))))
theorem rj_X6_brakes_103 (d : Nat) {X : mX} {g : mG} {x1 x2 x3 x4 x5 x6 : Int32} {c : mC} : mEv X (mCall mD X (d + 5)) 2 t_X6_brakes (mDrop t_X6_brakes 103) [some (mr 7 20), some (mi x1), some (mi x2), some (mi x3), some (mi x4), some (mi x5), some (mi x6), none] [] (mU g 7 c) = (wO (wW g 7)) (J_X6_brakes_103 c) := by
  refine Eq.trans (e_X6_brakes_103) ?_
  try simp only [mU_same, mU_mU]
  refine mw_oY ?_ (rr_X6_isSo (d + 4)) rfl (fun p1 hp1 => ?_)
  · rfl
  refine Eq.trans (e_X6_brakes_109) ?_
  try simp only [mU_same, mU_mU]
  exact if_pos hp1
theorem e_X6_brakes_94 {X : mX} {call : Nat → List mV → mG → mR} {g : mG} {x1 x2 x3 x4 x5 x6 : Int32} : mEv X call 2 t_X6_brakes (mDrop t_X6_brakes 94) [some (mr 7 20), some (mi x1), some (mi x2), some (mi x3), some (mi x4), some (mi x5), some (mi x6), none] [] g = mAns (mEv X call 2 t_X6_brakes) (mDrop t_X6_brakes 100) [some (mr 7 20), some (mi x1), some (mi x2), some (mi x3), some (mi x4), some (mi x5), some (mi x6), none] [] (call 172 [mr 7 20, mi x4] g) := (mEv_3 _ _ _ _).trans rfl
theorem e_X6_brakes_100 {X : mX} {call : Nat → List mV → mG → mR} {g : mG} {x1 x2 x3 x4 x5 x6 s0 : Int32} : mEv X call 2 t_X6_brakes (mDrop t_X6_brakes 100) [some (mr 7 20), some (mi x1), some (mi x2), some (mi x3), some (mi x4), some (mi x5), some (mi x6), none] [mi s0] g = if s0 = 0 then mEv X call 2 t_X6_brakes (mDrop t_X6_brakes 103) [some (mr 7 20), some (mi x1), some (mi x2), some (mi x3), some (mi x4), some (mi x5), some (mi x6), none] [] g else mEv X call 2 t_X6_brakes (mDrop t_X6_brakes 110) [some (mr 7 20), some (mi x1), some (mi x2), some (mi x3), some (mi x4), some (mi x5), some (mi x6), none] [] g := (mEv_1 _ _ _ _).trans rfl
theorem e_X6_brakes_110 {X : mX} {call : Nat → List mV → mG → mR} {g : mG} {x1 x2 x3 x4 x5 x6 : Int32} : mEv X call 2 t_X6_brakes (mDrop t_X6_brakes 110) [some (mr 7 20), some (mi x1), some (mi x2), some (mi x3), some (mi x4), some (mi x5), some (mi x6), none] [] g = mAns (mEv X call 2 t_X6_brakes) (mDrop t_X6_brakes 128) [some (mr 7 20), some (mi x1), some (mi x2), some (mi x3), some (mi x4), some (mi x5), some (mi x6), some (mi ((176 : Int32) + ((5 : Int32) * x1)))] [] (call 159 [mr 7 20, mi (((176 : Int32) + ((5 : Int32) * x1)) + 0), mi x2] g) := (mEv_12 _ _ _ _).trans rfl
theorem e_X6_brakes_128 {X : mX} {call : Nat → List mV → mG → mR} {g : mG} {x1 x2 x3 x4 x5 x6 x7 : Int32} : mEv X call 2 t_X6_brakes (mDrop t_X6_brakes 128) [some (mr 7 20), some (mi x1), some (mi x2), some (mi x3), some (mi x4), some (mi x5), some (mi x6), some (mi x7)] [] g = mAns (mEv X call 2 t_X6_brakes) (mDrop t_X6_brakes 137) [some (mr 7 20), some (mi x1), some (mi x2), some (mi x3), some (mi x4), some (mi x5), some (mi x6), some (mi x7)] [] (call 159 [mr 7 20, mi (x7 + 1), mi x3] g) := (mEv_6 _ _ _ _).trans rfl
theorem e_X6_brakes_137 {X : mX} {call : Nat → List mV → mG → mR} {g : mG} {x1 x2 x3 x4 x5 x6 x7 : Int32} : mEv X call 2 t_X6_brakes (mDrop t_X6_brakes 137) [some (mr 7 20), some (mi x1), some (mi x2), some (mi x3), some (mi x4), some (mi x5), some (mi x6), some (mi x7)] [] g = mAns (mEv X call 2 t_X6_brakes) (mDrop t_X6_brakes 147) [some (mr 7 20), some (mi x1), some (mi x2), some (mi x3), some (mi x4), some (mi x5), some (mi x6), some (mi x7)] [] (call 159 [mr 7 20, mi (x7 + 2), mi x4] g) := (mEv_6 _ _ _ _).trans rfl
theorem e_X6_brakes_147 {X : mX} {call : Nat → List mV → mG → mR} {g : mG} {x1 x2 x3 x4 x5 x6 x7 : Int32} : mEv X call 2 t_X6_brakes (mDrop t_X6_brakes 147) [some (mr 7 20), some (mi x1), some (mi x2), some (mi x3), some (mi x4), some (mi x5), some (mi x6), some (mi x7)] [] g = mAns (mEv X call 2 t_X6_brakes) (mDrop t_X6_brakes 157) [some (mr 7 20), some (mi x1), some (mi x2), some (mi x3), some (mi x4), some (mi x5), some (mi x6), some (mi x7)] [] (call 159 [mr 7 20, mi (x7 + 3), mi x5] g) := (mEv_6 _ _ _ _).trans rfl
theorem e_X6_brakes_157 {X : mX} {call : Nat → List mV → mG → mR} {g : mG} {x1 x2 x3 x4 x5 x6 x7 : Int32} : mEv X call 2 t_X6_brakes (mDrop t_X6_brakes 157) [some (mr 7 20), some (mi x1), some (mi x2), some (mi x3), some (mi x4), some (mi x5), some (mi x6), some (mi x7)] [] g = mAns (mEv X call 2 t_X6_brakes) (mDrop t_X6_brakes 167) [some (mr 7 20), some (mi x1), some (mi x2), some (mi x3), some (mi x4), some (mi x5), some (mi x6), some (mi x7)] [] (call 159 [mr 7 20, mi (x7 + 4), mi x6] g) := (mEv_6 _ _ _ _).trans rfl
theorem e_X6_brakes_167 {X : mX} {call : Nat → List mV → mG → mR} {g : mG} {x1 x2 x3 x4 x5 x6 x7 : Int32} : mEv X call 2 t_X6_brakes (mDrop t_X6_brakes 167) [some (mr 7 20), some (mi x1), some (mi x2), some (mi x3), some (mi x4), some (mi x5), some (mi x6), some (mi x7)] [] g = mAns (mEv X call 2 t_X6_brakes) (mDrop t_X6_brakes 172) [some (mr 7 20), some (mi x1), some (mi x2), some (mi x3), some (mi x4), some (mi x5), some (mi x6), some (mi x7)] [] (call 153 [mr 7 20, mi 0] g) := (mEv_3 _ _ _ _).trans rfl
theorem e_X6_brakes_172 {X : mX} {call : Nat → List mV → mG → mR} {g : mG} {x1 x2 x3 x4 x5 x6 x7 s0 : Int32} : mEv X call 2 t_X6_brakes (mDrop t_X6_brakes 172) [some (mr 7 20), some (mi x1), some (mi x2), some (mi x3), some (mi x4), some (mi x5), some (mi x6), some (mi x7)] [mi s0] g = if (s0 : Int32) &&& 1 = s0 then some (some (mi s0), g) else none := (mEv_1 _ _ _ _).trans rfl
noncomputable def P_X6_brakes (c : mC) (x1 : Int32) (x2 : Int32) (x3 : Int32) (x4 : Int32) (x5 : Int32) (x6 : Int32) : (Option (Int32 × mC)) := (mBo (α := Int32) none (P_X6_isSet c x2) (fun v1 => (if v1 = 0 then (J_X6_brakes_49 c) else (mBo (α := Int32) none (P_X6_isSet c x4) (fun v2 => (if v2 = 0 then (J_X6_brakes_49 c) else (mBd (α := Int32) (P_X6_isFrom x3 0 30) (fun v3 => (if v3 = 0 then (J_X6_brakes_49 c) else (mBd (α := Int32) (P_X6_isFrom x5 0 30) (fun v4 => (if v4 = 0 then (J_X6_brakes_49 c) else (mBd (α := Int32) (P_X6_isFrom x6 0 20) (fun v5 => (if v5 = 0 then (J_X6_brakes_49 c) else (mBd (α := Int32) (P_X6_isFrom x1 0 1) (fun v6 => (if v6 = 0 then (mBo (α := Int32 × mC) none (P_X6_isSo c 2) (fun p7 => (some (p7.1, p7.2)))) else (mBo (α := Int32) none (P_X6_of c 7) (fun v8 => (if v8 = x1 then (mBo (α := Int32 × mC) none (P_X6_isSo c 4) (fun p9 => (some (p9.1, p9.2)))) else (mBo (α := Int32) none (P_X6_isPeace c x2) (fun v10 => (if v10 = 0 then (J_X6_brakes_103 c) else (mBo (α := Int32) none (P_X6_isPeace c x4) (fun v11 => (if v11 = 0 then (J_X6_brakes_103 c) else (mBo (α := mC) none (P_X6_puts c (((176 : Int32) + ((5 : Int32) * x1)) + 0) x2) (fun c12 => (mBo (α := mC) none (P_X6_puts c12 (((176 : Int32) + ((5 : Int32) * x1)) + 1) x3) (fun c13 => (mBo (α := mC) none (P_X6_puts c13 (((176 : Int32) + ((5 : Int32) * x1)) + 2) x4) (fun c14 => (mBo (α := mC) none (P_X6_puts c14 (((176 : Int32) + ((5 : Int32) * x1)) + 3) x5) (fun c15 => (mBo (α := mC) none (P_X6_puts c15 (((176 : Int32) + ((5 : Int32) * x1)) + 4) x6) (fun c16 => (mBo (α := Int32 × mC) none (P_X6_isSo c16 0) (fun p17 => (some (p17.1, p17.2)))))))))))))))))))))))))))))))))))))))))
theorem rr_X6_brakes (d : Nat) {X : mX} {g : mG} {x1 x2 x3 x4 x5 x6 : Int32} {c : mC} : mCall mD X (d + 6) 252 [mr 7 20, mi x1, mi x2, mi x3, mi x4, mi x5, mi x6] (mU g 7 c) = (wO (wW g 7)) (P_X6_brakes c x1 x2 x3 x4 x5 x6) := by
  refine Eq.trans (mCall_eq (d := d + 5) rfl) ?_
  show mEv X (mCall mD X (d + 5)) 2 t_X6_brakes (mDrop t_X6_brakes 0) [some (mr 7 20), some (mi x1), some (mi x2), some (mi x3), some (mi x4), some (mi x5), some (mi x6), none] [] (mU g 7 c) = _
  refine Eq.trans (e_X6_brakes_0) ?_
  try simp only [mU_same, mU_mU]
  refine mw_oZ ?_ (rr_X6_isSet (d + 3)) rfl (fun v1 hv1 => ?_)
  · rfl
  refine Eq.trans (e_X6_brakes_5) ?_
  try simp only [mU_same, mU_mU]
  refine mw_ite (fun h26 => ?_) (fun h26 => ?_)
  · exact rj_X6_brakes_49 d
  · refine Eq.trans (e_X6_brakes_8) ?_
    try simp only [mU_same, mU_mU]
    refine mw_oZ ?_ (rr_X6_isSet (d + 3)) rfl (fun v2 hv2 => ?_)
    · rfl
    refine Eq.trans (e_X6_brakes_14) ?_
    try simp only [mU_same, mU_mU]
    refine mw_ite (fun h25 => ?_) (fun h25 => ?_)
    · exact rj_X6_brakes_49 d
    · refine Eq.trans (e_X6_brakes_17) ?_
      try simp only [mU_same, mU_mU]
      refine mw_cZ (rr_X6_isFrom (d + 4)) rfl (fun v3 hv3 => ?_)
      refine Eq.trans (e_X6_brakes_24) ?_
      try simp only [mU_same, mU_mU]
      refine mw_ite (fun h24 => ?_) (fun h24 => ?_)
      · exact rj_X6_brakes_49 d
      · refine Eq.trans (e_X6_brakes_27) ?_
        try simp only [mU_same, mU_mU]
        refine mw_cZ (rr_X6_isFrom (d + 4)) rfl (fun v4 hv4 => ?_)
        refine Eq.trans (e_X6_brakes_35) ?_
        try simp only [mU_same, mU_mU]
        refine mw_ite (fun h23 => ?_) (fun h23 => ?_)
        · exact rj_X6_brakes_49 d
        · refine Eq.trans (e_X6_brakes_38) ?_
          try simp only [mU_same, mU_mU]
          refine mw_cZ (rr_X6_isFrom (d + 4)) rfl (fun v5 hv5 => ?_)
          refine Eq.trans (e_X6_brakes_46) ?_
          try simp only [mU_same, mU_mU]
          refine mw_ite (fun h22 => ?_) (fun h22 => ?_)
          · exact rj_X6_brakes_49 d
          · refine Eq.trans (e_X6_brakes_55) ?_
            try simp only [mU_same, mU_mU]
            refine mw_cZ (rr_X6_isFrom (d + 4)) rfl (fun v6 hv6 => ?_)
            refine Eq.trans (e_X6_brakes_61) ?_
            try simp only [mU_same, mU_mU]
            refine mw_ite (fun h21 => ?_) (fun h21 => ?_)
            · refine Eq.trans (e_X6_brakes_64) ?_
              try simp only [mU_same, mU_mU]
              refine mw_oY ?_ (rr_X6_isSo (d + 4)) rfl (fun p7 hp7 => ?_)
              · rfl
              refine Eq.trans (e_X6_brakes_69) ?_
              try simp only [mU_same, mU_mU]
              exact if_pos hp7
            · refine Eq.trans (e_X6_brakes_70) ?_
              try simp only [mU_same, mU_mU]
              refine mw_oI ?_ (rr_X6_of (d + 4)) (fun v8 => ?_)
              · rfl
              refine Eq.trans (e_X6_brakes_76) ?_
              try simp only [mU_same, mU_mU]
              refine mw_ite (fun h20 => ?_) (fun h20 => ?_)
              · refine Eq.trans (e_X6_brakes_80) ?_
                try simp only [mU_same, mU_mU]
                refine mw_oY ?_ (rr_X6_isSo (d + 4)) rfl (fun p9 hp9 => ?_)
                · rfl
                refine Eq.trans (e_X6_brakes_85) ?_
                try simp only [mU_same, mU_mU]
                exact if_pos hp9
              · refine Eq.trans (e_X6_brakes_86) ?_
                try simp only [mU_same, mU_mU]
                refine mw_oZ ?_ (rr_X6_isPeace d) rfl (fun v10 hv10 => ?_)
                · rfl
                refine Eq.trans (e_X6_brakes_91) ?_
                try simp only [mU_same, mU_mU]
                refine mw_ite (fun h19 => ?_) (fun h19 => ?_)
                · exact rj_X6_brakes_103 d
                · refine Eq.trans (e_X6_brakes_94) ?_
                  try simp only [mU_same, mU_mU]
                  refine mw_oZ ?_ (rr_X6_isPeace d) rfl (fun v11 hv11 => ?_)
                  · rfl
                  refine Eq.trans (e_X6_brakes_100) ?_
                  try simp only [mU_same, mU_mU]
                  refine mw_ite (fun h18 => ?_) (fun h18 => ?_)
                  · exact rj_X6_brakes_103 d
                  · refine Eq.trans (e_X6_brakes_110) ?_
                    try simp only [mU_same, mU_mU]
                    refine mw_oV ?_ (rr_X6_puts (d + 4)) (fun c12 => ?_)
                    · rfl
                    refine Eq.trans (e_X6_brakes_128) ?_
                    try simp only [mU_same, mU_mU]
                    refine mw_oV ?_ (rr_X6_puts (d + 4)) (fun c13 => ?_)
                    · rfl
                    refine Eq.trans (e_X6_brakes_137) ?_
                    try simp only [mU_same, mU_mU]
                    refine mw_oV ?_ (rr_X6_puts (d + 4)) (fun c14 => ?_)
                    · rfl
                    refine Eq.trans (e_X6_brakes_147) ?_
                    try simp only [mU_same, mU_mU]
                    refine mw_oV ?_ (rr_X6_puts (d + 4)) (fun c15 => ?_)
                    · rfl
                    refine Eq.trans (e_X6_brakes_157) ?_
                    try simp only [mU_same, mU_mU]
                    refine mw_oV ?_ (rr_X6_puts (d + 4)) (fun c16 => ?_)
                    · rfl
                    refine Eq.trans (e_X6_brakes_167) ?_
                    try simp only [mU_same, mU_mU]
                    refine mw_oY ?_ (rr_X6_isSo (d + 4)) rfl (fun p17 hp17 => ?_)
                    · rfl
                    refine Eq.trans (e_X6_brakes_172) ?_
                    try simp only [mU_same, mU_mU]
                    exact if_pos hp17
theorem rr_X6_brakes_at (d : Nat) {X : mX} {g : mG} {x1 x2 x3 x4 x5 x6 : Int32} : mCall mD X (d + 6) 252 [mr 7 20, mi x1, mi x2, mi x3, mi x4, mi x5, mi x6] g = wO (wW g 7) (P_X6_brakes (g 7) x1 x2 x3 x4 x5 x6) := by
  have h := rr_X6_brakes (X := X) d (g := g) (c := g 7) (x1 := x1) (x2 := x2) (x3 := x3) (x4 := x4) (x5 := x5) (x6 := x6)
  rw [mU_self] at h
  exact h
theorem e_X6_stick_0 {X : mX} {call : Nat → List mV → mG → mR} {g : mG} {x1 x2 : Int32} : mEv X call 2 t_X6_stick (mDrop t_X6_stick 0) [some (mr 7 20), some (mi x1), some (mi x2)] [] g = mAns (mEv X call 2 t_X6_stick) (mDrop t_X6_stick 5) [some (mr 7 20), some (mi x1), some (mi x2)] [] (call 168 [mr 7 20, mi x1] g) := (mEv_3 _ _ _ _).trans rfl
theorem e_X6_stick_5 {X : mX} {call : Nat → List mV → mG → mR} {g : mG} {x1 x2 s0 : Int32} : mEv X call 2 t_X6_stick (mDrop t_X6_stick 5) [some (mr 7 20), some (mi x1), some (mi x2)] [mi s0] g = if s0 = 0 then mEv X call 2 t_X6_stick (mDrop t_X6_stick 8) [some (mr 7 20), some (mi x1), some (mi x2)] [] g else mEv X call 2 t_X6_stick (mDrop t_X6_stick 14) [some (mr 7 20), some (mi x1), some (mi x2)] [] g := (mEv_1 _ _ _ _).trans rfl
theorem e_X6_stick_8 {X : mX} {call : Nat → List mV → mG → mR} {g : mG} {x1 x2 : Int32} : mEv X call 2 t_X6_stick (mDrop t_X6_stick 8) [some (mr 7 20), some (mi x1), some (mi x2)] [] g = mAns (mEv X call 2 t_X6_stick) (mDrop t_X6_stick 13) [some (mr 7 20), some (mi x1), some (mi x2)] [] (call 153 [mr 7 20, mi 2] g) := (mEv_3 _ _ _ _).trans rfl
theorem e_X6_stick_13 {X : mX} {call : Nat → List mV → mG → mR} {g : mG} {x1 x2 s0 : Int32} : mEv X call 2 t_X6_stick (mDrop t_X6_stick 13) [some (mr 7 20), some (mi x1), some (mi x2)] [mi s0] g = if (s0 : Int32) &&& 1 = s0 then some (some (mi s0), g) else none := (mEv_1 _ _ _ _).trans rfl
theorem e_X6_stick_14 {X : mX} {call : Nat → List mV → mG → mR} {g : mG} {x1 x2 : Int32} : mEv X call 2 t_X6_stick (mDrop t_X6_stick 14) [some (mr 7 20), some (mi x1), some (mi x2)] [] g = mAns (mEv X call 2 t_X6_stick) (mDrop t_X6_stick 20) [some (mr 7 20), some (mi x1), some (mi x2)] [] (call 158 [mr 7 20, mi 6] g) := (mEv_3 _ _ _ _).trans rfl
theorem e_X6_stick_20 {X : mX} {call : Nat → List mV → mG → mR} {g : mG} {x1 x2 s0 : Int32} : mEv X call 2 t_X6_stick (mDrop t_X6_stick 20) [some (mr 7 20), some (mi x1), some (mi x2)] [mi s0] g = mAns (mEv X call 2 t_X6_stick) (mDrop t_X6_stick 24) [some (mr 7 20), some (mi x1), some (mi x2)] [] (call 156 [mi s0, mi x1] g) := (mEv_2 _ _ _ _).trans rfl
theorem e_X6_stick_24 {X : mX} {call : Nat → List mV → mG → mR} {g : mG} {x1 x2 s0 : Int32} : mEv X call 2 t_X6_stick (mDrop t_X6_stick 24) [some (mr 7 20), some (mi x1), some (mi x2)] [mi s0] g = if s0 = x2 then mEv X call 2 t_X6_stick (mDrop t_X6_stick 28) [some (mr 7 20), some (mi x1), some (mi x2)] [] g else mEv X call 2 t_X6_stick (mDrop t_X6_stick 34) [some (mr 7 20), some (mi x1), some (mi x2)] [] g := (mEv_2 _ _ _ _).trans rfl
theorem e_X6_stick_28 {X : mX} {call : Nat → List mV → mG → mR} {g : mG} {x1 x2 : Int32} : mEv X call 2 t_X6_stick (mDrop t_X6_stick 28) [some (mr 7 20), some (mi x1), some (mi x2)] [] g = mAns (mEv X call 2 t_X6_stick) (mDrop t_X6_stick 33) [some (mr 7 20), some (mi x1), some (mi x2)] [] (call 153 [mr 7 20, mi 4] g) := (mEv_3 _ _ _ _).trans rfl
theorem e_X6_stick_33 {X : mX} {call : Nat → List mV → mG → mR} {g : mG} {x1 x2 s0 : Int32} : mEv X call 2 t_X6_stick (mDrop t_X6_stick 33) [some (mr 7 20), some (mi x1), some (mi x2)] [mi s0] g = if (s0 : Int32) &&& 1 = s0 then some (some (mi s0), g) else none := (mEv_1 _ _ _ _).trans rfl
theorem e_X6_stick_34 {X : mX} {call : Nat → List mV → mG → mR} {g : mG} {x1 x2 : Int32} : mEv X call 2 t_X6_stick (mDrop t_X6_stick 34) [some (mr 7 20), some (mi x1), some (mi x2)] [] g = mAns (mEv X call 2 t_X6_stick) (mDrop t_X6_stick 43) [some (mr 7 20), some (mi x1), some (mi x2)] [mi 6, mr 7 20] (call 158 [mr 7 20, mi 6] g) := (mEv_5 _ _ _ _).trans rfl
theorem e_X6_stick_43 {X : mX} {call : Nat → List mV → mG → mR} {g : mG} {x1 x2 s1 s2 : Int32} : mEv X call 2 t_X6_stick (mDrop t_X6_stick 43) [some (mr 7 20), some (mi x1), some (mi x2)] [mi s2, mi s1, mr 7 20] g = mAns (mEv X call 2 t_X6_stick) (mDrop t_X6_stick 50) [some (mr 7 20), some (mi x1), some (mi x2)] [] (call 159 [mr 7 20, mi s1, mi (s2 ^^^ ((1 : Int32) <<< (x1 &&& 31)))] g) := (mEv_5 _ _ _ _).trans rfl
theorem e_X6_stick_50 {X : mX} {call : Nat → List mV → mG → mR} {g : mG} {x1 x2 : Int32} : mEv X call 2 t_X6_stick (mDrop t_X6_stick 50) [some (mr 7 20), some (mi x1), some (mi x2)] [] g = mAns (mEv X call 2 t_X6_stick) (mDrop t_X6_stick 55) [some (mr 7 20), some (mi x1), some (mi x2)] [] (call 153 [mr 7 20, mi 0] g) := (mEv_3 _ _ _ _).trans rfl
theorem e_X6_stick_55 {X : mX} {call : Nat → List mV → mG → mR} {g : mG} {x1 x2 s0 : Int32} : mEv X call 2 t_X6_stick (mDrop t_X6_stick 55) [some (mr 7 20), some (mi x1), some (mi x2)] [mi s0] g = if (s0 : Int32) &&& 1 = s0 then some (some (mi s0), g) else none := (mEv_1 _ _ _ _).trans rfl
noncomputable def P_X6_stick (c : mC) (x1 : Int32) (x2 : Int32) : (Option (Int32 × mC)) := (mBo (α := Int32) none (P_X6_isPhase c x1) (fun v1 => (if v1 = 0 then (mBo (α := Int32 × mC) none (P_X6_isSo c 2) (fun p2 => (some (p2.1, p2.2)))) else (mBo (α := Int32) none (P_X6_of c 6) (fun v3 => (mBd (α := Int32) (P_X6_has v3 x1) (fun v4 => (if v4 = x2 then (mBo (α := Int32 × mC) none (P_X6_isSo c 4) (fun p5 => (some (p5.1, p5.2)))) else (mBo (α := Int32) none (P_X6_of c 6) (fun v6 => (mBo (α := mC) none (P_X6_puts c 6 (v6 ^^^ ((1 : Int32) <<< (x1 &&& 31)))) (fun c7 => (mBo (α := Int32 × mC) none (P_X6_isSo c7 0) (fun p8 => (some (p8.1, p8.2))))))))))))))))
theorem rr_X6_stick (d : Nat) {X : mX} {g : mG} {x1 x2 : Int32} {c : mC} : mCall mD X (d + 3) 253 [mr 7 20, mi x1, mi x2] (mU g 7 c) = (wO (wW g 7)) (P_X6_stick c x1 x2) := by
  refine Eq.trans (mCall_eq (d := d + 2) rfl) ?_
  show mEv X (mCall mD X (d + 2)) 2 t_X6_stick (mDrop t_X6_stick 0) [some (mr 7 20), some (mi x1), some (mi x2)] [] (mU g 7 c) = _
  refine Eq.trans (e_X6_stick_0) ?_
  try simp only [mU_same, mU_mU]
  refine mw_oZ ?_ (rr_X6_isPhase d) rfl (fun v1 hv1 => ?_)
  · rfl
  refine Eq.trans (e_X6_stick_5) ?_
  try simp only [mU_same, mU_mU]
  refine mw_ite (fun h10 => ?_) (fun h10 => ?_)
  · refine Eq.trans (e_X6_stick_8) ?_
    try simp only [mU_same, mU_mU]
    refine mw_oY ?_ (rr_X6_isSo (d + 1)) rfl (fun p2 hp2 => ?_)
    · rfl
    refine Eq.trans (e_X6_stick_13) ?_
    try simp only [mU_same, mU_mU]
    exact if_pos hp2
  · refine Eq.trans (e_X6_stick_14) ?_
    try simp only [mU_same, mU_mU]
    refine mw_oI ?_ (rr_X6_of (d + 1)) (fun v3 => ?_)
    · rfl
    refine Eq.trans (e_X6_stick_20) ?_
    try simp only [mU_same, mU_mU]
    refine mw_cZ (rr_X6_has (d + 1)) rfl (fun v4 hv4 => ?_)
    refine Eq.trans (e_X6_stick_24) ?_
    try simp only [mU_same, mU_mU]
    refine mw_ite (fun h9 => ?_) (fun h9 => ?_)
    · refine Eq.trans (e_X6_stick_28) ?_
      try simp only [mU_same, mU_mU]
      refine mw_oY ?_ (rr_X6_isSo (d + 1)) rfl (fun p5 hp5 => ?_)
      · rfl
      refine Eq.trans (e_X6_stick_33) ?_
      try simp only [mU_same, mU_mU]
      exact if_pos hp5
    · refine Eq.trans (e_X6_stick_34) ?_
      try simp only [mU_same, mU_mU]
      refine mw_oI ?_ (rr_X6_of (d + 1)) (fun v6 => ?_)
      · rfl
      refine Eq.trans (e_X6_stick_43) ?_
      try simp only [mU_same, mU_mU]
      refine mw_oV ?_ (rr_X6_puts (d + 1)) (fun c7 => ?_)
      · rfl
      refine Eq.trans (e_X6_stick_50) ?_
      try simp only [mU_same, mU_mU]
      refine mw_oY ?_ (rr_X6_isSo (d + 1)) rfl (fun p8 hp8 => ?_)
      · rfl
      refine Eq.trans (e_X6_stick_55) ?_
      try simp only [mU_same, mU_mU]
      exact if_pos hp8
theorem rr_X6_stick_at (d : Nat) {X : mX} {g : mG} {x1 x2 : Int32} : mCall mD X (d + 3) 253 [mr 7 20, mi x1, mi x2] g = wO (wW g 7) (P_X6_stick (g 7) x1 x2) := by
  have h := rr_X6_stick (X := X) d (g := g) (c := g 7) (x1 := x1) (x2 := x2)
  rw [mU_self] at h
  exact h
theorem e_X6_reset_0 {X : mX} {call : Nat → List mV → mG → mR} {g : mG} : mEv X call 2 t_X6_reset (mDrop t_X6_reset 0) [some (mr 7 20)] [] g = mAns (mEv X call 2 t_X6_reset) (mDrop t_X6_reset 5) [some (mr 7 20)] [] (call 158 [mr 7 20, mi 5] g) := (mEv_3 _ _ _ _).trans rfl
theorem e_X6_reset_5 {X : mX} {call : Nat → List mV → mG → mR} {g : mG} {s0 : Int32} : mEv X call 2 t_X6_reset (mDrop t_X6_reset 5) [some (mr 7 20)] [mi s0] g = if s0 = 0 then mEv X call 2 t_X6_reset (mDrop t_X6_reset 8) [some (mr 7 20)] [] g else mEv X call 2 t_X6_reset (mDrop t_X6_reset 14) [some (mr 7 20)] [] g := (mEv_1 _ _ _ _).trans rfl
theorem e_X6_reset_8 {X : mX} {call : Nat → List mV → mG → mR} {g : mG} : mEv X call 2 t_X6_reset (mDrop t_X6_reset 8) [some (mr 7 20)] [] g = mAns (mEv X call 2 t_X6_reset) (mDrop t_X6_reset 13) [some (mr 7 20)] [] (call 153 [mr 7 20, mi 5] g) := (mEv_3 _ _ _ _).trans rfl
theorem e_X6_reset_13 {X : mX} {call : Nat → List mV → mG → mR} {g : mG} {s0 : Int32} : mEv X call 2 t_X6_reset (mDrop t_X6_reset 13) [some (mr 7 20)] [mi s0] g = if (s0 : Int32) &&& 1 = s0 then some (some (mi s0), g) else none := (mEv_1 _ _ _ _).trans rfl
theorem e_X6_reset_14 {X : mX} {call : Nat → List mV → mG → mR} {g : mG} : mEv X call 2 t_X6_reset (mDrop t_X6_reset 14) [some (mr 7 20)] [] g = mAns (mEv X call 2 t_X6_reset) (mDrop t_X6_reset 20) [some (mr 7 20)] [] (call 159 [mr 7 20, mi 5, mi 0] g) := (mEv_4 _ _ _ _).trans rfl
theorem e_X6_reset_20 {X : mX} {call : Nat → List mV → mG → mR} {g : mG} : mEv X call 2 t_X6_reset (mDrop t_X6_reset 20) [some (mr 7 20)] [] g = mAns (mEv X call 2 t_X6_reset) (mDrop t_X6_reset 24) [some (mr 7 20)] [] (call 174 [mr 7 20] g) := (mEv_2 _ _ _ _).trans rfl
theorem e_X6_reset_24 {X : mX} {call : Nat → List mV → mG → mR} {g : mG} : mEv X call 2 t_X6_reset (mDrop t_X6_reset 24) [some (mr 7 20)] [] g = mAns (mEv X call 2 t_X6_reset) (mDrop t_X6_reset 30) [some (mr 7 20)] [] (call 182 [mr 7 20, mi 5, mi (-1)] g) := (mEv_4 _ _ _ _).trans rfl
theorem e_X6_reset_30 {X : mX} {call : Nat → List mV → mG → mR} {g : mG} : mEv X call 2 t_X6_reset (mDrop t_X6_reset 30) [some (mr 7 20)] [] g = mAns (mEv X call 2 t_X6_reset) (mDrop t_X6_reset 35) [some (mr 7 20)] [] (call 153 [mr 7 20, mi 0] g) := (mEv_3 _ _ _ _).trans rfl
theorem e_X6_reset_35 {X : mX} {call : Nat → List mV → mG → mR} {g : mG} {s0 : Int32} : mEv X call 2 t_X6_reset (mDrop t_X6_reset 35) [some (mr 7 20)] [mi s0] g = if (s0 : Int32) &&& 1 = s0 then some (some (mi s0), g) else none := (mEv_1 _ _ _ _).trans rfl
noncomputable def P_X6_reset (c : mC) : (Option (Int32 × mC)) := (mBo (α := Int32) none (P_X6_of c 5) (fun v1 => (if v1 = 0 then (mBo (α := Int32 × mC) none (P_X6_isSo c 5) (fun p2 => (some (p2.1, p2.2)))) else (mBo (α := mC) none (P_X6_puts c 5 0) (fun c3 => (mBo (α := mC) none (P_X6_starts c3) (fun c4 => (mBo (α := mC) none (P_X6_happens c4 5 (-1)) (fun c5 => (mBo (α := Int32 × mC) none (P_X6_isSo c5 0) (fun p6 => (some (p6.1, p6.2)))))))))))))
theorem rr_X6_reset (d : Nat) {X : mX} {g : mG} {c : mC} : mCall mD X (d + 8) 254 [mr 7 20] (mU g 7 c) = (wO (wW g 7)) (P_X6_reset c) := by
  refine Eq.trans (mCall_eq (d := d + 7) rfl) ?_
  show mEv X (mCall mD X (d + 7)) 2 t_X6_reset (mDrop t_X6_reset 0) [some (mr 7 20)] [] (mU g 7 c) = _
  refine Eq.trans (e_X6_reset_0) ?_
  try simp only [mU_same, mU_mU]
  refine mw_oI ?_ (rr_X6_of (d + 6)) (fun v1 => ?_)
  · rfl
  refine Eq.trans (e_X6_reset_5) ?_
  try simp only [mU_same, mU_mU]
  refine mw_ite (fun h7 => ?_) (fun h7 => ?_)
  · refine Eq.trans (e_X6_reset_8) ?_
    try simp only [mU_same, mU_mU]
    refine mw_oY ?_ (rr_X6_isSo (d + 6)) rfl (fun p2 hp2 => ?_)
    · rfl
    refine Eq.trans (e_X6_reset_13) ?_
    try simp only [mU_same, mU_mU]
    exact if_pos hp2
  · refine Eq.trans (e_X6_reset_14) ?_
    try simp only [mU_same, mU_mU]
    refine mw_oV ?_ (rr_X6_puts (d + 6)) (fun c3 => ?_)
    · rfl
    refine Eq.trans (e_X6_reset_20) ?_
    try simp only [mU_same, mU_mU]
    refine mw_oV ?_ (rr_X6_starts d) (fun c4 => ?_)
    · rfl
    refine Eq.trans (e_X6_reset_24) ?_
    try simp only [mU_same, mU_mU]
    refine mw_oV ?_ (rr_X6_happens (d + 5)) (fun c5 => ?_)
    · rfl
    refine Eq.trans (e_X6_reset_30) ?_
    try simp only [mU_same, mU_mU]
    refine mw_oY ?_ (rr_X6_isSo (d + 6)) rfl (fun p6 hp6 => ?_)
    · rfl
    refine Eq.trans (e_X6_reset_35) ?_
    try simp only [mU_same, mU_mU]
    exact if_pos hp6
theorem rr_X6_reset_at (d : Nat) {X : mX} {g : mG} : mCall mD X (d + 8) 254 [mr 7 20] g = wO (wW g 7) (P_X6_reset (g 7)) := by
  have h := rr_X6_reset (X := X) d (g := g) (c := g 7)
  rw [mU_self] at h
  exact h
theorem e_X6_tick_0 {X : mX} {call : Nat → List mV → mG → mR} {g : mG} {x1 : Int32} : mEv X call 1 t_X6_tick (mDrop t_X6_tick 0) [some (mr 7 20), some (mi x1), none] [] g = mAns (mEv X call 1 t_X6_tick) (mDrop t_X6_tick 8) [some (mr 7 20), some (mi x1), none] [] (call 155 [mi x1, mi 1, mi 300] g) := (mEv_4 _ _ _ _).trans rfl
theorem e_X6_tick_8 {X : mX} {call : Nat → List mV → mG → mR} {g : mG} {x1 s0 : Int32} : mEv X call 1 t_X6_tick (mDrop t_X6_tick 8) [some (mr 7 20), some (mi x1), none] [mi s0] g = if s0 = 0 then mEv X call 1 t_X6_tick (mDrop t_X6_tick 11) [some (mr 7 20), some (mi x1), none] [] g else mEv X call 1 t_X6_tick (mDrop t_X6_tick 17) [some (mr 7 20), some (mi x1), none] [] g := (mEv_1 _ _ _ _).trans rfl
theorem e_X6_tick_11 {X : mX} {call : Nat → List mV → mG → mR} {g : mG} {x1 : Int32} : mEv X call 1 t_X6_tick (mDrop t_X6_tick 11) [some (mr 7 20), some (mi x1), none] [] g = mAns (mEv X call 1 t_X6_tick) (mDrop t_X6_tick 16) [some (mr 7 20), some (mi x1), none] [] (call 152 [mr 7 20, mi 1] g) := (mEv_3 _ _ _ _).trans rfl
theorem e_X6_tick_16 {X : mX} {call : Nat → List mV → mG → mR} {g : mG} {x1 s0 : Int32} : mEv X call 1 t_X6_tick (mDrop t_X6_tick 16) [some (mr 7 20), some (mi x1), none] [mi s0] g = some (some (mi s0), g) := (mEv_1 _ _ _ _).trans rfl
theorem e_X6_tick_17 {X : mX} {call : Nat → List mV → mG → mR} {g : mG} {x1 : Int32} : mEv X call 1 t_X6_tick (mDrop t_X6_tick 17) [some (mr 7 20), some (mi x1), none] [] g = mEv X call 1 t_X6_tick (mDrop t_X6_tick 19) [some (mr 7 20), some (mi x1), some (mi 0)] [] g := (mEv_2 _ _ _ _).trans rfl
theorem e_X6_tick_19 {X : mX} {call : Nat → List mV → mG → mR} {g : mG} {x1 x2 : Int32} : mEv X call 1 t_X6_tick (mDrop t_X6_tick 19) [some (mr 7 20), some (mi x1), some (mi x2)] [] g = if x1 ≤ x2 then mEv X call 1 t_X6_tick (mDrop t_X6_tick 35) [some (mr 7 20), some (mi x1), some (mi x2)] [] g else mEv X call 1 t_X6_tick (mDrop t_X6_tick 24) [some (mr 7 20), some (mi x1), some (mi x2)] [] g := (mEv_3 _ _ _ _).trans rfl
theorem e_X6_tick_35 {X : mX} {call : Nat → List mV → mG → mR} {g : mG} {x1 x2 : Int32} : mEv X call 1 t_X6_tick (mDrop t_X6_tick 35) [some (mr 7 20), some (mi x1), some (mi x2)] [] g = mAns (mEv X call 1 t_X6_tick) (mDrop t_X6_tick 41) [some (mr 7 20), some (mi x1), some (mi x2)] [mr 7 20] (call 158 [mr 7 20, mi 1] g) := (mEv_4 _ _ _ _).trans rfl
theorem e_X6_tick_41 {X : mX} {call : Nat → List mV → mG → mR} {g : mG} {x1 x2 s1 : Int32} : mEv X call 1 t_X6_tick (mDrop t_X6_tick 41) [some (mr 7 20), some (mi x1), some (mi x2)] [mi s1, mr 7 20] g = mAns (mEv X call 1 t_X6_tick) (mDrop t_X6_tick 44) [some (mr 7 20), some (mi x1), some (mi x2)] [] (call 154 [mr 7 20, mi s1] g) := (mEv_1 _ _ _ _).trans rfl
theorem e_X6_tick_44 {X : mX} {call : Nat → List mV → mG → mR} {g : mG} {x1 x2 s0 : Int32} : mEv X call 1 t_X6_tick (mDrop t_X6_tick 44) [some (mr 7 20), some (mi x1), some (mi x2)] [mi s0] g = some (some (mi s0), g) := (mEv_1 _ _ _ _).trans rfl
theorem e_X6_tick_24 {X : mX} {call : Nat → List mV → mG → mR} {g : mG} {x1 x2 : Int32} : mEv X call 1 t_X6_tick (mDrop t_X6_tick 24) [some (mr 7 20), some (mi x1), some (mi x2)] [] g = mAns (mEv X call 1 t_X6_tick) (mDrop t_X6_tick 29) [some (mr 7 20), some (mi x1), some (mi x2)] [] (call 201 [mr 7 20, mi 0] g) := (mEv_3 _ _ _ _).trans rfl
theorem e_X6_tick_29 {X : mX} {call : Nat → List mV → mG → mR} {g : mG} {x1 x2 : Int32} : mEv X call 1 t_X6_tick (mDrop t_X6_tick 29) [some (mr 7 20), some (mi x1), some (mi x2)] [] g = mEv X call 1 t_X6_tick (mDrop t_X6_tick 19) [some (mr 7 20), some (mi x1), some (mi (x2 + 1))] [] g := (mEv_2 _ _ _ _).trans rfl
noncomputable def B_X6_tick_19 (x1 : Int32) : (Int32 × mC) → (Int32 × mC) ⊕ (Option (Int32 × mC)) := fun s => match s with | (x2, c) => (if x1 ≤ x2 then (.inr (mBo (α := Int32) none (P_X6_of c 1) (fun v1 => (mBo (α := Int32 × mC) none (P_X6_gives c v1) (fun p2 => (some (p2.1, p2.2))))))) else (mBo (α := mC) (.inr none) (P_X6_ticks c 0) (fun c3 => (.inl ((x2 + 1), c3)))))
set_option maxRecDepth 100000 in
theorem tm_X6_tick_19 {x1 : Int32} : mTm (B_X6_tick_19 x1) := by
  refine ⟨fun s => match s with | (x2, c) => mMx x2, fun s s2 h => ?_⟩
  obtain ⟨x2, c⟩ := s
  simp only [B_X6_tick_19, mBd, mBo] at h
  (repeat' split at h) <;> first | (have h2 := Sum.inl.inj h; subst h2; dsimp only; first | exact mtm_max (by assumption) | exact mtm_lt (by assumption)) | (cases h; done)
theorem rl_X6_tick_19 (d : Nat) {X : mX} {g : mG} {x1 x2 : Int32} {c : mC} : mEv X (mCall mD X (d + 10)) 1 t_X6_tick (mDrop t_X6_tick 19) [some (mr 7 20), some (mi x1), some (mi x2)] [] (mU g 7 c) = (wO (wW g 7)) (mWh none (B_X6_tick_19 x1) (x2, c)) := by
  refine mWh_ev (B := (B_X6_tick_19 x1)) (ev := fun s : (Int32 × mC) => match s with | (x2, c) => mEv X (mCall mD X (d + 10)) 1 t_X6_tick (mDrop t_X6_tick 19) [some (mr 7 20), some (mi x1), some (mi x2)] [] (mU g 7 c)) (w := (wO (wW g 7))) (tm_X6_tick_19) ?_ (x2, c)
  rintro ⟨x2, c⟩
  show mEv X (mCall mD X (d + 10)) 1 t_X6_tick (mDrop t_X6_tick 19) [some (mr 7 20), some (mi x1), some (mi x2)] [] (mU g 7 c) = wB (fun s : (Int32 × mC) => match s with | (x2, c) => mEv X (mCall mD X (d + 10)) 1 t_X6_tick (mDrop t_X6_tick 19) [some (mr 7 20), some (mi x1), some (mi x2)] [] (mU g 7 c)) (wO (wW g 7)) (B_X6_tick_19 x1 (x2, c))
  refine Eq.trans (e_X6_tick_19) ?_
  try simp only [mU_same, mU_mU]
  refine mw_ite (fun h4 => ?_) (fun h4 => ?_)
  · refine mw_inr ?_
    refine Eq.trans (e_X6_tick_35) ?_
    try simp only [mU_same, mU_mU]
    refine mw_oI ?_ (rr_X6_of (d + 9)) (fun v1 => ?_)
    · rfl
    refine Eq.trans (e_X6_tick_41) ?_
    try simp only [mU_same, mU_mU]
    refine mw_oW ?_ (rr_X6_gives (d + 9)) (fun p2 => ?_)
    · rfl
    refine Eq.trans (e_X6_tick_44) ?_
    try simp only [mU_same, mU_mU]
    all_goals rfl
  · refine Eq.trans (e_X6_tick_24) ?_
    try simp only [mU_same, mU_mU]
    refine mw_oV ?_ (rr_X6_ticks d) (fun c3 => ?_)
    · rfl
    refine Eq.trans (e_X6_tick_29) ?_
    try simp only [mU_same, mU_mU]
    exact mw_inl rfl
noncomputable def P_X6_tick (c : mC) (x1 : Int32) : (Option (Int32 × mC)) := (mBd (α := Int32) (P_X6_isFrom x1 1 300) (fun v1 => (if v1 = 0 then (mBo (α := Int32 × mC) none (P_X6_refuse c 1) (fun p2 => (some (p2.1, p2.2)))) else (mWh none (B_X6_tick_19 x1) (0, c)))))
theorem rr_X6_tick (d : Nat) {X : mX} {g : mG} {x1 : Int32} {c : mC} : mCall mD X (d + 11) 255 [mr 7 20, mi x1] (mU g 7 c) = (wO (wW g 7)) (P_X6_tick c x1) := by
  refine Eq.trans (mCall_eq (d := d + 10) rfl) ?_
  show mEv X (mCall mD X (d + 10)) 1 t_X6_tick (mDrop t_X6_tick 0) [some (mr 7 20), some (mi x1), none] [] (mU g 7 c) = _
  refine Eq.trans (e_X6_tick_0) ?_
  try simp only [mU_same, mU_mU]
  refine mw_cZ (rr_X6_isFrom (d + 9)) rfl (fun v1 hv1 => ?_)
  refine Eq.trans (e_X6_tick_8) ?_
  try simp only [mU_same, mU_mU]
  refine mw_ite (fun h3 => ?_) (fun h3 => ?_)
  · refine Eq.trans (e_X6_tick_11) ?_
    try simp only [mU_same, mU_mU]
    refine mw_oW ?_ (rr_X6_refuse (d + 9)) (fun p2 => ?_)
    · rfl
    refine Eq.trans (e_X6_tick_16) ?_
    try simp only [mU_same, mU_mU]
    all_goals rfl
  · refine Eq.trans (e_X6_tick_17) ?_
    try simp only [mU_same, mU_mU]
    exact rl_X6_tick_19 d
theorem rr_X6_tick_at (d : Nat) {X : mX} {g : mG} {x1 : Int32} : mCall mD X (d + 11) 255 [mr 7 20, mi x1] g = wO (wW g 7) (P_X6_tick (g 7) x1) := by
  have h := rr_X6_tick (X := X) d (g := g) (c := g 7) (x1 := x1)
  rw [mU_self] at h
  exact h
theorem e_X6_run_0 {X : mX} {call : Nat → List mV → mG → mR} {g : mG} {x1 x2 : Int32} : mEv X call 1 t_X6_run (mDrop t_X6_run 0) [some (mr 7 20), some (mi x1), some (mi x2), none] [] g = mAns (mEv X call 1 t_X6_run) (mDrop t_X6_run 8) [some (mr 7 20), some (mi x1), some (mi x2), none] [] (call 155 [mi x1, mi 1, mi 300] g) := (mEv_4 _ _ _ _).trans rfl
theorem e_X6_run_8 {X : mX} {call : Nat → List mV → mG → mR} {g : mG} {x1 x2 s0 : Int32} : mEv X call 1 t_X6_run (mDrop t_X6_run 8) [some (mr 7 20), some (mi x1), some (mi x2), none] [mi s0] g = if s0 = 0 then mEv X call 1 t_X6_run (mDrop t_X6_run 22) [some (mr 7 20), some (mi x1), some (mi x2), none] [] g else mEv X call 1 t_X6_run (mDrop t_X6_run 11) [some (mr 7 20), some (mi x1), some (mi x2), none] [] g := (mEv_1 _ _ _ _).trans rfl
theorem e_X6_run_22 {X : mX} {call : Nat → List mV → mG → mR} {g : mG} {x1 x2 : Int32} : mEv X call 1 t_X6_run (mDrop t_X6_run 22) [some (mr 7 20), some (mi x1), some (mi x2), none] [] g = mAns (mEv X call 1 t_X6_run) (mDrop t_X6_run 27) [some (mr 7 20), some (mi x1), some (mi x2), none] [] (call 152 [mr 7 20, mi 1] g) := (mEv_3 _ _ _ _).trans rfl
theorem e_X6_run_27 {X : mX} {call : Nat → List mV → mG → mR} {g : mG} {x1 x2 s0 : Int32} : mEv X call 1 t_X6_run (mDrop t_X6_run 27) [some (mr 7 20), some (mi x1), some (mi x2), none] [mi s0] g = some (some (mi s0), g) := (mEv_1 _ _ _ _).trans rfl
noncomputable def J_X6_run_22 (c : mC) : (Option (Int32 × mC)) := (mBo (α := Int32 × mC) none (P_X6_refuse c 1) (fun p1 => (some (p1.1, p1.2))))
theorem rj_X6_run_22 (d : Nat) {X : mX} {g : mG} {x1 x2 : Int32} {c : mC} : mEv X (mCall mD X (d + 10)) 1 t_X6_run (mDrop t_X6_run 22) [some (mr 7 20), some (mi x1), some (mi x2), none] [] (mU g 7 c) = (wO (wW g 7)) (J_X6_run_22 c) := by
  refine Eq.trans (e_X6_run_22) ?_
  try simp only [mU_same, mU_mU]
  refine mw_oW ?_ (rr_X6_refuse (d + 9)) (fun p1 => ?_)
  · rfl
  refine Eq.trans (e_X6_run_27) ?_
  try simp only [mU_same, mU_mU]
  all_goals rfl
theorem e_X6_run_11 {X : mX} {call : Nat → List mV → mG → mR} {g : mG} {x1 x2 : Int32} : mEv X call 1 t_X6_run (mDrop t_X6_run 11) [some (mr 7 20), some (mi x1), some (mi x2), none] [] g = mAns (mEv X call 1 t_X6_run) (mDrop t_X6_run 19) [some (mr 7 20), some (mi x1), some (mi x2), none] [] (call 155 [mi x2, mi 0, mi 9999] g) := (mEv_4 _ _ _ _).trans rfl
theorem e_X6_run_19 {X : mX} {call : Nat → List mV → mG → mR} {g : mG} {x1 x2 s0 : Int32} : mEv X call 1 t_X6_run (mDrop t_X6_run 19) [some (mr 7 20), some (mi x1), some (mi x2), none] [mi s0] g = if s0 = 0 then mEv X call 1 t_X6_run (mDrop t_X6_run 22) [some (mr 7 20), some (mi x1), some (mi x2), none] [] g else mEv X call 1 t_X6_run (mDrop t_X6_run 28) [some (mr 7 20), some (mi x1), some (mi x2), none] [] g := (mEv_1 _ _ _ _).trans rfl
theorem e_X6_run_28 {X : mX} {call : Nat → List mV → mG → mR} {g : mG} {x1 x2 : Int32} : mEv X call 1 t_X6_run (mDrop t_X6_run 28) [some (mr 7 20), some (mi x1), some (mi x2), none] [] g = mEv X call 1 t_X6_run (mDrop t_X6_run 33) [some (mr 7 20), some (mi x1), some (mi x2), none] [] (mU g 7 (mP (g 7) 20 3 x2)) := (mEv_3 _ _ _ _).trans rfl
theorem e_X6_run_33 {X : mX} {call : Nat → List mV → mG → mR} {g : mG} {x1 x2 : Int32} : mEv X call 1 t_X6_run (mDrop t_X6_run 33) [some (mr 7 20), some (mi x1), some (mi x2), none] [] g = mEv X call 1 t_X6_run (mDrop t_X6_run 38) [some (mr 7 20), some (mi x1), some (mi x2), none] [] (mU g 7 (mP (g 7) 20 4 0)) := (mEv_3 _ _ _ _).trans rfl
theorem e_X6_run_38 {X : mX} {call : Nat → List mV → mG → mR} {g : mG} {x1 x2 : Int32} : mEv X call 1 t_X6_run (mDrop t_X6_run 38) [some (mr 7 20), some (mi x1), some (mi x2), none] [] g = mEv X call 1 t_X6_run (mDrop t_X6_run 40) [some (mr 7 20), some (mi x1), some (mi x2), some (mi 0)] [] g := (mEv_2 _ _ _ _).trans rfl
theorem e_X6_run_40 {X : mX} {call : Nat → List mV → mG → mR} {g : mG} {x1 x2 x3 : Int32} : mEv X call 1 t_X6_run (mDrop t_X6_run 40) [some (mr 7 20), some (mi x1), some (mi x2), some (mi x3)] [] g = if x1 ≤ x3 then mEv X call 1 t_X6_run (mDrop t_X6_run 56) [some (mr 7 20), some (mi x1), some (mi x2), some (mi x3)] [] g else mEv X call 1 t_X6_run (mDrop t_X6_run 45) [some (mr 7 20), some (mi x1), some (mi x2), some (mi x3)] [] g := (mEv_3 _ _ _ _).trans rfl
theorem e_X6_run_56 {X : mX} {call : Nat → List mV → mG → mR} {g : mG} {x1 x2 x3 : Int32} : mEv X call 1 t_X6_run (mDrop t_X6_run 56) [some (mr 7 20), some (mi x1), some (mi x2), some (mi x3)] [] g = mAns (mEv X call 1 t_X6_run) (mDrop t_X6_run 64) [some (mr 7 20), some (mi x1), some (mi x2), some (mi x3)] [] (call 154 [mr 7 20, mi (g 7 20 4)] g) := (mEv_4 _ _ _ _).trans rfl
theorem e_X6_run_64 {X : mX} {call : Nat → List mV → mG → mR} {g : mG} {x1 x2 x3 s0 : Int32} : mEv X call 1 t_X6_run (mDrop t_X6_run 64) [some (mr 7 20), some (mi x1), some (mi x2), some (mi x3)] [mi s0] g = some (some (mi s0), g) := (mEv_1 _ _ _ _).trans rfl
theorem e_X6_run_45 {X : mX} {call : Nat → List mV → mG → mR} {g : mG} {x1 x2 x3 : Int32} : mEv X call 1 t_X6_run (mDrop t_X6_run 45) [some (mr 7 20), some (mi x1), some (mi x2), some (mi x3)] [] g = mAns (mEv X call 1 t_X6_run) (mDrop t_X6_run 50) [some (mr 7 20), some (mi x1), some (mi x2), some (mi x3)] [] (call 201 [mr 7 20, mi 1] g) := (mEv_3 _ _ _ _).trans rfl
theorem e_X6_run_50 {X : mX} {call : Nat → List mV → mG → mR} {g : mG} {x1 x2 x3 : Int32} : mEv X call 1 t_X6_run (mDrop t_X6_run 50) [some (mr 7 20), some (mi x1), some (mi x2), some (mi x3)] [] g = mEv X call 1 t_X6_run (mDrop t_X6_run 40) [some (mr 7 20), some (mi x1), some (mi x2), some (mi (x3 + 1))] [] g := (mEv_2 _ _ _ _).trans rfl
noncomputable def B_X6_run_40 (x1 : Int32) : (Int32 × mC) → (Int32 × mC) ⊕ (Option (Int32 × mC)) := fun s => match s with | (x3, c) => (if x1 ≤ x3 then (.inr (mBo (α := Int32 × mC) none (P_X6_gives c (c 20 4)) (fun p1 => (some (p1.1, p1.2))))) else (mBo (α := mC) (.inr none) (P_X6_ticks c 1) (fun c2 => (.inl ((x3 + 1), c2)))))
set_option maxRecDepth 100000 in
theorem tm_X6_run_40 {x1 : Int32} : mTm (B_X6_run_40 x1) := by
  refine ⟨fun s => match s with | (x3, c) => mMx x3, fun s s2 h => ?_⟩
  obtain ⟨x3, c⟩ := s
  simp only [B_X6_run_40, mBd, mBo] at h
  (repeat' split at h) <;> first | (have h2 := Sum.inl.inj h; subst h2; dsimp only; first | exact mtm_max (by assumption) | exact mtm_lt (by assumption)) | (cases h; done)
theorem rl_X6_run_40 (d : Nat) {X : mX} {g : mG} {x1 x2 x3 : Int32} {c : mC} : mEv X (mCall mD X (d + 10)) 1 t_X6_run (mDrop t_X6_run 40) [some (mr 7 20), some (mi x1), some (mi x2), some (mi x3)] [] (mU g 7 c) = (wO (wW g 7)) (mWh none (B_X6_run_40 x1) (x3, c)) := by
  refine mWh_ev (B := (B_X6_run_40 x1)) (ev := fun s : (Int32 × mC) => match s with | (x3, c) => mEv X (mCall mD X (d + 10)) 1 t_X6_run (mDrop t_X6_run 40) [some (mr 7 20), some (mi x1), some (mi x2), some (mi x3)] [] (mU g 7 c)) (w := (wO (wW g 7))) (tm_X6_run_40) ?_ (x3, c)
  rintro ⟨x3, c⟩
  show mEv X (mCall mD X (d + 10)) 1 t_X6_run (mDrop t_X6_run 40) [some (mr 7 20), some (mi x1), some (mi x2), some (mi x3)] [] (mU g 7 c) = wB (fun s : (Int32 × mC) => match s with | (x3, c) => mEv X (mCall mD X (d + 10)) 1 t_X6_run (mDrop t_X6_run 40) [some (mr 7 20), some (mi x1), some (mi x2), some (mi x3)] [] (mU g 7 c)) (wO (wW g 7)) (B_X6_run_40 x1 (x3, c))
  refine Eq.trans (e_X6_run_40) ?_
  try simp only [mU_same, mU_mU]
  refine mw_ite (fun h3 => ?_) (fun h3 => ?_)
  · refine mw_inr ?_
    refine Eq.trans (e_X6_run_56) ?_
    try simp only [mU_same, mU_mU]
    refine mw_oW ?_ (rr_X6_gives (d + 9)) (fun p1 => ?_)
    · rfl
    refine Eq.trans (e_X6_run_64) ?_
    try simp only [mU_same, mU_mU]
    all_goals rfl
  · refine Eq.trans (e_X6_run_45) ?_
    try simp only [mU_same, mU_mU]
    refine mw_oV ?_ (rr_X6_ticks d) (fun c2 => ?_)
    · rfl
    refine Eq.trans (e_X6_run_50) ?_
    try simp only [mU_same, mU_mU]
    exact mw_inl rfl
noncomputable def P_X6_run (c : mC) (x1 : Int32) (x2 : Int32) : (Option (Int32 × mC)) := (mBd (α := Int32) (P_X6_isFrom x1 1 300) (fun v1 => (if v1 = 0 then (J_X6_run_22 c) else (mBd (α := Int32) (P_X6_isFrom x2 0 9999) (fun v2 => (if v2 = 0 then (J_X6_run_22 c) else (mWh none (B_X6_run_40 x1) (0, (mP (mP c 20 3 x2) 20 4 0)))))))))
theorem rr_X6_run (d : Nat) {X : mX} {g : mG} {x1 x2 : Int32} {c : mC} : mCall mD X (d + 11) 256 [mr 7 20, mi x1, mi x2] (mU g 7 c) = (wO (wW g 7)) (P_X6_run c x1 x2) := by
  refine Eq.trans (mCall_eq (d := d + 10) rfl) ?_
  show mEv X (mCall mD X (d + 10)) 1 t_X6_run (mDrop t_X6_run 0) [some (mr 7 20), some (mi x1), some (mi x2), none] [] (mU g 7 c) = _
  refine Eq.trans (e_X6_run_0) ?_
  try simp only [mU_same, mU_mU]
  refine mw_cZ (rr_X6_isFrom (d + 9)) rfl (fun v1 hv1 => ?_)
  refine Eq.trans (e_X6_run_8) ?_
  try simp only [mU_same, mU_mU]
  refine mw_ite (fun h4 => ?_) (fun h4 => ?_)
  · exact rj_X6_run_22 d
  · refine Eq.trans (e_X6_run_11) ?_
    try simp only [mU_same, mU_mU]
    refine mw_cZ (rr_X6_isFrom (d + 9)) rfl (fun v2 hv2 => ?_)
    refine Eq.trans (e_X6_run_19) ?_
    try simp only [mU_same, mU_mU]
    refine mw_ite (fun h3 => ?_) (fun h3 => ?_)
    · exact rj_X6_run_22 d
    · refine Eq.trans (e_X6_run_28) ?_
      try simp only [mU_same, mU_mU]
      refine Eq.trans (e_X6_run_33) ?_
      try simp only [mU_same, mU_mU]
      refine Eq.trans (e_X6_run_38) ?_
      try simp only [mU_same, mU_mU]
      exact rl_X6_run_40 d
theorem rr_X6_run_at (d : Nat) {X : mX} {g : mG} {x1 x2 : Int32} : mCall mD X (d + 11) 256 [mr 7 20, mi x1, mi x2] g = wO (wW g 7) (P_X6_run (g 7) x1 x2) := by
  have h := rr_X6_run (X := X) d (g := g) (c := g 7) (x1 := x1) (x2 := x2)
  rw [mU_self] at h
  exact h
theorem e_X6_keep_0 {X : mX} {call : Nat → List mV → mG → mR} {g : mG} : mEv X call 1 t_X6_keep (mDrop t_X6_keep 0) [some (mr 7 20)] [] g = if (g 7 20 2) = 3 then mEv X call 1 t_X6_keep (mDrop t_X6_keep 8) [some (mr 7 20)] [] g else mEv X call 1 t_X6_keep (mDrop t_X6_keep 14) [some (mr 7 20)] [] g := (mEv_4 _ _ _ _).trans rfl
theorem e_X6_keep_8 {X : mX} {call : Nat → List mV → mG → mR} {g : mG} : mEv X call 1 t_X6_keep (mDrop t_X6_keep 8) [some (mr 7 20)] [] g = mAns (mEv X call 1 t_X6_keep) (mDrop t_X6_keep 13) [some (mr 7 20)] [] (call 152 [mr 7 20, mi 3] g) := (mEv_3 _ _ _ _).trans rfl
theorem e_X6_keep_13 {X : mX} {call : Nat → List mV → mG → mR} {g : mG} {s0 : Int32} : mEv X call 1 t_X6_keep (mDrop t_X6_keep 13) [some (mr 7 20)] [mi s0] g = some (some (mi s0), g) := (mEv_1 _ _ _ _).trans rfl
theorem e_X6_keep_14 {X : mX} {call : Nat → List mV → mG → mR} {g : mG} : mEv X call 1 t_X6_keep (mDrop t_X6_keep 14) [some (mr 7 20)] [] g = mAns (mEv X call 1 t_X6_keep) (mDrop t_X6_keep 31) [some (mr 7 20)] [] (call 161 [mr 7 20, mi 0, mi ((576 : Int32) + ((288 : Int32) * (g 7 20 2)))] g) := (mEv_9 _ _ _ _).trans rfl
theorem e_X6_keep_31 {X : mX} {call : Nat → List mV → mG → mR} {g : mG} : mEv X call 1 t_X6_keep (mDrop t_X6_keep 31) [some (mr 7 20)] [] g = mEv X call 1 t_X6_keep (mDrop t_X6_keep 41) [some (mr 7 20)] [] (mU g 7 (mP (g 7) 20 2 ((g 7 20 2) + 1))) := (mEv_6 _ _ _ _).trans rfl
theorem e_X6_keep_41 {X : mX} {call : Nat → List mV → mG → mR} {g : mG} : mEv X call 1 t_X6_keep (mDrop t_X6_keep 41) [some (mr 7 20)] [] g = mAns (mEv X call 1 t_X6_keep) (mDrop t_X6_keep 49) [some (mr 7 20)] [] (call 154 [mr 7 20, mi (g 7 20 2)] g) := (mEv_4 _ _ _ _).trans rfl
theorem e_X6_keep_49 {X : mX} {call : Nat → List mV → mG → mR} {g : mG} {s0 : Int32} : mEv X call 1 t_X6_keep (mDrop t_X6_keep 49) [some (mr 7 20)] [mi s0] g = some (some (mi s0), g) := (mEv_1 _ _ _ _).trans rfl
noncomputable def P_X6_keep (c : mC) : (Option (Int32 × mC)) := (if (c 20 2) = 3 then (mBo (α := Int32 × mC) none (P_X6_refuse c 3) (fun p1 => (some (p1.1, p1.2)))) else (mBo (α := mC) none (P_X6_copies c 0 ((576 : Int32) + ((288 : Int32) * (c 20 2)))) (fun c2 => (mBo (α := Int32 × mC) none (P_X6_gives (mP c2 20 2 ((c2 20 2) + 1)) ((mP c2 20 2 ((c2 20 2) + 1)) 20 2)) (fun p3 => (some (p3.1, p3.2)))))))
theorem rr_X6_keep (d : Nat) {X : mX} {g : mG} {c : mC} : mCall mD X (d + 2) 257 [mr 7 20] (mU g 7 c) = (wO (wW g 7)) (P_X6_keep c) := by
  refine Eq.trans (mCall_eq (d := d + 1) rfl) ?_
  show mEv X (mCall mD X (d + 1)) 1 t_X6_keep (mDrop t_X6_keep 0) [some (mr 7 20)] [] (mU g 7 c) = _
  refine Eq.trans (e_X6_keep_0) ?_
  try simp only [mU_same, mU_mU]
  refine mw_ite (fun h4 => ?_) (fun h4 => ?_)
  · refine Eq.trans (e_X6_keep_8) ?_
    try simp only [mU_same, mU_mU]
    refine mw_oW ?_ (rr_X6_refuse d) (fun p1 => ?_)
    · rfl
    refine Eq.trans (e_X6_keep_13) ?_
    try simp only [mU_same, mU_mU]
    all_goals rfl
  · refine Eq.trans (e_X6_keep_14) ?_
    try simp only [mU_same, mU_mU]
    refine mw_oV ?_ (rr_X6_copies d) (fun c2 => ?_)
    · rfl
    refine Eq.trans (e_X6_keep_31) ?_
    try simp only [mU_same, mU_mU]
    refine Eq.trans (e_X6_keep_41) ?_
    try simp only [mU_same, mU_mU]
    refine mw_oW ?_ (rr_X6_gives d) (fun p3 => ?_)
    · rfl
    refine Eq.trans (e_X6_keep_49) ?_
    try simp only [mU_same, mU_mU]
    all_goals rfl
theorem rr_X6_keep_at (d : Nat) {X : mX} {g : mG} : mCall mD X (d + 2) 257 [mr 7 20] g = wO (wW g 7) (P_X6_keep (g 7)) := by
  have h := rr_X6_keep (X := X) d (g := g) (c := g 7)
  rw [mU_self] at h
  exact h
theorem e_X6_back_0 {X : mX} {call : Nat → List mV → mG → mR} {g : mG} : mEv X call 1 t_X6_back (mDrop t_X6_back 0) [some (mr 7 20)] [] g = if (g 7 20 2) = 0 then mEv X call 1 t_X6_back (mDrop t_X6_back 7) [some (mr 7 20)] [] g else mEv X call 1 t_X6_back (mDrop t_X6_back 13) [some (mr 7 20)] [] g := (mEv_3 _ _ _ _).trans rfl
theorem e_X6_back_7 {X : mX} {call : Nat → List mV → mG → mR} {g : mG} : mEv X call 1 t_X6_back (mDrop t_X6_back 7) [some (mr 7 20)] [] g = mAns (mEv X call 1 t_X6_back) (mDrop t_X6_back 12) [some (mr 7 20)] [] (call 152 [mr 7 20, mi 5] g) := (mEv_3 _ _ _ _).trans rfl
theorem e_X6_back_12 {X : mX} {call : Nat → List mV → mG → mR} {g : mG} {s0 : Int32} : mEv X call 1 t_X6_back (mDrop t_X6_back 12) [some (mr 7 20)] [mi s0] g = some (some (mi s0), g) := (mEv_1 _ _ _ _).trans rfl
theorem e_X6_back_13 {X : mX} {call : Nat → List mV → mG → mR} {g : mG} : mEv X call 1 t_X6_back (mDrop t_X6_back 13) [some (mr 7 20)] [] g = mEv X call 1 t_X6_back (mDrop t_X6_back 23) [some (mr 7 20)] [] (mU g 7 (mP (g 7) 20 2 ((g 7 20 2) - 1))) := (mEv_6 _ _ _ _).trans rfl
theorem e_X6_back_23 {X : mX} {call : Nat → List mV → mG → mR} {g : mG} : mEv X call 1 t_X6_back (mDrop t_X6_back 23) [some (mr 7 20)] [] g = mAns (mEv X call 1 t_X6_back) (mDrop t_X6_back 40) [some (mr 7 20)] [] (call 161 [mr 7 20, mi ((576 : Int32) + ((288 : Int32) * (g 7 20 2))), mi 0] g) := (mEv_9 _ _ _ _).trans rfl
theorem e_X6_back_40 {X : mX} {call : Nat → List mV → mG → mR} {g : mG} : mEv X call 1 t_X6_back (mDrop t_X6_back 40) [some (mr 7 20)] [] g = mAns (mEv X call 1 t_X6_back) (mDrop t_X6_back 48) [some (mr 7 20)] [] (call 154 [mr 7 20, mi (g 7 20 2)] g) := (mEv_4 _ _ _ _).trans rfl
theorem e_X6_back_48 {X : mX} {call : Nat → List mV → mG → mR} {g : mG} {s0 : Int32} : mEv X call 1 t_X6_back (mDrop t_X6_back 48) [some (mr 7 20)] [mi s0] g = some (some (mi s0), g) := (mEv_1 _ _ _ _).trans rfl
noncomputable def P_X6_back (c : mC) : (Option (Int32 × mC)) := (if (c 20 2) = 0 then (mBo (α := Int32 × mC) none (P_X6_refuse c 5) (fun p1 => (some (p1.1, p1.2)))) else (mBo (α := mC) none (P_X6_copies (mP c 20 2 ((c 20 2) - 1)) ((576 : Int32) + ((288 : Int32) * ((mP c 20 2 ((c 20 2) - 1)) 20 2))) 0) (fun c2 => (mBo (α := Int32 × mC) none (P_X6_gives c2 (c2 20 2)) (fun p3 => (some (p3.1, p3.2)))))))
theorem rr_X6_back (d : Nat) {X : mX} {g : mG} {c : mC} : mCall mD X (d + 2) 258 [mr 7 20] (mU g 7 c) = (wO (wW g 7)) (P_X6_back c) := by
  refine Eq.trans (mCall_eq (d := d + 1) rfl) ?_
  show mEv X (mCall mD X (d + 1)) 1 t_X6_back (mDrop t_X6_back 0) [some (mr 7 20)] [] (mU g 7 c) = _
  refine Eq.trans (e_X6_back_0) ?_
  try simp only [mU_same, mU_mU]
  refine mw_ite (fun h4 => ?_) (fun h4 => ?_)
  · refine Eq.trans (e_X6_back_7) ?_
    try simp only [mU_same, mU_mU]
    refine mw_oW ?_ (rr_X6_refuse d) (fun p1 => ?_)
    · rfl
    refine Eq.trans (e_X6_back_12) ?_
    try simp only [mU_same, mU_mU]
    all_goals rfl
  · refine Eq.trans (e_X6_back_13) ?_
    try simp only [mU_same, mU_mU]
    refine Eq.trans (e_X6_back_23) ?_
    try simp only [mU_same, mU_mU]
    refine mw_oV ?_ (rr_X6_copies d) (fun c2 => ?_)
    · rfl
    refine Eq.trans (e_X6_back_40) ?_
    try simp only [mU_same, mU_mU]
    refine mw_oW ?_ (rr_X6_gives d) (fun p3 => ?_)
    · rfl
    refine Eq.trans (e_X6_back_48) ?_
    try simp only [mU_same, mU_mU]
    all_goals rfl
theorem rr_X6_back_at (d : Nat) {X : mX} {g : mG} : mCall mD X (d + 2) 258 [mr 7 20] g = wO (wW g 7) (P_X6_back (g 7)) := by
  have h := rr_X6_back (X := X) d (g := g) (c := g 7)
  rw [mU_self] at h
  exact h
theorem e_X6_foes_0 {X : mX} {call : Nat → List mV → mG → mR} {g : mG} {x1 x2 : Int32} : mEv X call 1 t_X6_foes (mDrop t_X6_foes 0) [some (mr 7 20), some (mi x1), some (mi x2)] [] g = mAns (mEv X call 1 t_X6_foes) (mDrop t_X6_foes 5) [some (mr 7 20), some (mi x1), some (mi x2)] [] (call 168 [mr 7 20, mi x1] g) := (mEv_3 _ _ _ _).trans rfl
theorem e_X6_foes_5 {X : mX} {call : Nat → List mV → mG → mR} {g : mG} {x1 x2 s0 : Int32} : mEv X call 1 t_X6_foes (mDrop t_X6_foes 5) [some (mr 7 20), some (mi x1), some (mi x2)] [mi s0] g = if s0 = 0 then mEv X call 1 t_X6_foes (mDrop t_X6_foes 37) [some (mr 7 20), some (mi x1), some (mi x2)] [] g else mEv X call 1 t_X6_foes (mDrop t_X6_foes 8) [some (mr 7 20), some (mi x1), some (mi x2)] [] g := (mEv_1 _ _ _ _).trans rfl
theorem e_X6_foes_37 {X : mX} {call : Nat → List mV → mG → mR} {g : mG} {x1 x2 : Int32} : mEv X call 1 t_X6_foes (mDrop t_X6_foes 37) [some (mr 7 20), some (mi x1), some (mi x2)] [] g = mAns (mEv X call 1 t_X6_foes) (mDrop t_X6_foes 42) [some (mr 7 20), some (mi x1), some (mi x2)] [] (call 152 [mr 7 20, mi 2] g) := (mEv_3 _ _ _ _).trans rfl
theorem e_X6_foes_42 {X : mX} {call : Nat → List mV → mG → mR} {g : mG} {x1 x2 s0 : Int32} : mEv X call 1 t_X6_foes (mDrop t_X6_foes 42) [some (mr 7 20), some (mi x1), some (mi x2)] [mi s0] g = some (some (mi s0), g) := (mEv_1 _ _ _ _).trans rfl
noncomputable def J_X6_foes_37 (c : mC) : (Option (Int32 × mC)) := (mBo (α := Int32 × mC) none (P_X6_refuse c 2) (fun p1 => (some (p1.1, p1.2))))
theorem rj_X6_foes_37 (d : Nat) {X : mX} {g : mG} {x1 x2 : Int32} {c : mC} : mEv X (mCall mD X (d + 3)) 1 t_X6_foes (mDrop t_X6_foes 37) [some (mr 7 20), some (mi x1), some (mi x2)] [] (mU g 7 c) = (wO (wW g 7)) (J_X6_foes_37 c) := by
  refine Eq.trans (e_X6_foes_37) ?_
  try simp only [mU_same, mU_mU]
  refine mw_oW ?_ (rr_X6_refuse (d + 2)) (fun p1 => ?_)
  · rfl
  refine Eq.trans (e_X6_foes_42) ?_
  try simp only [mU_same, mU_mU]
  all_goals rfl
theorem e_X6_foes_8 {X : mX} {call : Nat → List mV → mG → mR} {g : mG} {x1 x2 : Int32} : mEv X call 1 t_X6_foes (mDrop t_X6_foes 8) [some (mr 7 20), some (mi x1), some (mi x2)] [] g = mAns (mEv X call 1 t_X6_foes) (mDrop t_X6_foes 13) [some (mr 7 20), some (mi x1), some (mi x2)] [] (call 168 [mr 7 20, mi x2] g) := (mEv_3 _ _ _ _).trans rfl
theorem e_X6_foes_13 {X : mX} {call : Nat → List mV → mG → mR} {g : mG} {x1 x2 s0 : Int32} : mEv X call 1 t_X6_foes (mDrop t_X6_foes 13) [some (mr 7 20), some (mi x1), some (mi x2)] [mi s0] g = if s0 = 0 then mEv X call 1 t_X6_foes (mDrop t_X6_foes 37) [some (mr 7 20), some (mi x1), some (mi x2)] [] g else mEv X call 1 t_X6_foes (mDrop t_X6_foes 16) [some (mr 7 20), some (mi x1), some (mi x2)] [] g := (mEv_1 _ _ _ _).trans rfl
theorem e_X6_foes_16 {X : mX} {call : Nat → List mV → mG → mR} {g : mG} {x1 x2 : Int32} : mEv X call 1 t_X6_foes (mDrop t_X6_foes 16) [some (mr 7 20), some (mi x1), some (mi x2)] [] g = mAns (mEv X call 1 t_X6_foes) (mDrop t_X6_foes 23) [some (mr 7 20), some (mi x1), some (mi x2)] [mr 7 20] (call 170 [mr 7 20, mi x1, mi x2] g) := (mEv_5 _ _ _ _).trans rfl
theorem e_X6_foes_23 {X : mX} {call : Nat → List mV → mG → mR} {g : mG} {x1 x2 s1 : Int32} : mEv X call 1 t_X6_foes (mDrop t_X6_foes 23) [some (mr 7 20), some (mi x1), some (mi x2)] [mi s1, mr 7 20] g = if s1 = 0 then mEv X call 1 t_X6_foes (mDrop t_X6_foes 30) [some (mr 7 20), some (mi x1), some (mi x2)] [mr 7 20] g else mEv X call 1 t_X6_foes (mDrop t_X6_foes 26) [some (mr 7 20), some (mi x1), some (mi x2)] [mr 7 20] g := (mEv_1 _ _ _ _).trans rfl
theorem e_X6_foes_30 {X : mX} {call : Nat → List mV → mG → mR} {g : mG} {x1 x2 : Int32} : mEv X call 1 t_X6_foes (mDrop t_X6_foes 30) [some (mr 7 20), some (mi x1), some (mi x2)] [mr 7 20] g = mEv X call 1 t_X6_foes (mDrop t_X6_foes 31) [some (mr 7 20), some (mi x1), some (mi x2)] [mi 0, mr 7 20] g := (mEv_1 _ _ _ _).trans rfl
theorem e_X6_foes_31 {X : mX} {call : Nat → List mV → mG → mR} {g : mG} {x1 x2 s1 : Int32} : mEv X call 1 t_X6_foes (mDrop t_X6_foes 31) [some (mr 7 20), some (mi x1), some (mi x2)] [mi s1, mr 7 20] g = mAns (mEv X call 1 t_X6_foes) (mDrop t_X6_foes 34) [some (mr 7 20), some (mi x1), some (mi x2)] [] (call 154 [mr 7 20, mi s1] g) := (mEv_1 _ _ _ _).trans rfl
theorem e_X6_foes_34 {X : mX} {call : Nat → List mV → mG → mR} {g : mG} {x1 x2 s0 : Int32} : mEv X call 1 t_X6_foes (mDrop t_X6_foes 34) [some (mr 7 20), some (mi x1), some (mi x2)] [mi s0] g = mEv X call 1 t_X6_foes (mDrop t_X6_foes 42) [some (mr 7 20), some (mi x1), some (mi x2)] [mi s0] g := (mEv_1 _ _ _ _).trans rfl
noncomputable def J_X6_foes_31 (c : mC) (s1 : Int32) : (Option (Int32 × mC)) := (mBo (α := Int32 × mC) none (P_X6_gives c s1) (fun p1 => (some (p1.1, p1.2))))
theorem rj_X6_foes_31 (d : Nat) {X : mX} {g : mG} {x1 x2 s1 : Int32} {c : mC} : mEv X (mCall mD X (d + 3)) 1 t_X6_foes (mDrop t_X6_foes 31) [some (mr 7 20), some (mi x1), some (mi x2)] [mi s1, mr 7 20] (mU g 7 c) = (wO (wW g 7)) (J_X6_foes_31 c s1) := by
  refine Eq.trans (e_X6_foes_31) ?_
  try simp only [mU_same, mU_mU]
  refine mw_oW ?_ (rr_X6_gives (d + 2)) (fun p1 => ?_)
  · rfl
  refine Eq.trans (e_X6_foes_34) ?_
  try simp only [mU_same, mU_mU]
  refine Eq.trans (e_X6_foes_42) ?_
  try simp only [mU_same, mU_mU]
  all_goals rfl
theorem e_X6_foes_26 {X : mX} {call : Nat → List mV → mG → mR} {g : mG} {x1 x2 : Int32} : mEv X call 1 t_X6_foes (mDrop t_X6_foes 26) [some (mr 7 20), some (mi x1), some (mi x2)] [mr 7 20] g = mEv X call 1 t_X6_foes (mDrop t_X6_foes 31) [some (mr 7 20), some (mi x1), some (mi x2)] [mi 1, mr 7 20] g := (mEv_2 _ _ _ _).trans rfl
noncomputable def P_X6_foes (c : mC) (x1 : Int32) (x2 : Int32) : (Option (Int32 × mC)) := (mBo (α := Int32) none (P_X6_isPhase c x1) (fun v1 => (if v1 = 0 then (J_X6_foes_37 c) else (mBo (α := Int32) none (P_X6_isPhase c x2) (fun v2 => (if v2 = 0 then (J_X6_foes_37 c) else (mBo (α := Int32) none (P_X6_areFoes c x1 x2) (fun v3 => (if v3 = 0 then (J_X6_foes_31 c 0) else (J_X6_foes_31 c 1))))))))))
theorem rr_X6_foes (d : Nat) {X : mX} {g : mG} {x1 x2 : Int32} {c : mC} : mCall mD X (d + 4) 259 [mr 7 20, mi x1, mi x2] (mU g 7 c) = (wO (wW g 7)) (P_X6_foes c x1 x2) := by
  refine Eq.trans (mCall_eq (d := d + 3) rfl) ?_
  show mEv X (mCall mD X (d + 3)) 1 t_X6_foes (mDrop t_X6_foes 0) [some (mr 7 20), some (mi x1), some (mi x2)] [] (mU g 7 c) = _
  refine Eq.trans (e_X6_foes_0) ?_
  try simp only [mU_same, mU_mU]
  refine mw_oZ ?_ (rr_X6_isPhase (d + 1)) rfl (fun v1 hv1 => ?_)
  · rfl
  refine Eq.trans (e_X6_foes_5) ?_
  try simp only [mU_same, mU_mU]
  refine mw_ite (fun h6 => ?_) (fun h6 => ?_)
  · exact rj_X6_foes_37 d
  · refine Eq.trans (e_X6_foes_8) ?_
    try simp only [mU_same, mU_mU]
    refine mw_oZ ?_ (rr_X6_isPhase (d + 1)) rfl (fun v2 hv2 => ?_)
    · rfl
    refine Eq.trans (e_X6_foes_13) ?_
    try simp only [mU_same, mU_mU]
    refine mw_ite (fun h5 => ?_) (fun h5 => ?_)
    · exact rj_X6_foes_37 d
    · refine Eq.trans (e_X6_foes_16) ?_
      try simp only [mU_same, mU_mU]
      refine mw_oZ ?_ (rr_X6_areFoes d) rfl (fun v3 hv3 => ?_)
      · rfl
      refine Eq.trans (e_X6_foes_23) ?_
      try simp only [mU_same, mU_mU]
      refine mw_ite (fun h4 => ?_) (fun h4 => ?_)
      · refine Eq.trans (e_X6_foes_30) ?_
        try simp only [mU_same, mU_mU]
        exact rj_X6_foes_31 d
      · refine Eq.trans (e_X6_foes_26) ?_
        try simp only [mU_same, mU_mU]
        exact rj_X6_foes_31 d
theorem rr_X6_foes_at (d : Nat) {X : mX} {g : mG} {x1 x2 : Int32} : mCall mD X (d + 4) 259 [mr 7 20, mi x1, mi x2] g = wO (wW g 7) (P_X6_foes (g 7) x1 x2) := by
  have h := rr_X6_foes (X := X) d (g := g) (c := g 7) (x1 := x1) (x2 := x2)
  rw [mU_self] at h
  exact h
theorem e_X6_isFull_0 {X : mX} {call : Nat → List mV → mG → mR} {g : mG} {x1 : Int32} : mEv X call 2 t_X6_isFull (mDrop t_X6_isFull 0) [some (mr 7 20), some (mi x1), none] [] g = mAns (mEv X call 2 t_X6_isFull) (mDrop t_X6_isFull 5) [some (mr 7 20), some (mi x1), none] [] (call 172 [mr 7 20, mi x1] g) := (mEv_3 _ _ _ _).trans rfl
theorem e_X6_isFull_5 {X : mX} {call : Nat → List mV → mG → mR} {g : mG} {x1 s0 : Int32} : mEv X call 2 t_X6_isFull (mDrop t_X6_isFull 5) [some (mr 7 20), some (mi x1), none] [mi s0] g = if s0 = 0 then mEv X call 2 t_X6_isFull (mDrop t_X6_isFull 8) [some (mr 7 20), some (mi x1), none] [] g else mEv X call 2 t_X6_isFull (mDrop t_X6_isFull 10) [some (mr 7 20), some (mi x1), none] [] g := (mEv_1 _ _ _ _).trans rfl
theorem e_X6_isFull_8 {X : mX} {call : Nat → List mV → mG → mR} {g : mG} {x1 : Int32} : mEv X call 2 t_X6_isFull (mDrop t_X6_isFull 8) [some (mr 7 20), some (mi x1), none] [] g = if (0 : Int32) &&& 1 = 0 then some (some (mi 0), g) else none := (mEv_2 _ _ _ _).trans rfl
theorem e_X6_isFull_10 {X : mX} {call : Nat → List mV → mG → mR} {g : mG} {x1 : Int32} : mEv X call 2 t_X6_isFull (mDrop t_X6_isFull 10) [some (mr 7 20), some (mi x1), none] [] g = mEv X call 2 t_X6_isFull (mDrop t_X6_isFull 12) [some (mr 7 20), some (mi x1), some (mi 0)] [] g := (mEv_2 _ _ _ _).trans rfl
theorem e_X6_isFull_12 {X : mX} {call : Nat → List mV → mG → mR} {g : mG} {x1 x2 : Int32} : mEv X call 2 t_X6_isFull (mDrop t_X6_isFull 12) [some (mr 7 20), some (mi x1), some (mi x2)] [] g = mAns (mEv X call 2 t_X6_isFull) (mDrop t_X6_isFull 18) [some (mr 7 20), some (mi x1), some (mi x2)] [mi x2] (call 158 [mr 7 20, mi 0] g) := (mEv_4 _ _ _ _).trans rfl
theorem e_X6_isFull_18 {X : mX} {call : Nat → List mV → mG → mR} {g : mG} {x1 x2 s0 s1 : Int32} : mEv X call 2 t_X6_isFull (mDrop t_X6_isFull 18) [some (mr 7 20), some (mi x1), some (mi x2)] [mi s1, mi s0] g = if s1 ≤ s0 then mEv X call 2 t_X6_isFull (mDrop t_X6_isFull 49) [some (mr 7 20), some (mi x1), some (mi x2)] [] g else mEv X call 2 t_X6_isFull (mDrop t_X6_isFull 21) [some (mr 7 20), some (mi x1), some (mi x2)] [] g := (mEv_1 _ _ _ _).trans rfl
theorem e_X6_isFull_49 {X : mX} {call : Nat → List mV → mG → mR} {g : mG} {x1 x2 : Int32} : mEv X call 2 t_X6_isFull (mDrop t_X6_isFull 49) [some (mr 7 20), some (mi x1), some (mi x2)] [] g = if (1 : Int32) &&& 1 = 1 then some (some (mi 1), g) else none := (mEv_2 _ _ _ _).trans rfl
theorem e_X6_isFull_21 {X : mX} {call : Nat → List mV → mG → mR} {g : mG} {x1 x2 : Int32} : mEv X call 2 t_X6_isFull (mDrop t_X6_isFull 21) [some (mr 7 20), some (mi x1), some (mi x2)] [] g = mAns (mEv X call 2 t_X6_isFull) (mDrop t_X6_isFull 26) [some (mr 7 20), some (mi x1), some (mi x2)] [] (call 156 [mi x1, mi x2] g) := (mEv_3 _ _ _ _).trans rfl
theorem e_X6_isFull_26 {X : mX} {call : Nat → List mV → mG → mR} {g : mG} {x1 x2 s0 : Int32} : mEv X call 2 t_X6_isFull (mDrop t_X6_isFull 26) [some (mr 7 20), some (mi x1), some (mi x2)] [mi s0] g = if s0 = 0 then mEv X call 2 t_X6_isFull (mDrop t_X6_isFull 29) [some (mr 7 20), some (mi x1), some (mi x2)] [] g else mEv X call 2 t_X6_isFull (mDrop t_X6_isFull 43) [some (mr 7 20), some (mi x1), some (mi x2)] [] g := (mEv_1 _ _ _ _).trans rfl
theorem e_X6_isFull_29 {X : mX} {call : Nat → List mV → mG → mR} {g : mG} {x1 x2 : Int32} : mEv X call 2 t_X6_isFull (mDrop t_X6_isFull 29) [some (mr 7 20), some (mi x1), some (mi x2)] [] g = mAns (mEv X call 2 t_X6_isFull) (mDrop t_X6_isFull 38) [some (mr 7 20), some (mi x1), some (mi x2)] [] (call 172 [mr 7 20, mi (x1 ||| ((1 : Int32) <<< (x2 &&& 31)))] g) := (mEv_7 _ _ _ _).trans rfl
theorem e_X6_isFull_38 {X : mX} {call : Nat → List mV → mG → mR} {g : mG} {x1 x2 s0 : Int32} : mEv X call 2 t_X6_isFull (mDrop t_X6_isFull 38) [some (mr 7 20), some (mi x1), some (mi x2)] [mi s0] g = if s0 = 0 then mEv X call 2 t_X6_isFull (mDrop t_X6_isFull 43) [some (mr 7 20), some (mi x1), some (mi x2)] [] g else mEv X call 2 t_X6_isFull (mDrop t_X6_isFull 41) [some (mr 7 20), some (mi x1), some (mi x2)] [] g := (mEv_1 _ _ _ _).trans rfl
theorem e_X6_isFull_43 {X : mX} {call : Nat → List mV → mG → mR} {g : mG} {x1 x2 : Int32} : mEv X call 2 t_X6_isFull (mDrop t_X6_isFull 43) [some (mr 7 20), some (mi x1), some (mi x2)] [] g = mEv X call 2 t_X6_isFull (mDrop t_X6_isFull 12) [some (mr 7 20), some (mi x1), some (mi (x2 + 1))] [] g := (mEv_2 _ _ _ _).trans rfl
noncomputable def J_X6_isFull_43 (c : mC) (x1 : Int32) (x2 : Int32) : ((Int32) ⊕ (Option (Int32))) := (.inl (x2 + 1))
theorem rj_X6_isFull_43 (d : Nat) {X : mX} {g : mG} {x1 x2 : Int32} {c : mC} : mEv X (mCall mD X (d + 5)) 2 t_X6_isFull (mDrop t_X6_isFull 43) [some (mr 7 20), some (mi x1), some (mi x2)] [] (mU g 7 c) = (wB (fun x2 : (Int32) => mEv X (mCall mD X (d + 5)) 2 t_X6_isFull (mDrop t_X6_isFull 12) [some (mr 7 20), some (mi x1), some (mi x2)] [] (mU g 7 c)) (wO (wI g 7 c))) (J_X6_isFull_43 c x1 x2) := by
  refine Eq.trans (e_X6_isFull_43) ?_
  try simp only [mU_same, mU_mU]
  exact mw_inl rfl
theorem e_X6_isFull_41 {X : mX} {call : Nat → List mV → mG → mR} {g : mG} {x1 x2 : Int32} : mEv X call 2 t_X6_isFull (mDrop t_X6_isFull 41) [some (mr 7 20), some (mi x1), some (mi x2)] [] g = if (0 : Int32) &&& 1 = 0 then some (some (mi 0), g) else none := (mEv_2 _ _ _ _).trans rfl
noncomputable def B_X6_isFull_12 (c : mC) (x1 : Int32) : (Int32) → (Int32) ⊕ (Option (Int32)) := fun x2 => (mBo (α := Int32) (.inr none) (P_X6_of c 0) (fun v1 => (if v1 ≤ x2 then (.inr (some 1)) else (mBd (α := Int32) (P_X6_has x1 x2) (fun v2 => (if v2 = 0 then (mBo (α := Int32) (.inr none) (P_X6_isPeace c (x1 ||| ((1 : Int32) <<< (x2 &&& 31)))) (fun v3 => (if v3 = 0 then (J_X6_isFull_43 c x1 x2) else (.inr (some 0))))) else (J_X6_isFull_43 c x1 x2)))))))
set_option maxRecDepth 100000 in
theorem tm_X6_isFull_12 {c : mC} {x1 : Int32} : mTm (B_X6_isFull_12 c x1) := by
  refine ⟨fun x2 => mMx x2, fun s s2 h => ?_⟩
  skip
  simp only [B_X6_isFull_12, J_X6_isFull_43, mBd, mBo] at h
  (repeat' split at h) <;> first | (have h2 := Sum.inl.inj h; subst h2; dsimp only; first | exact mtm_max (by assumption) | exact mtm_lt (by assumption)) | (cases h; done)
theorem rl_X6_isFull_12 (d : Nat) {X : mX} {g : mG} {x1 x2 : Int32} {c : mC} : mEv X (mCall mD X (d + 5)) 2 t_X6_isFull (mDrop t_X6_isFull 12) [some (mr 7 20), some (mi x1), some (mi x2)] [] (mU g 7 c) = (wO (wI g 7 c)) (mWh none (B_X6_isFull_12 c x1) x2) := by
  refine mWh_ev (B := (B_X6_isFull_12 c x1)) (ev := fun x2 : (Int32) => mEv X (mCall mD X (d + 5)) 2 t_X6_isFull (mDrop t_X6_isFull 12) [some (mr 7 20), some (mi x1), some (mi x2)] [] (mU g 7 c)) (w := (wO (wI g 7 c))) (tm_X6_isFull_12) ?_ x2
  intro x2
  show mEv X (mCall mD X (d + 5)) 2 t_X6_isFull (mDrop t_X6_isFull 12) [some (mr 7 20), some (mi x1), some (mi x2)] [] (mU g 7 c) = wB (fun x2 : (Int32) => mEv X (mCall mD X (d + 5)) 2 t_X6_isFull (mDrop t_X6_isFull 12) [some (mr 7 20), some (mi x1), some (mi x2)] [] (mU g 7 c)) (wO (wI g 7 c)) (mBo (α := Int32) (.inr none) (P_X6_of c 0) (fun v1 => (if v1 ≤ x2 then (.inr (some 1)) else (mBd (α := Int32) (P_X6_has x1 x2) (fun v2 => (if v2 = 0 then (mBo (α := Int32) (.inr none) (P_X6_isPeace c (x1 ||| ((1 : Int32) <<< (x2 &&& 31)))) (fun v3 => (if v3 = 0 then (J_X6_isFull_43 c x1 x2) else (.inr (some 0))))) else (J_X6_isFull_43 c x1 x2)))))))
  refine Eq.trans (e_X6_isFull_12) ?_
  try simp only [mU_same, mU_mU]
  refine mw_oI ?_ (rr_X6_of (d + 4)) (fun v1 => ?_)
  · rfl
  refine Eq.trans (e_X6_isFull_18) ?_
  try simp only [mU_same, mU_mU]
  refine mw_ite (fun h6 => ?_) (fun h6 => ?_)
  · refine mw_inr ?_
    refine Eq.trans (e_X6_isFull_49) ?_
    try simp only [mU_same, mU_mU]
    exact if_pos (by decide)
  · refine Eq.trans (e_X6_isFull_21) ?_
    try simp only [mU_same, mU_mU]
    refine mw_cZ (rr_X6_has (d + 4)) rfl (fun v2 hv2 => ?_)
    refine Eq.trans (e_X6_isFull_26) ?_
    try simp only [mU_same, mU_mU]
    refine mw_ite (fun h5 => ?_) (fun h5 => ?_)
    · refine Eq.trans (e_X6_isFull_29) ?_
      try simp only [mU_same, mU_mU]
      refine mw_oZ ?_ (rr_X6_isPeace d) rfl (fun v3 hv3 => ?_)
      · rfl
      refine Eq.trans (e_X6_isFull_38) ?_
      try simp only [mU_same, mU_mU]
      refine mw_ite (fun h4 => ?_) (fun h4 => ?_)
      · exact rj_X6_isFull_43 d
      · refine mw_inr ?_
        refine Eq.trans (e_X6_isFull_41) ?_
        try simp only [mU_same, mU_mU]
        exact if_pos (by decide)
    · exact rj_X6_isFull_43 d
noncomputable def P_X6_isFull (c : mC) (x1 : Int32) : (Option (Int32)) := (mBo (α := Int32) none (P_X6_isPeace c x1) (fun v1 => (if v1 = 0 then (some 0) else (mWh none (B_X6_isFull_12 c x1) 0))))
theorem rr_X6_isFull (d : Nat) {X : mX} {g : mG} {x1 : Int32} {c : mC} : mCall mD X (d + 6) 260 [mr 7 20, mi x1] (mU g 7 c) = (wO (wI g 7 c)) (P_X6_isFull c x1) := by
  refine Eq.trans (mCall_eq (d := d + 5) rfl) ?_
  show mEv X (mCall mD X (d + 5)) 2 t_X6_isFull (mDrop t_X6_isFull 0) [some (mr 7 20), some (mi x1), none] [] (mU g 7 c) = _
  refine Eq.trans (e_X6_isFull_0) ?_
  try simp only [mU_same, mU_mU]
  refine mw_oZ ?_ (rr_X6_isPeace d) rfl (fun v1 hv1 => ?_)
  · rfl
  refine Eq.trans (e_X6_isFull_5) ?_
  try simp only [mU_same, mU_mU]
  refine mw_ite (fun h2 => ?_) (fun h2 => ?_)
  · refine Eq.trans (e_X6_isFull_8) ?_
    try simp only [mU_same, mU_mU]
    exact if_pos (by decide)
  · refine Eq.trans (e_X6_isFull_10) ?_
    try simp only [mU_same, mU_mU]
    exact rl_X6_isFull_12 d
theorem rr_X6_isFull_at (d : Nat) {X : mX} {g : mG} {x1 : Int32} : mCall mD X (d + 6) 260 [mr 7 20, mi x1] g = wO (wN g) (P_X6_isFull (g 7) x1) := by
  have h := rr_X6_isFull (X := X) d (g := g) (c := g 7) (x1 := x1)
  rw [mU_self] at h
  exact h.trans (wOI_self _ _ _)
theorem e_X6_queuesIn_0 {X : mX} {call : Nat → List mV → mG → mR} {g : mG} {x1 : Int32} : mEv X call 1 t_X6_queuesIn (mDrop t_X6_queuesIn 0) [some (mr 7 20), some (mi x1), none, none] [] g = mEv X call 1 t_X6_queuesIn (mDrop t_X6_queuesIn 4) [some (mr 7 20), some (mi x1), some (mi 0), some (mi 0)] [] g := (mEv_4 _ _ _ _).trans rfl
theorem e_X6_queuesIn_4 {X : mX} {call : Nat → List mV → mG → mR} {g : mG} {x1 x2 x3 : Int32} : mEv X call 1 t_X6_queuesIn (mDrop t_X6_queuesIn 4) [some (mr 7 20), some (mi x1), some (mi x2), some (mi x3)] [] g = mAns (mEv X call 1 t_X6_queuesIn) (mDrop t_X6_queuesIn 10) [some (mr 7 20), some (mi x1), some (mi x2), some (mi x3)] [mi x3] (call 158 [mr 7 20, mi 0] g) := (mEv_4 _ _ _ _).trans rfl
theorem e_X6_queuesIn_10 {X : mX} {call : Nat → List mV → mG → mR} {g : mG} {x1 x2 x3 s0 s1 : Int32} : mEv X call 1 t_X6_queuesIn (mDrop t_X6_queuesIn 10) [some (mr 7 20), some (mi x1), some (mi x2), some (mi x3)] [mi s1, mi s0] g = if s1 ≤ s0 then mEv X call 1 t_X6_queuesIn (mDrop t_X6_queuesIn 41) [some (mr 7 20), some (mi x1), some (mi x2), some (mi x3)] [] g else mEv X call 1 t_X6_queuesIn (mDrop t_X6_queuesIn 13) [some (mr 7 20), some (mi x1), some (mi x2), some (mi x3)] [] g := (mEv_1 _ _ _ _).trans rfl
theorem e_X6_queuesIn_41 {X : mX} {call : Nat → List mV → mG → mR} {g : mG} {x1 x2 x3 : Int32} : mEv X call 1 t_X6_queuesIn (mDrop t_X6_queuesIn 41) [some (mr 7 20), some (mi x1), some (mi x2), some (mi x3)] [] g = some (some (mi x2), g) := (mEv_2 _ _ _ _).trans rfl
theorem e_X6_queuesIn_13 {X : mX} {call : Nat → List mV → mG → mR} {g : mG} {x1 x2 x3 : Int32} : mEv X call 1 t_X6_queuesIn (mDrop t_X6_queuesIn 13) [some (mr 7 20), some (mi x1), some (mi x2), some (mi x3)] [] g = mAns (mEv X call 1 t_X6_queuesIn) (mDrop t_X6_queuesIn 19) [some (mr 7 20), some (mi x1), some (mi x2), some (mi x3)] [mi x2] (call 156 [mi x1, mi x3] g) := (mEv_4 _ _ _ _).trans rfl
theorem e_X6_queuesIn_19 {X : mX} {call : Nat → List mV → mG → mR} {g : mG} {x1 x2 x3 s0 s1 : Int32} : mEv X call 1 t_X6_queuesIn (mDrop t_X6_queuesIn 19) [some (mr 7 20), some (mi x1), some (mi x2), some (mi x3)] [mi s1, mi s0] g = if s1 = 0 then mEv X call 1 t_X6_queuesIn (mDrop t_X6_queuesIn 32) [some (mr 7 20), some (mi x1), some (mi x2), some (mi x3)] [mi s0] g else mEv X call 1 t_X6_queuesIn (mDrop t_X6_queuesIn 22) [some (mr 7 20), some (mi x1), some (mi x2), some (mi x3)] [mi s0] g := (mEv_1 _ _ _ _).trans rfl
theorem e_X6_queuesIn_32 {X : mX} {call : Nat → List mV → mG → mR} {g : mG} {x1 x2 x3 s0 : Int32} : mEv X call 1 t_X6_queuesIn (mDrop t_X6_queuesIn 32) [some (mr 7 20), some (mi x1), some (mi x2), some (mi x3)] [mi s0] g = mEv X call 1 t_X6_queuesIn (mDrop t_X6_queuesIn 33) [some (mr 7 20), some (mi x1), some (mi x2), some (mi x3)] [mi 0, mi s0] g := (mEv_1 _ _ _ _).trans rfl
theorem e_X6_queuesIn_33 {X : mX} {call : Nat → List mV → mG → mR} {g : mG} {x1 x2 x3 s0 s1 : Int32} : mEv X call 1 t_X6_queuesIn (mDrop t_X6_queuesIn 33) [some (mr 7 20), some (mi x1), some (mi x2), some (mi x3)] [mi s1, mi s0] g = mEv X call 1 t_X6_queuesIn (mDrop t_X6_queuesIn 4) [some (mr 7 20), some (mi x1), some (mi (s0 + s1)), some (mi (x3 + 1))] [] g := (mEv_4 _ _ _ _).trans rfl
noncomputable def J_X6_queuesIn_33 (c : mC) (x1 : Int32) (x3 : Int32) (s0 : Int32) (s1 : Int32) : ((Int32 × Int32) ⊕ (Option (Int32))) := (.inl ((s0 + s1), (x3 + 1)))
theorem rj_X6_queuesIn_33 (d : Nat) {X : mX} {g : mG} {x1 x2 x3 s0 s1 : Int32} {c : mC} : mEv X (mCall mD X (d + 2)) 1 t_X6_queuesIn (mDrop t_X6_queuesIn 33) [some (mr 7 20), some (mi x1), some (mi x2), some (mi x3)] [mi s1, mi s0] (mU g 7 c) = (wB (fun s : (Int32 × Int32) => match s with | (x2, x3) => mEv X (mCall mD X (d + 2)) 1 t_X6_queuesIn (mDrop t_X6_queuesIn 4) [some (mr 7 20), some (mi x1), some (mi x2), some (mi x3)] [] (mU g 7 c)) (wO (wI g 7 c))) (J_X6_queuesIn_33 c x1 x3 s0 s1) := by
  refine Eq.trans (e_X6_queuesIn_33) ?_
  try simp only [mU_same, mU_mU]
  exact mw_inl rfl
theorem e_X6_queuesIn_22 {X : mX} {call : Nat → List mV → mG → mR} {g : mG} {x1 x2 x3 s0 : Int32} : mEv X call 1 t_X6_queuesIn (mDrop t_X6_queuesIn 22) [some (mr 7 20), some (mi x1), some (mi x2), some (mi x3)] [mi s0] g = mAns (mEv X call 1 t_X6_queuesIn) (mDrop t_X6_queuesIn 29) [some (mr 7 20), some (mi x1), some (mi x2), some (mi x3)] [mi s0] (call 165 [mr 7 20, mi x3, mi 12] g) := (mEv_4 _ _ _ _).trans rfl
theorem e_X6_queuesIn_29 {X : mX} {call : Nat → List mV → mG → mR} {g : mG} {x1 x2 x3 s0 s1 : Int32} : mEv X call 1 t_X6_queuesIn (mDrop t_X6_queuesIn 29) [some (mr 7 20), some (mi x1), some (mi x2), some (mi x3)] [mi s1, mi s0] g = mEv X call 1 t_X6_queuesIn (mDrop t_X6_queuesIn 33) [some (mr 7 20), some (mi x1), some (mi x2), some (mi x3)] [mi s1, mi s0] g := (mEv_1 _ _ _ _).trans rfl
noncomputable def B_X6_queuesIn_4 (c : mC) (x1 : Int32) : (Int32 × Int32) → (Int32 × Int32) ⊕ (Option (Int32)) := fun s => match s with | (x2, x3) => (mBo (α := Int32) (.inr none) (P_X6_of c 0) (fun v1 => (if v1 ≤ x3 then (.inr (some x2)) else (mBd (α := Int32) (P_X6_has x1 x3) (fun v2 => (if v2 = 0 then (J_X6_queuesIn_33 c x1 x3 x2 0) else (mBo (α := Int32) (.inr none) (P_X6_ofPhase c x3 12) (fun v3 => (J_X6_queuesIn_33 c x1 x3 x2 v3)))))))))
set_option maxRecDepth 100000 in
theorem tm_X6_queuesIn_4 {c : mC} {x1 : Int32} : mTm (B_X6_queuesIn_4 c x1) := by
  refine ⟨fun s => match s with | (x2, x3) => mMx x3, fun s s2 h => ?_⟩
  obtain ⟨x2, x3⟩ := s
  simp only [B_X6_queuesIn_4, J_X6_queuesIn_33, mBd, mBo] at h
  (repeat' split at h) <;> first | (have h2 := Sum.inl.inj h; subst h2; dsimp only; first | exact mtm_max (by assumption) | exact mtm_lt (by assumption)) | (cases h; done)
theorem rl_X6_queuesIn_4 (d : Nat) {X : mX} {g : mG} {x1 x2 x3 : Int32} {c : mC} : mEv X (mCall mD X (d + 2)) 1 t_X6_queuesIn (mDrop t_X6_queuesIn 4) [some (mr 7 20), some (mi x1), some (mi x2), some (mi x3)] [] (mU g 7 c) = (wO (wI g 7 c)) (mWh none (B_X6_queuesIn_4 c x1) (x2, x3)) := by
  refine mWh_ev (B := (B_X6_queuesIn_4 c x1)) (ev := fun s : (Int32 × Int32) => match s with | (x2, x3) => mEv X (mCall mD X (d + 2)) 1 t_X6_queuesIn (mDrop t_X6_queuesIn 4) [some (mr 7 20), some (mi x1), some (mi x2), some (mi x3)] [] (mU g 7 c)) (w := (wO (wI g 7 c))) (tm_X6_queuesIn_4) ?_ (x2, x3)
  rintro ⟨x2, x3⟩
  show mEv X (mCall mD X (d + 2)) 1 t_X6_queuesIn (mDrop t_X6_queuesIn 4) [some (mr 7 20), some (mi x1), some (mi x2), some (mi x3)] [] (mU g 7 c) = wB (fun s : (Int32 × Int32) => match s with | (x2, x3) => mEv X (mCall mD X (d + 2)) 1 t_X6_queuesIn (mDrop t_X6_queuesIn 4) [some (mr 7 20), some (mi x1), some (mi x2), some (mi x3)] [] (mU g 7 c)) (wO (wI g 7 c)) (mBo (α := Int32) (.inr none) (P_X6_of c 0) (fun v1 => (if v1 ≤ x3 then (.inr (some x2)) else (mBd (α := Int32) (P_X6_has x1 x3) (fun v2 => (if v2 = 0 then (J_X6_queuesIn_33 c x1 x3 x2 0) else (mBo (α := Int32) (.inr none) (P_X6_ofPhase c x3 12) (fun v3 => (J_X6_queuesIn_33 c x1 x3 x2 v3)))))))))
  refine Eq.trans (e_X6_queuesIn_4) ?_
  try simp only [mU_same, mU_mU]
  refine mw_oI ?_ (rr_X6_of (d + 1)) (fun v1 => ?_)
  · rfl
  refine Eq.trans (e_X6_queuesIn_10) ?_
  try simp only [mU_same, mU_mU]
  refine mw_ite (fun h5 => ?_) (fun h5 => ?_)
  · refine mw_inr ?_
    refine Eq.trans (e_X6_queuesIn_41) ?_
    try simp only [mU_same, mU_mU]
    all_goals rfl
  · refine Eq.trans (e_X6_queuesIn_13) ?_
    try simp only [mU_same, mU_mU]
    refine mw_cZ (rr_X6_has (d + 1)) rfl (fun v2 hv2 => ?_)
    refine Eq.trans (e_X6_queuesIn_19) ?_
    try simp only [mU_same, mU_mU]
    refine mw_ite (fun h4 => ?_) (fun h4 => ?_)
    · refine Eq.trans (e_X6_queuesIn_32) ?_
      try simp only [mU_same, mU_mU]
      exact rj_X6_queuesIn_33 d
    · refine Eq.trans (e_X6_queuesIn_22) ?_
      try simp only [mU_same, mU_mU]
      refine mw_oI ?_ (rr_X6_ofPhase d) (fun v3 => ?_)
      · rfl
      refine Eq.trans (e_X6_queuesIn_29) ?_
      try simp only [mU_same, mU_mU]
      exact rj_X6_queuesIn_33 d
noncomputable def P_X6_queuesIn (c : mC) (x1 : Int32) : (Option (Int32)) := (mWh none (B_X6_queuesIn_4 c x1) (0, 0))
theorem rr_X6_queuesIn (d : Nat) {X : mX} {g : mG} {x1 : Int32} {c : mC} : mCall mD X (d + 3) 261 [mr 7 20, mi x1] (mU g 7 c) = (wO (wI g 7 c)) (P_X6_queuesIn c x1) := by
  refine Eq.trans (mCall_eq (d := d + 2) rfl) ?_
  show mEv X (mCall mD X (d + 2)) 1 t_X6_queuesIn (mDrop t_X6_queuesIn 0) [some (mr 7 20), some (mi x1), none, none] [] (mU g 7 c) = _
  refine Eq.trans (e_X6_queuesIn_0) ?_
  try simp only [mU_same, mU_mU]
  exact rl_X6_queuesIn_4 d
theorem rr_X6_queuesIn_at (d : Nat) {X : mX} {g : mG} {x1 : Int32} : mCall mD X (d + 3) 261 [mr 7 20, mi x1] g = wO (wN g) (P_X6_queuesIn (g 7) x1) := by
  have h := rr_X6_queuesIn (X := X) d (g := g) (c := g 7) (x1 := x1)
  rw [mU_self] at h
  exact h.trans (wOI_self _ _ _)
theorem e_X6_sets_0 {X : mX} {call : Nat → List mV → mG → mR} {g : mG} {x1 : Int32} : mEv X call 1 t_X6_sets (mDrop t_X6_sets 0) [some (mr 7 20), some (mi x1), none, none, none] [] g = mAns (mEv X call 1 t_X6_sets) (mDrop t_X6_sets 6) [some (mr 7 20), some (mi x1), none, none, none] [] (call 155 [mi x1, mi 0, mi 1] g) := (mEv_4 _ _ _ _).trans rfl
theorem e_X6_sets_6 {X : mX} {call : Nat → List mV → mG → mR} {g : mG} {x1 s0 : Int32} : mEv X call 1 t_X6_sets (mDrop t_X6_sets 6) [some (mr 7 20), some (mi x1), none, none, none] [mi s0] g = if s0 = 0 then mEv X call 1 t_X6_sets (mDrop t_X6_sets 9) [some (mr 7 20), some (mi x1), none, none, none] [] g else mEv X call 1 t_X6_sets (mDrop t_X6_sets 15) [some (mr 7 20), some (mi x1), none, none, none] [] g := (mEv_1 _ _ _ _).trans rfl
theorem e_X6_sets_9 {X : mX} {call : Nat → List mV → mG → mR} {g : mG} {x1 : Int32} : mEv X call 1 t_X6_sets (mDrop t_X6_sets 9) [some (mr 7 20), some (mi x1), none, none, none] [] g = mAns (mEv X call 1 t_X6_sets) (mDrop t_X6_sets 14) [some (mr 7 20), some (mi x1), none, none, none] [] (call 152 [mr 7 20, mi 1] g) := (mEv_3 _ _ _ _).trans rfl
theorem e_X6_sets_14 {X : mX} {call : Nat → List mV → mG → mR} {g : mG} {x1 s0 : Int32} : mEv X call 1 t_X6_sets (mDrop t_X6_sets 14) [some (mr 7 20), some (mi x1), none, none, none] [mi s0] g = some (some (mi s0), g) := (mEv_1 _ _ _ _).trans rfl
theorem e_X6_sets_15 {X : mX} {call : Nat → List mV → mG → mR} {g : mG} {x1 : Int32} : mEv X call 1 t_X6_sets (mDrop t_X6_sets 15) [some (mr 7 20), some (mi x1), none, none, none] [] g = mEv X call 1 t_X6_sets (mDrop t_X6_sets 22) [some (mr 7 20), some (mi x1), some (mi 0), some (mi 0), some (mi 1)] [] g := (mEv_6 _ _ _ _).trans rfl
theorem e_X6_sets_22 {X : mX} {call : Nat → List mV → mG → mR} {g : mG} {x1 x2 x3 x4 : Int32} : mEv X call 1 t_X6_sets (mDrop t_X6_sets 22) [some (mr 7 20), some (mi x1), some (mi x2), some (mi x3), some (mi x4)] [] g = mAns (mEv X call 1 t_X6_sets) (mDrop t_X6_sets 30) [some (mr 7 20), some (mi x1), some (mi x2), some (mi x3), some (mi x4)] [mi 1, mi x4] (call 158 [mr 7 20, mi 0] g) := (mEv_5 _ _ _ _).trans rfl
theorem e_X6_sets_30 {X : mX} {call : Nat → List mV → mG → mR} {g : mG} {x1 x2 x3 x4 s0 s1 s2 : Int32} : mEv X call 1 t_X6_sets (mDrop t_X6_sets 30) [some (mr 7 20), some (mi x1), some (mi x2), some (mi x3), some (mi x4)] [mi s2, mi s1, mi s0] g = if (s1 <<< (s2 &&& 31)) ≤ s0 then mEv X call 1 t_X6_sets (mDrop t_X6_sets 80) [some (mr 7 20), some (mi x1), some (mi x2), some (mi x3), some (mi x4)] [] g else mEv X call 1 t_X6_sets (mDrop t_X6_sets 34) [some (mr 7 20), some (mi x1), some (mi x2), some (mi x3), some (mi x4)] [] g := (mEv_2 _ _ _ _).trans rfl
theorem e_X6_sets_80 {X : mX} {call : Nat → List mV → mG → mR} {g : mG} {x1 x2 x3 x4 : Int32} : mEv X call 1 t_X6_sets (mDrop t_X6_sets 80) [some (mr 7 20), some (mi x1), some (mi x2), some (mi x3), some (mi x4)] [] g = if x1 = 0 then mEv X call 1 t_X6_sets (mDrop t_X6_sets 85) [some (mr 7 20), some (mi x1), some (mi x2), some (mi x3), some (mi x4)] [mr 7 20] g else mEv X call 1 t_X6_sets (mDrop t_X6_sets 89) [some (mr 7 20), some (mi x1), some (mi x2), some (mi x3), some (mi x4)] [mr 7 20] g := (mEv_3 _ _ _ _).trans rfl
theorem e_X6_sets_85 {X : mX} {call : Nat → List mV → mG → mR} {g : mG} {x1 x2 x3 x4 : Int32} : mEv X call 1 t_X6_sets (mDrop t_X6_sets 85) [some (mr 7 20), some (mi x1), some (mi x2), some (mi x3), some (mi x4)] [mr 7 20] g = mEv X call 1 t_X6_sets (mDrop t_X6_sets 90) [some (mr 7 20), some (mi x1), some (mi x2), some (mi x3), some (mi x4)] [mi x2, mr 7 20] g := (mEv_2 _ _ _ _).trans rfl
theorem e_X6_sets_90 {X : mX} {call : Nat → List mV → mG → mR} {g : mG} {x1 x2 x3 x4 s1 : Int32} : mEv X call 1 t_X6_sets (mDrop t_X6_sets 90) [some (mr 7 20), some (mi x1), some (mi x2), some (mi x3), some (mi x4)] [mi s1, mr 7 20] g = mAns (mEv X call 1 t_X6_sets) (mDrop t_X6_sets 93) [some (mr 7 20), some (mi x1), some (mi x2), some (mi x3), some (mi x4)] [] (call 154 [mr 7 20, mi s1] g) := (mEv_1 _ _ _ _).trans rfl
theorem e_X6_sets_93 {X : mX} {call : Nat → List mV → mG → mR} {g : mG} {x1 x2 x3 x4 s0 : Int32} : mEv X call 1 t_X6_sets (mDrop t_X6_sets 93) [some (mr 7 20), some (mi x1), some (mi x2), some (mi x3), some (mi x4)] [mi s0] g = some (some (mi s0), g) := (mEv_1 _ _ _ _).trans rfl
noncomputable def J_X6_sets_90 (c : mC) (s1 : Int32) : (Option (Int32 × mC)) := (mBo (α := Int32 × mC) none (P_X6_gives c s1) (fun p1 => (some (p1.1, p1.2))))
theorem rj_X6_sets_90 (d : Nat) {X : mX} {g : mG} {x1 x2 x3 x4 s1 : Int32} {c : mC} : mEv X (mCall mD X (d + 6)) 1 t_X6_sets (mDrop t_X6_sets 90) [some (mr 7 20), some (mi x1), some (mi x2), some (mi x3), some (mi x4)] [mi s1, mr 7 20] (mU g 7 c) = (wO (wW g 7)) (J_X6_sets_90 c s1) := by
  refine Eq.trans (e_X6_sets_90) ?_
  try simp only [mU_same, mU_mU]
  refine mw_oW ?_ (rr_X6_gives (d + 5)) (fun p1 => ?_)
  · rfl
  refine Eq.trans (e_X6_sets_93) ?_
  try simp only [mU_same, mU_mU]
  all_goals rfl
theorem e_X6_sets_89 {X : mX} {call : Nat → List mV → mG → mR} {g : mG} {x1 x2 x3 x4 : Int32} : mEv X call 1 t_X6_sets (mDrop t_X6_sets 89) [some (mr 7 20), some (mi x1), some (mi x2), some (mi x3), some (mi x4)] [mr 7 20] g = mEv X call 1 t_X6_sets (mDrop t_X6_sets 90) [some (mr 7 20), some (mi x1), some (mi x2), some (mi x3), some (mi x4)] [mi x3, mr 7 20] g := (mEv_1 _ _ _ _).trans rfl
theorem e_X6_sets_34 {X : mX} {call : Nat → List mV → mG → mR} {g : mG} {x1 x2 x3 x4 : Int32} : mEv X call 1 t_X6_sets (mDrop t_X6_sets 34) [some (mr 7 20), some (mi x1), some (mi x2), some (mi x3), some (mi x4)] [] g = mAns (mEv X call 1 t_X6_sets) (mDrop t_X6_sets 40) [some (mr 7 20), some (mi x1), some (mi x2), some (mi x3), some (mi x4)] [] (call 260 [mr 7 20, mi x4] g) := (mEv_3 _ _ _ _).trans rfl
theorem e_X6_sets_40 {X : mX} {call : Nat → List mV → mG → mR} {g : mG} {x1 x2 x3 x4 s0 : Int32} : mEv X call 1 t_X6_sets (mDrop t_X6_sets 40) [some (mr 7 20), some (mi x1), some (mi x2), some (mi x3), some (mi x4)] [mi s0] g = if s0 = 0 then mEv X call 1 t_X6_sets (mDrop t_X6_sets 43) [some (mr 7 20), some (mi x1), some (mi x2), some (mi x3), some (mi x4)] [] g else mEv X call 1 t_X6_sets (mDrop t_X6_sets 46) [some (mr 7 20), some (mi x1), some (mi x2), some (mi x3), some (mi x4)] [] g := (mEv_1 _ _ _ _).trans rfl
theorem e_X6_sets_43 {X : mX} {call : Nat → List mV → mG → mR} {g : mG} {x1 x2 x3 x4 : Int32} : mEv X call 1 t_X6_sets (mDrop t_X6_sets 43) [some (mr 7 20), some (mi x1), some (mi x2), some (mi x3), some (mi x4)] [] g = mEv X call 1 t_X6_sets (mDrop t_X6_sets 74) [some (mr 7 20), some (mi x1), some (mi x2), some (mi x3), some (mi x4)] [] g := (mEv_1 _ _ _ _).trans rfl
theorem e_X6_sets_74 {X : mX} {call : Nat → List mV → mG → mR} {g : mG} {x1 x2 x3 x4 : Int32} : mEv X call 1 t_X6_sets (mDrop t_X6_sets 74) [some (mr 7 20), some (mi x1), some (mi x2), some (mi x3), some (mi x4)] [] g = mEv X call 1 t_X6_sets (mDrop t_X6_sets 22) [some (mr 7 20), some (mi x1), some (mi x2), some (mi x3), some (mi (x4 + 1))] [] g := (mEv_2 _ _ _ _).trans rfl
noncomputable def J_X6_sets_74 (c : mC) (x1 : Int32) (x2 : Int32) (x3 : Int32) (x4 : Int32) : ((Int32 × Int32 × Int32) ⊕ (Option (Int32 × mC))) := (.inl (x2, x3, (x4 + 1)))
theorem rj_X6_sets_74 (d : Nat) {X : mX} {g : mG} {x1 x2 x3 x4 : Int32} {c : mC} : mEv X (mCall mD X (d + 6)) 1 t_X6_sets (mDrop t_X6_sets 74) [some (mr 7 20), some (mi x1), some (mi x2), some (mi x3), some (mi x4)] [] (mU g 7 c) = (wB (fun s : (Int32 × Int32 × Int32) => match s with | (x2, x3, x4) => mEv X (mCall mD X (d + 6)) 1 t_X6_sets (mDrop t_X6_sets 22) [some (mr 7 20), some (mi x1), some (mi x2), some (mi x3), some (mi x4)] [] (mU g 7 c)) (wO (wW g 7))) (J_X6_sets_74 c x1 x2 x3 x4) := by
  refine Eq.trans (e_X6_sets_74) ?_
  try simp only [mU_same, mU_mU]
  exact mw_inl rfl
theorem e_X6_sets_46 {X : mX} {call : Nat → List mV → mG → mR} {g : mG} {x1 x2 x3 x4 : Int32} : mEv X call 1 t_X6_sets (mDrop t_X6_sets 46) [some (mr 7 20), some (mi x1), some (mi x2), some (mi x3), some (mi x4)] [] g = if x3 = 0 then mEv X call 1 t_X6_sets (mDrop t_X6_sets 67) [some (mr 7 20), some (mi x1), some (mi (x2 + 1)), some (mi x3), some (mi x4)] [] g else mEv X call 1 t_X6_sets (mDrop t_X6_sets 53) [some (mr 7 20), some (mi x1), some (mi (x2 + 1)), some (mi x3), some (mi x4)] [] g := (mEv_3 _ _ _ _).trans rfl
theorem e_X6_sets_67 {X : mX} {call : Nat → List mV → mG → mR} {g : mG} {x1 x2 x3 x4 : Int32} : mEv X call 1 t_X6_sets (mDrop t_X6_sets 67) [some (mr 7 20), some (mi x1), some (mi x2), some (mi x3), some (mi x4)] [] g = mEv X call 1 t_X6_sets (mDrop t_X6_sets 73) [some (mr 7 20), some (mi x1), some (mi x2), some (mi x3), some (mi x4)] [mi x4] g := (mEv_2 _ _ _ _).trans rfl
theorem e_X6_sets_73 {X : mX} {call : Nat → List mV → mG → mR} {g : mG} {x1 x2 x3 x4 s0 : Int32} : mEv X call 1 t_X6_sets (mDrop t_X6_sets 73) [some (mr 7 20), some (mi x1), some (mi x2), some (mi x3), some (mi x4)] [mi s0] g = mEv X call 1 t_X6_sets (mDrop t_X6_sets 74) [some (mr 7 20), some (mi x1), some (mi x2), some (mi s0), some (mi x4)] [] g := (mEv_1 _ _ _ _).trans rfl
noncomputable def J_X6_sets_73 (c : mC) (x1 : Int32) (x2 : Int32) (x4 : Int32) (s0 : Int32) : ((Int32 × Int32 × Int32) ⊕ (Option (Int32 × mC))) := (J_X6_sets_74 c x1 x2 s0 x4)
theorem rj_X6_sets_73 (d : Nat) {X : mX} {g : mG} {x1 x2 x3 x4 s0 : Int32} {c : mC} : mEv X (mCall mD X (d + 6)) 1 t_X6_sets (mDrop t_X6_sets 73) [some (mr 7 20), some (mi x1), some (mi x2), some (mi x3), some (mi x4)] [mi s0] (mU g 7 c) = (wB (fun s : (Int32 × Int32 × Int32) => match s with | (x2, x3, x4) => mEv X (mCall mD X (d + 6)) 1 t_X6_sets (mDrop t_X6_sets 22) [some (mr 7 20), some (mi x1), some (mi x2), some (mi x3), some (mi x4)] [] (mU g 7 c)) (wO (wW g 7))) (J_X6_sets_73 c x1 x2 x4 s0) := by
  refine Eq.trans (e_X6_sets_73) ?_
  try simp only [mU_same, mU_mU]
  exact rj_X6_sets_74 d
noncomputable def J_X6_sets_67 (c : mC) (x1 : Int32) (x2 : Int32) (x4 : Int32) : ((Int32 × Int32 × Int32) ⊕ (Option (Int32 × mC))) := (J_X6_sets_73 c x1 x2 x4 x4)
theorem rj_X6_sets_67 (d : Nat) {X : mX} {g : mG} {x1 x2 x3 x4 : Int32} {c : mC} : mEv X (mCall mD X (d + 6)) 1 t_X6_sets (mDrop t_X6_sets 67) [some (mr 7 20), some (mi x1), some (mi x2), some (mi x3), some (mi x4)] [] (mU g 7 c) = (wB (fun s : (Int32 × Int32 × Int32) => match s with | (x2, x3, x4) => mEv X (mCall mD X (d + 6)) 1 t_X6_sets (mDrop t_X6_sets 22) [some (mr 7 20), some (mi x1), some (mi x2), some (mi x3), some (mi x4)] [] (mU g 7 c)) (wO (wW g 7))) (J_X6_sets_67 c x1 x2 x4) := by
  refine Eq.trans (e_X6_sets_67) ?_
  try simp only [mU_same, mU_mU]
  exact rj_X6_sets_73 d
theorem e_X6_sets_53 {X : mX} {call : Nat → List mV → mG → mR} {g : mG} {x1 x2 x3 x4 : Int32} : mEv X call 1 t_X6_sets (mDrop t_X6_sets 53) [some (mr 7 20), some (mi x1), some (mi x2), some (mi x3), some (mi x4)] [] g = mAns (mEv X call 1 t_X6_sets) (mDrop t_X6_sets 59) [some (mr 7 20), some (mi x1), some (mi x2), some (mi x3), some (mi x4)] [] (call 261 [mr 7 20, mi x4] g) := (mEv_3 _ _ _ _).trans rfl
theorem e_X6_sets_59 {X : mX} {call : Nat → List mV → mG → mR} {g : mG} {x1 x2 x3 x4 s0 : Int32} : mEv X call 1 t_X6_sets (mDrop t_X6_sets 59) [some (mr 7 20), some (mi x1), some (mi x2), some (mi x3), some (mi x4)] [mi s0] g = mAns (mEv X call 1 t_X6_sets) (mDrop t_X6_sets 64) [some (mr 7 20), some (mi x1), some (mi x2), some (mi x3), some (mi x4)] [mi s0] (call 261 [mr 7 20, mi x3] g) := (mEv_3 _ _ _ _).trans rfl
theorem e_X6_sets_64 {X : mX} {call : Nat → List mV → mG → mR} {g : mG} {x1 x2 x3 x4 s0 s1 : Int32} : mEv X call 1 t_X6_sets (mDrop t_X6_sets 64) [some (mr 7 20), some (mi x1), some (mi x2), some (mi x3), some (mi x4)] [mi s1, mi s0] g = if s0 ≤ s1 then mEv X call 1 t_X6_sets (mDrop t_X6_sets 72) [some (mr 7 20), some (mi x1), some (mi x2), some (mi x3), some (mi x4)] [] g else mEv X call 1 t_X6_sets (mDrop t_X6_sets 67) [some (mr 7 20), some (mi x1), some (mi x2), some (mi x3), some (mi x4)] [] g := (mEv_1 _ _ _ _).trans rfl
theorem e_X6_sets_72 {X : mX} {call : Nat → List mV → mG → mR} {g : mG} {x1 x2 x3 x4 : Int32} : mEv X call 1 t_X6_sets (mDrop t_X6_sets 72) [some (mr 7 20), some (mi x1), some (mi x2), some (mi x3), some (mi x4)] [] g = mEv X call 1 t_X6_sets (mDrop t_X6_sets 73) [some (mr 7 20), some (mi x1), some (mi x2), some (mi x3), some (mi x4)] [mi x3] g := (mEv_1 _ _ _ _).trans rfl
noncomputable def B_X6_sets_22 (c : mC) (x1 : Int32) : (Int32 × Int32 × Int32) → (Int32 × Int32 × Int32) ⊕ (Option (Int32 × mC)) := fun s => match s with | (x2, x3, x4) => (mBo (α := Int32) (.inr none) (P_X6_of c 0) (fun v1 => (if ((1 : Int32) <<< (v1 &&& 31)) ≤ x4 then (.inr (if x1 = 0 then (J_X6_sets_90 c x2) else (J_X6_sets_90 c x3))) else (mBo (α := Int32) (.inr none) (P_X6_isFull c x4) (fun v3 => (if v3 = 0 then (J_X6_sets_74 c x1 x2 x3 x4) else (if x3 = 0 then (J_X6_sets_67 c x1 (x2 + 1) x4) else (mBo (α := Int32) (.inr none) (P_X6_queuesIn c x4) (fun v4 => (mBo (α := Int32) (.inr none) (P_X6_queuesIn c x3) (fun v5 => (if v4 ≤ v5 then (J_X6_sets_73 c x1 (x2 + 1) x4 x3) else (J_X6_sets_67 c x1 (x2 + 1) x4)))))))))))))
set_option maxRecDepth 100000 in
theorem tm_X6_sets_22 {c : mC} {x1 : Int32} : mTm (B_X6_sets_22 c x1) := by
  refine ⟨fun s => match s with | (x2, x3, x4) => mMx x4, fun s s2 h => ?_⟩
  obtain ⟨x2, x3, x4⟩ := s
  simp only [B_X6_sets_22, J_X6_sets_74, J_X6_sets_67, J_X6_sets_73, mBd, mBo] at h
  (repeat' split at h) <;> first | (have h2 := Sum.inl.inj h; subst h2; dsimp only; first | exact mtm_max (by assumption) | exact mtm_lt (by assumption)) | (cases h; done)
theorem rl_X6_sets_22 (d : Nat) {X : mX} {g : mG} {x1 x2 x3 x4 : Int32} {c : mC} : mEv X (mCall mD X (d + 6)) 1 t_X6_sets (mDrop t_X6_sets 22) [some (mr 7 20), some (mi x1), some (mi x2), some (mi x3), some (mi x4)] [] (mU g 7 c) = (wO (wW g 7)) (mWh none (B_X6_sets_22 c x1) (x2, x3, x4)) := by
  refine mWh_ev (B := (B_X6_sets_22 c x1)) (ev := fun s : (Int32 × Int32 × Int32) => match s with | (x2, x3, x4) => mEv X (mCall mD X (d + 6)) 1 t_X6_sets (mDrop t_X6_sets 22) [some (mr 7 20), some (mi x1), some (mi x2), some (mi x3), some (mi x4)] [] (mU g 7 c)) (w := (wO (wW g 7))) (tm_X6_sets_22) ?_ (x2, x3, x4)
  rintro ⟨x2, x3, x4⟩
  show mEv X (mCall mD X (d + 6)) 1 t_X6_sets (mDrop t_X6_sets 22) [some (mr 7 20), some (mi x1), some (mi x2), some (mi x3), some (mi x4)] [] (mU g 7 c) = wB (fun s : (Int32 × Int32 × Int32) => match s with | (x2, x3, x4) => mEv X (mCall mD X (d + 6)) 1 t_X6_sets (mDrop t_X6_sets 22) [some (mr 7 20), some (mi x1), some (mi x2), some (mi x3), some (mi x4)] [] (mU g 7 c)) (wO (wW g 7)) (mBo (α := Int32) (.inr none) (P_X6_of c 0) (fun v1 => (if ((1 : Int32) <<< (v1 &&& 31)) ≤ x4 then (.inr (if x1 = 0 then (J_X6_sets_90 c x2) else (J_X6_sets_90 c x3))) else (mBo (α := Int32) (.inr none) (P_X6_isFull c x4) (fun v3 => (if v3 = 0 then (J_X6_sets_74 c x1 x2 x3 x4) else (if x3 = 0 then (J_X6_sets_67 c x1 (x2 + 1) x4) else (mBo (α := Int32) (.inr none) (P_X6_queuesIn c x4) (fun v4 => (mBo (α := Int32) (.inr none) (P_X6_queuesIn c x3) (fun v5 => (if v4 ≤ v5 then (J_X6_sets_73 c x1 (x2 + 1) x4 x3) else (J_X6_sets_67 c x1 (x2 + 1) x4)))))))))))))
  refine Eq.trans (e_X6_sets_22) ?_
  try simp only [mU_same, mU_mU]
  refine mw_oI ?_ (rr_X6_of (d + 5)) (fun v1 => ?_)
  · rfl
  refine Eq.trans (e_X6_sets_30) ?_
  try simp only [mU_same, mU_mU]
  refine mw_ite (fun h9 => ?_) (fun h9 => ?_)
  · refine mw_inr ?_
    refine Eq.trans (e_X6_sets_80) ?_
    try simp only [mU_same, mU_mU]
    refine mw_ite (fun h2 => ?_) (fun h2 => ?_)
    · refine Eq.trans (e_X6_sets_85) ?_
      try simp only [mU_same, mU_mU]
      exact rj_X6_sets_90 d
    · refine Eq.trans (e_X6_sets_89) ?_
      try simp only [mU_same, mU_mU]
      exact rj_X6_sets_90 d
  · refine Eq.trans (e_X6_sets_34) ?_
    try simp only [mU_same, mU_mU]
    refine mw_oZ ?_ (rr_X6_isFull d) rfl (fun v3 hv3 => ?_)
    · rfl
    refine Eq.trans (e_X6_sets_40) ?_
    try simp only [mU_same, mU_mU]
    refine mw_ite (fun h8 => ?_) (fun h8 => ?_)
    · refine Eq.trans (e_X6_sets_43) ?_
      try simp only [mU_same, mU_mU]
      exact rj_X6_sets_74 d
    · refine Eq.trans (e_X6_sets_46) ?_
      try simp only [mU_same, mU_mU]
      refine mw_ite (fun h7 => ?_) (fun h7 => ?_)
      · exact rj_X6_sets_67 d
      · refine Eq.trans (e_X6_sets_53) ?_
        try simp only [mU_same, mU_mU]
        refine mw_oI ?_ (rr_X6_queuesIn (d + 3)) (fun v4 => ?_)
        · rfl
        refine Eq.trans (e_X6_sets_59) ?_
        try simp only [mU_same, mU_mU]
        refine mw_oI ?_ (rr_X6_queuesIn (d + 3)) (fun v5 => ?_)
        · rfl
        refine Eq.trans (e_X6_sets_64) ?_
        try simp only [mU_same, mU_mU]
        refine mw_ite (fun h6 => ?_) (fun h6 => ?_)
        · refine Eq.trans (e_X6_sets_72) ?_
          try simp only [mU_same, mU_mU]
          exact rj_X6_sets_73 d
        · exact rj_X6_sets_67 d
noncomputable def P_X6_sets (c : mC) (x1 : Int32) : (Option (Int32 × mC)) := (mBd (α := Int32) (P_X6_isFrom x1 0 1) (fun v1 => (if v1 = 0 then (mBo (α := Int32 × mC) none (P_X6_refuse c 1) (fun p2 => (some (p2.1, p2.2)))) else (mWh none (B_X6_sets_22 c x1) (0, 0, 1)))))
theorem rr_X6_sets (d : Nat) {X : mX} {g : mG} {x1 : Int32} {c : mC} : mCall mD X (d + 7) 262 [mr 7 20, mi x1] (mU g 7 c) = (wO (wW g 7)) (P_X6_sets c x1) := by
  refine Eq.trans (mCall_eq (d := d + 6) rfl) ?_
  show mEv X (mCall mD X (d + 6)) 1 t_X6_sets (mDrop t_X6_sets 0) [some (mr 7 20), some (mi x1), none, none, none] [] (mU g 7 c) = _
  refine Eq.trans (e_X6_sets_0) ?_
  try simp only [mU_same, mU_mU]
  refine mw_cZ (rr_X6_isFrom (d + 5)) rfl (fun v1 hv1 => ?_)
  refine Eq.trans (e_X6_sets_6) ?_
  try simp only [mU_same, mU_mU]
  refine mw_ite (fun h3 => ?_) (fun h3 => ?_)
  · refine Eq.trans (e_X6_sets_9) ?_
    try simp only [mU_same, mU_mU]
    refine mw_oW ?_ (rr_X6_refuse (d + 5)) (fun p2 => ?_)
    · rfl
    refine Eq.trans (e_X6_sets_14) ?_
    try simp only [mU_same, mU_mU]
    all_goals rfl
  · refine Eq.trans (e_X6_sets_15) ?_
    try simp only [mU_same, mU_mU]
    exact rl_X6_sets_22 d
theorem rr_X6_sets_at (d : Nat) {X : mX} {g : mG} {x1 : Int32} : mCall mD X (d + 7) 262 [mr 7 20, mi x1] g = wO (wW g 7) (P_X6_sets (g 7) x1) := by
  have h := rr_X6_sets (X := X) d (g := g) (c := g 7) (x1 := x1)
  rw [mU_self] at h
  exact h
theorem e_X6_isGreenAt_0 {X : mX} {call : Nat → List mV → mG → mR} {g : mG} {x1 : Int32} : mEv X call 2 t_X6_isGreenAt (mDrop t_X6_isGreenAt 0) [some (mr 7 20), some (mi x1)] [] g = mAns (mEv X call 2 t_X6_isGreenAt) (mDrop t_X6_isGreenAt 7) [some (mr 7 20), some (mi x1)] [mr 7 20] (call 165 [mr 7 20, mi x1, mi 0] g) := (mEv_5 _ _ _ _).trans rfl
theorem e_X6_isGreenAt_7 {X : mX} {call : Nat → List mV → mG → mR} {g : mG} {x1 s1 : Int32} : mEv X call 2 t_X6_isGreenAt (mDrop t_X6_isGreenAt 7) [some (mr 7 20), some (mi x1)] [mi s1, mr 7 20] g = mAns (mEv X call 2 t_X6_isGreenAt) (mDrop t_X6_isGreenAt 10) [some (mr 7 20), some (mi x1)] [] (call 181 [mr 7 20, mi s1] g) := (mEv_1 _ _ _ _).trans rfl
theorem e_X6_isGreenAt_10 {X : mX} {call : Nat → List mV → mG → mR} {g : mG} {x1 s0 : Int32} : mEv X call 2 t_X6_isGreenAt (mDrop t_X6_isGreenAt 10) [some (mr 7 20), some (mi x1)] [mi s0] g = if s0 = 0 then mEv X call 2 t_X6_isGreenAt (mDrop t_X6_isGreenAt 32) [some (mr 7 20), some (mi x1)] [] g else mEv X call 2 t_X6_isGreenAt (mDrop t_X6_isGreenAt 13) [some (mr 7 20), some (mi x1)] [] g := (mEv_1 _ _ _ _).trans rfl
theorem e_X6_isGreenAt_32 {X : mX} {call : Nat → List mV → mG → mR} {g : mG} {x1 : Int32} : mEv X call 2 t_X6_isGreenAt (mDrop t_X6_isGreenAt 32) [some (mr 7 20), some (mi x1)] [] g = mEv X call 2 t_X6_isGreenAt (mDrop t_X6_isGreenAt 33) [some (mr 7 20), some (mi x1)] [mi 0] g := (mEv_1 _ _ _ _).trans rfl
theorem e_X6_isGreenAt_33 {X : mX} {call : Nat → List mV → mG → mR} {g : mG} {x1 s0 : Int32} : mEv X call 2 t_X6_isGreenAt (mDrop t_X6_isGreenAt 33) [some (mr 7 20), some (mi x1)] [mi s0] g = if (s0 : Int32) &&& 1 = s0 then some (some (mi s0), g) else none := (mEv_1 _ _ _ _).trans rfl
noncomputable def J_X6_isGreenAt_32 (c : mC) : (Option (Int32)) := (some 0)
theorem rj_X6_isGreenAt_32 (d : Nat) {X : mX} {g : mG} {x1 : Int32} {c : mC} : mEv X (mCall mD X (d + 3)) 2 t_X6_isGreenAt (mDrop t_X6_isGreenAt 32) [some (mr 7 20), some (mi x1)] [] (mU g 7 c) = (wO (wI g 7 c)) (J_X6_isGreenAt_32 c) := by
  refine Eq.trans (e_X6_isGreenAt_32) ?_
  try simp only [mU_same, mU_mU]
  refine Eq.trans (e_X6_isGreenAt_33) ?_
  try simp only [mU_same, mU_mU]
  exact if_pos (by decide)
theorem e_X6_isGreenAt_13 {X : mX} {call : Nat → List mV → mG → mR} {g : mG} {x1 : Int32} : mEv X call 2 t_X6_isGreenAt (mDrop t_X6_isGreenAt 13) [some (mr 7 20), some (mi x1)] [] g = mAns (mEv X call 2 t_X6_isGreenAt) (mDrop t_X6_isGreenAt 20) [some (mr 7 20), some (mi x1)] [mr 7 20] (call 165 [mr 7 20, mi x1, mi 0] g) := (mEv_5 _ _ _ _).trans rfl
theorem e_X6_isGreenAt_20 {X : mX} {call : Nat → List mV → mG → mR} {g : mG} {x1 s1 : Int32} : mEv X call 2 t_X6_isGreenAt (mDrop t_X6_isGreenAt 20) [some (mr 7 20), some (mi x1)] [mi s1, mr 7 20] g = mAns (mEv X call 2 t_X6_isGreenAt) (mDrop t_X6_isGreenAt 24) [some (mr 7 20), some (mi x1)] [] (call 163 [mr 7 20, mi s1, mi 0] g) := (mEv_2 _ _ _ _).trans rfl
theorem e_X6_isGreenAt_24 {X : mX} {call : Nat → List mV → mG → mR} {g : mG} {x1 s0 : Int32} : mEv X call 2 t_X6_isGreenAt (mDrop t_X6_isGreenAt 24) [some (mr 7 20), some (mi x1)] [mi s0] g = if s0 = x1 then mEv X call 2 t_X6_isGreenAt (mDrop t_X6_isGreenAt 28) [some (mr 7 20), some (mi x1)] [] g else mEv X call 2 t_X6_isGreenAt (mDrop t_X6_isGreenAt 32) [some (mr 7 20), some (mi x1)] [] g := (mEv_2 _ _ _ _).trans rfl
theorem e_X6_isGreenAt_28 {X : mX} {call : Nat → List mV → mG → mR} {g : mG} {x1 : Int32} : mEv X call 2 t_X6_isGreenAt (mDrop t_X6_isGreenAt 28) [some (mr 7 20), some (mi x1)] [] g = mEv X call 2 t_X6_isGreenAt (mDrop t_X6_isGreenAt 33) [some (mr 7 20), some (mi x1)] [mi 1] g := (mEv_2 _ _ _ _).trans rfl
noncomputable def P_X6_isGreenAt (c : mC) (x1 : Int32) : (Option (Int32)) := (mBo (α := Int32) none (P_X6_ofPhase c x1 0) (fun v1 => (mBo (α := Int32) none (P_X6_isGreen c v1) (fun v2 => (if v2 = 0 then (J_X6_isGreenAt_32 c) else (mBo (α := Int32) none (P_X6_ofPhase c x1 0) (fun v3 => (mBo (α := Int32) none (P_X6_ofRing c v3 0) (fun v4 => (if v4 = x1 then (some 1) else (J_X6_isGreenAt_32 c)))))))))))
theorem rr_X6_isGreenAt (d : Nat) {X : mX} {g : mG} {x1 : Int32} {c : mC} : mCall mD X (d + 4) 263 [mr 7 20, mi x1] (mU g 7 c) = (wO (wI g 7 c)) (P_X6_isGreenAt c x1) := by
  refine Eq.trans (mCall_eq (d := d + 3) rfl) ?_
  show mEv X (mCall mD X (d + 3)) 2 t_X6_isGreenAt (mDrop t_X6_isGreenAt 0) [some (mr 7 20), some (mi x1)] [] (mU g 7 c) = _
  refine Eq.trans (e_X6_isGreenAt_0) ?_
  try simp only [mU_same, mU_mU]
  refine mw_oI ?_ (rr_X6_ofPhase (d + 1)) (fun v1 => ?_)
  · rfl
  refine Eq.trans (e_X6_isGreenAt_7) ?_
  try simp only [mU_same, mU_mU]
  refine mw_oZ ?_ (rr_X6_isGreen d) rfl (fun v2 hv2 => ?_)
  · rfl
  refine Eq.trans (e_X6_isGreenAt_10) ?_
  try simp only [mU_same, mU_mU]
  refine mw_ite (fun h6 => ?_) (fun h6 => ?_)
  · exact rj_X6_isGreenAt_32 d
  · refine Eq.trans (e_X6_isGreenAt_13) ?_
    try simp only [mU_same, mU_mU]
    refine mw_oI ?_ (rr_X6_ofPhase (d + 1)) (fun v3 => ?_)
    · rfl
    refine Eq.trans (e_X6_isGreenAt_20) ?_
    try simp only [mU_same, mU_mU]
    refine mw_oI ?_ (rr_X6_ofRing (d + 1)) (fun v4 => ?_)
    · rfl
    refine Eq.trans (e_X6_isGreenAt_24) ?_
    try simp only [mU_same, mU_mU]
    refine mw_ite (fun h5 => ?_) (fun h5 => ?_)
    · refine Eq.trans (e_X6_isGreenAt_28) ?_
      try simp only [mU_same, mU_mU]
      refine Eq.trans (e_X6_isGreenAt_33) ?_
      try simp only [mU_same, mU_mU]
      exact if_pos (by decide)
    · exact rj_X6_isGreenAt_32 d
theorem rr_X6_isGreenAt_at (d : Nat) {X : mX} {g : mG} {x1 : Int32} : mCall mD X (d + 4) 263 [mr 7 20, mi x1] g = wO (wN g) (P_X6_isGreenAt (g 7) x1) := by
  have h := rr_X6_isGreenAt (X := X) d (g := g) (c := g 7) (x1 := x1)
  rw [mU_self] at h
  exact h.trans (wOI_self _ _ _)
theorem e_X6_isReached_0 {X : mX} {call : Nat → List mV → mG → mR} {g : mG} {x1 x2 : Int32} : mEv X call 2 t_X6_isReached (mDrop t_X6_isReached 0) [some (mr 7 20), some (mi x1), some (mi x2)] [] g = if x1 = 0 then mEv X call 2 t_X6_isReached (mDrop t_X6_isReached 32) [some (mr 7 20), some (mi x1), some (mi x2)] [] g else (if x1 = 1 then mEv X call 2 t_X6_isReached (mDrop t_X6_isReached 32) [some (mr 7 20), some (mi x1), some (mi x2)] [] g else (if x1 = 2 then mEv X call 2 t_X6_isReached (mDrop t_X6_isReached 38) [some (mr 7 20), some (mi x1), some (mi x2)] [] g else (if x1 = 3 then mEv X call 2 t_X6_isReached (mDrop t_X6_isReached 51) [some (mr 7 20), some (mi x1), some (mi x2)] [] g else (mEv X call 2 t_X6_isReached (mDrop t_X6_isReached 69) [some (mr 7 20), some (mi x1), some (mi x2)] [] g)))) := (mEv_2 _ _ _ _).trans rfl
theorem e_X6_isReached_69 {X : mX} {call : Nat → List mV → mG → mR} {g : mG} {x1 x2 : Int32} : mEv X call 2 t_X6_isReached (mDrop t_X6_isReached 69) [some (mr 7 20), some (mi x1), some (mi x2)] [] g = mAns (mEv X call 2 t_X6_isReached) (mDrop t_X6_isReached 75) [some (mr 7 20), some (mi x1), some (mi x2)] [] (call 158 [mr 7 20, mi 7] g) := (mEv_3 _ _ _ _).trans rfl
theorem e_X6_isReached_75 {X : mX} {call : Nat → List mV → mG → mR} {g : mG} {x1 x2 s0 : Int32} : mEv X call 2 t_X6_isReached (mDrop t_X6_isReached 75) [some (mr 7 20), some (mi x1), some (mi x2)] [mi s0] g = if s0 = x2 then mEv X call 2 t_X6_isReached (mDrop t_X6_isReached 79) [some (mr 7 20), some (mi x1), some (mi x2)] [] g else mEv X call 2 t_X6_isReached (mDrop t_X6_isReached 103) [some (mr 7 20), some (mi x1), some (mi x2)] [] g := (mEv_2 _ _ _ _).trans rfl
theorem e_X6_isReached_79 {X : mX} {call : Nat → List mV → mG → mR} {g : mG} {x1 x2 : Int32} : mEv X call 2 t_X6_isReached (mDrop t_X6_isReached 79) [some (mr 7 20), some (mi x1), some (mi x2)] [] g = mAns (mEv X call 2 t_X6_isReached) (mDrop t_X6_isReached 85) [some (mr 7 20), some (mi x1), some (mi x2)] [] (call 158 [mr 7 20, mi 8] g) := (mEv_3 _ _ _ _).trans rfl
theorem e_X6_isReached_85 {X : mX} {call : Nat → List mV → mG → mR} {g : mG} {x1 x2 s0 : Int32} : mEv X call 2 t_X6_isReached (mDrop t_X6_isReached 85) [some (mr 7 20), some (mi x1), some (mi x2)] [mi s0] g = if s0 = 2 then mEv X call 2 t_X6_isReached (mDrop t_X6_isReached 99) [some (mr 7 20), some (mi x1), some (mi x2)] [] g else mEv X call 2 t_X6_isReached (mDrop t_X6_isReached 89) [some (mr 7 20), some (mi x1), some (mi x2)] [] g := (mEv_2 _ _ _ _).trans rfl
theorem e_X6_isReached_99 {X : mX} {call : Nat → List mV → mG → mR} {g : mG} {x1 x2 : Int32} : mEv X call 2 t_X6_isReached (mDrop t_X6_isReached 99) [some (mr 7 20), some (mi x1), some (mi x2)] [] g = mEv X call 2 t_X6_isReached (mDrop t_X6_isReached 104) [some (mr 7 20), some (mi x1), some (mi x2)] [mi 1] g := (mEv_2 _ _ _ _).trans rfl
theorem e_X6_isReached_104 {X : mX} {call : Nat → List mV → mG → mR} {g : mG} {x1 x2 s0 : Int32} : mEv X call 2 t_X6_isReached (mDrop t_X6_isReached 104) [some (mr 7 20), some (mi x1), some (mi x2)] [mi s0] g = if (s0 : Int32) &&& 1 = s0 then some (some (mi s0), g) else none := (mEv_1 _ _ _ _).trans rfl
noncomputable def J_X6_isReached_99 (c : mC) : (Option (Int32)) := (some 1)
theorem rj_X6_isReached_99 (d : Nat) {X : mX} {g : mG} {x1 x2 : Int32} {c : mC} : mEv X (mCall mD X (d + 4)) 2 t_X6_isReached (mDrop t_X6_isReached 99) [some (mr 7 20), some (mi x1), some (mi x2)] [] (mU g 7 c) = (wO (wI g 7 c)) (J_X6_isReached_99 c) := by
  refine Eq.trans (e_X6_isReached_99) ?_
  try simp only [mU_same, mU_mU]
  refine Eq.trans (e_X6_isReached_104) ?_
  try simp only [mU_same, mU_mU]
  exact if_pos (by decide)
theorem e_X6_isReached_89 {X : mX} {call : Nat → List mV → mG → mR} {g : mG} {x1 x2 : Int32} : mEv X call 2 t_X6_isReached (mDrop t_X6_isReached 89) [some (mr 7 20), some (mi x1), some (mi x2)] [] g = mAns (mEv X call 2 t_X6_isReached) (mDrop t_X6_isReached 95) [some (mr 7 20), some (mi x1), some (mi x2)] [] (call 158 [mr 7 20, mi 8] g) := (mEv_3 _ _ _ _).trans rfl
theorem e_X6_isReached_95 {X : mX} {call : Nat → List mV → mG → mR} {g : mG} {x1 x2 s0 : Int32} : mEv X call 2 t_X6_isReached (mDrop t_X6_isReached 95) [some (mr 7 20), some (mi x1), some (mi x2)] [mi s0] g = if s0 = 4 then mEv X call 2 t_X6_isReached (mDrop t_X6_isReached 99) [some (mr 7 20), some (mi x1), some (mi x2)] [] g else mEv X call 2 t_X6_isReached (mDrop t_X6_isReached 103) [some (mr 7 20), some (mi x1), some (mi x2)] [] g := (mEv_2 _ _ _ _).trans rfl
theorem e_X6_isReached_103 {X : mX} {call : Nat → List mV → mG → mR} {g : mG} {x1 x2 : Int32} : mEv X call 2 t_X6_isReached (mDrop t_X6_isReached 103) [some (mr 7 20), some (mi x1), some (mi x2)] [] g = mEv X call 2 t_X6_isReached (mDrop t_X6_isReached 104) [some (mr 7 20), some (mi x1), some (mi x2)] [mi 0] g := (mEv_1 _ _ _ _).trans rfl
noncomputable def J_X6_isReached_103 (c : mC) : (Option (Int32)) := (some 0)
theorem rj_X6_isReached_103 (d : Nat) {X : mX} {g : mG} {x1 x2 : Int32} {c : mC} : mEv X (mCall mD X (d + 4)) 2 t_X6_isReached (mDrop t_X6_isReached 103) [some (mr 7 20), some (mi x1), some (mi x2)] [] (mU g 7 c) = (wO (wI g 7 c)) (J_X6_isReached_103 c) := by
  refine Eq.trans (e_X6_isReached_103) ?_
  try simp only [mU_same, mU_mU]
  refine Eq.trans (e_X6_isReached_104) ?_
  try simp only [mU_same, mU_mU]
  exact if_pos (by decide)
theorem e_X6_isReached_32 {X : mX} {call : Nat → List mV → mG → mR} {g : mG} {x1 x2 : Int32} : mEv X call 2 t_X6_isReached (mDrop t_X6_isReached 32) [some (mr 7 20), some (mi x1), some (mi x2)] [] g = mAns (mEv X call 2 t_X6_isReached) (mDrop t_X6_isReached 37) [some (mr 7 20), some (mi x1), some (mi x2)] [] (call 263 [mr 7 20, mi x2] g) := (mEv_3 _ _ _ _).trans rfl
theorem e_X6_isReached_37 {X : mX} {call : Nat → List mV → mG → mR} {g : mG} {x1 x2 s0 : Int32} : mEv X call 2 t_X6_isReached (mDrop t_X6_isReached 37) [some (mr 7 20), some (mi x1), some (mi x2)] [mi s0] g = if (s0 : Int32) &&& 1 = s0 then some (some (mi s0), g) else none := (mEv_1 _ _ _ _).trans rfl
theorem e_X6_isReached_38 {X : mX} {call : Nat → List mV → mG → mR} {g : mG} {x1 x2 : Int32} : mEv X call 2 t_X6_isReached (mDrop t_X6_isReached 38) [some (mr 7 20), some (mi x1), some (mi x2)] [] g = mAns (mEv X call 2 t_X6_isReached) (mDrop t_X6_isReached 42) [some (mr 7 20), some (mi x1), some (mi x2)] [] (call 200 [mr 7 20] g) := (mEv_2 _ _ _ _).trans rfl
theorem e_X6_isReached_42 {X : mX} {call : Nat → List mV → mG → mR} {g : mG} {x1 x2 s0 : Int32} : mEv X call 2 t_X6_isReached (mDrop t_X6_isReached 42) [some (mr 7 20), some (mi x1), some (mi x2)] [mi s0] g = if s0 = 0 then mEv X call 2 t_X6_isReached (mDrop t_X6_isReached 45) [some (mr 7 20), some (mi x1), some (mi x2)] [] g else mEv X call 2 t_X6_isReached (mDrop t_X6_isReached 49) [some (mr 7 20), some (mi x1), some (mi x2)] [] g := (mEv_1 _ _ _ _).trans rfl
theorem e_X6_isReached_45 {X : mX} {call : Nat → List mV → mG → mR} {g : mG} {x1 x2 : Int32} : mEv X call 2 t_X6_isReached (mDrop t_X6_isReached 45) [some (mr 7 20), some (mi x1), some (mi x2)] [] g = mEv X call 2 t_X6_isReached (mDrop t_X6_isReached 50) [some (mr 7 20), some (mi x1), some (mi x2)] [mi 1] g := (mEv_2 _ _ _ _).trans rfl
theorem e_X6_isReached_50 {X : mX} {call : Nat → List mV → mG → mR} {g : mG} {x1 x2 s0 : Int32} : mEv X call 2 t_X6_isReached (mDrop t_X6_isReached 50) [some (mr 7 20), some (mi x1), some (mi x2)] [mi s0] g = if (s0 : Int32) &&& 1 = s0 then some (some (mi s0), g) else none := (mEv_1 _ _ _ _).trans rfl
theorem e_X6_isReached_49 {X : mX} {call : Nat → List mV → mG → mR} {g : mG} {x1 x2 : Int32} : mEv X call 2 t_X6_isReached (mDrop t_X6_isReached 49) [some (mr 7 20), some (mi x1), some (mi x2)] [] g = mEv X call 2 t_X6_isReached (mDrop t_X6_isReached 50) [some (mr 7 20), some (mi x1), some (mi x2)] [mi 0] g := (mEv_1 _ _ _ _).trans rfl
theorem e_X6_isReached_51 {X : mX} {call : Nat → List mV → mG → mR} {g : mG} {x1 x2 : Int32} : mEv X call 2 t_X6_isReached (mDrop t_X6_isReached 51) [some (mr 7 20), some (mi x1), some (mi x2)] [] g = mAns (mEv X call 2 t_X6_isReached) (mDrop t_X6_isReached 55) [some (mr 7 20), some (mi x1), some (mi x2)] [] (call 188 [mr 7 20] g) := (mEv_2 _ _ _ _).trans rfl
theorem e_X6_isReached_55 {X : mX} {call : Nat → List mV → mG → mR} {g : mG} {x1 x2 s0 : Int32} : mEv X call 2 t_X6_isReached (mDrop t_X6_isReached 55) [some (mr 7 20), some (mi x1), some (mi x2)] [mi s0] g = mAns (mEv X call 2 t_X6_isReached) (mDrop t_X6_isReached 60) [some (mr 7 20), some (mi x1), some (mi x2)] [mi s0] (call 158 [mr 7 20, mi 4] g) := (mEv_3 _ _ _ _).trans rfl
theorem e_X6_isReached_60 {X : mX} {call : Nat → List mV → mG → mR} {g : mG} {x1 x2 s0 s1 : Int32} : mEv X call 2 t_X6_isReached (mDrop t_X6_isReached 60) [some (mr 7 20), some (mi x1), some (mi x2)] [mi s1, mi s0] g = if s0 = s1 then mEv X call 2 t_X6_isReached (mDrop t_X6_isReached 63) [some (mr 7 20), some (mi x1), some (mi x2)] [] g else mEv X call 2 t_X6_isReached (mDrop t_X6_isReached 67) [some (mr 7 20), some (mi x1), some (mi x2)] [] g := (mEv_1 _ _ _ _).trans rfl
theorem e_X6_isReached_63 {X : mX} {call : Nat → List mV → mG → mR} {g : mG} {x1 x2 : Int32} : mEv X call 2 t_X6_isReached (mDrop t_X6_isReached 63) [some (mr 7 20), some (mi x1), some (mi x2)] [] g = mEv X call 2 t_X6_isReached (mDrop t_X6_isReached 68) [some (mr 7 20), some (mi x1), some (mi x2)] [mi 1] g := (mEv_2 _ _ _ _).trans rfl
theorem e_X6_isReached_68 {X : mX} {call : Nat → List mV → mG → mR} {g : mG} {x1 x2 s0 : Int32} : mEv X call 2 t_X6_isReached (mDrop t_X6_isReached 68) [some (mr 7 20), some (mi x1), some (mi x2)] [mi s0] g = if (s0 : Int32) &&& 1 = s0 then some (some (mi s0), g) else none := (mEv_1 _ _ _ _).trans rfl
theorem e_X6_isReached_67 {X : mX} {call : Nat → List mV → mG → mR} {g : mG} {x1 x2 : Int32} : mEv X call 2 t_X6_isReached (mDrop t_X6_isReached 67) [some (mr 7 20), some (mi x1), some (mi x2)] [] g = mEv X call 2 t_X6_isReached (mDrop t_X6_isReached 68) [some (mr 7 20), some (mi x1), some (mi x2)] [mi 0] g := (mEv_1 _ _ _ _).trans rfl
noncomputable def P_X6_isReached (c : mC) (x1 : Int32) (x2 : Int32) : (Option (Int32)) := (if x1 = 0 then (mBo (α := Int32) none (P_X6_isGreenAt c x2) (fun v7 => (some v7))) else (if x1 = 1 then (mBo (α := Int32) none (P_X6_isGreenAt c x2) (fun v8 => (some v8))) else (if x1 = 2 then (mBo (α := Int32) none (P_X6_queues c) (fun v9 => (if v9 = 0 then (some 1) else (some 0)))) else (if x1 = 3 then (mBo (α := Int32) none (P_X6_due c) (fun v11 => (mBo (α := Int32) none (P_X6_of c 4) (fun v12 => (if v11 = v12 then (some 1) else (some 0)))))) else (mBo (α := Int32) none (P_X6_of c 7) (fun v1 => (if v1 = x2 then (mBo (α := Int32) none (P_X6_of c 8) (fun v2 => (if v2 = 2 then (J_X6_isReached_99 c) else (mBo (α := Int32) none (P_X6_of c 8) (fun v3 => (if v3 = 4 then (J_X6_isReached_99 c) else (J_X6_isReached_103 c))))))) else (J_X6_isReached_103 c))))))))
theorem rr_X6_isReached (d : Nat) {X : mX} {g : mG} {x1 x2 : Int32} {c : mC} : mCall mD X (d + 5) 264 [mr 7 20, mi x1, mi x2] (mU g 7 c) = (wO (wI g 7 c)) (P_X6_isReached c x1 x2) := by
  refine Eq.trans (mCall_eq (d := d + 4) rfl) ?_
  show mEv X (mCall mD X (d + 4)) 2 t_X6_isReached (mDrop t_X6_isReached 0) [some (mr 7 20), some (mi x1), some (mi x2)] [] (mU g 7 c) = _
  refine Eq.trans (e_X6_isReached_0) ?_
  try simp only [mU_same, mU_mU]
  refine mw_ite (fun _ => ?_) (fun _ => ?_)
  · refine Eq.trans (e_X6_isReached_32) ?_
    try simp only [mU_same, mU_mU]
    refine mw_oZ ?_ (rr_X6_isGreenAt d) rfl (fun v7 hv7 => ?_)
    · rfl
    refine Eq.trans (e_X6_isReached_37) ?_
    try simp only [mU_same, mU_mU]
    exact if_pos hv7
  · refine mw_ite (fun _ => ?_) (fun _ => ?_)
    · refine Eq.trans (e_X6_isReached_32) ?_
      try simp only [mU_same, mU_mU]
      refine mw_oZ ?_ (rr_X6_isGreenAt d) rfl (fun v8 hv8 => ?_)
      · rfl
      refine Eq.trans (e_X6_isReached_37) ?_
      try simp only [mU_same, mU_mU]
      exact if_pos hv8
    · refine mw_ite (fun _ => ?_) (fun _ => ?_)
      · refine Eq.trans (e_X6_isReached_38) ?_
        try simp only [mU_same, mU_mU]
        refine mw_oI ?_ (rr_X6_queues (d + 1)) (fun v9 => ?_)
        · rfl
        refine Eq.trans (e_X6_isReached_42) ?_
        try simp only [mU_same, mU_mU]
        refine mw_ite (fun h10 => ?_) (fun h10 => ?_)
        · refine Eq.trans (e_X6_isReached_45) ?_
          try simp only [mU_same, mU_mU]
          refine Eq.trans (e_X6_isReached_50) ?_
          try simp only [mU_same, mU_mU]
          exact if_pos (by decide)
        · refine Eq.trans (e_X6_isReached_49) ?_
          try simp only [mU_same, mU_mU]
          refine Eq.trans (e_X6_isReached_50) ?_
          try simp only [mU_same, mU_mU]
          exact if_pos (by decide)
      · refine mw_ite (fun _ => ?_) (fun _ => ?_)
        · refine Eq.trans (e_X6_isReached_51) ?_
          try simp only [mU_same, mU_mU]
          refine mw_oI ?_ (rr_X6_due (d + 2)) (fun v11 => ?_)
          · rfl
          refine Eq.trans (e_X6_isReached_55) ?_
          try simp only [mU_same, mU_mU]
          refine mw_oI ?_ (rr_X6_of (d + 3)) (fun v12 => ?_)
          · rfl
          refine Eq.trans (e_X6_isReached_60) ?_
          try simp only [mU_same, mU_mU]
          refine mw_ite (fun h13 => ?_) (fun h13 => ?_)
          · refine Eq.trans (e_X6_isReached_63) ?_
            try simp only [mU_same, mU_mU]
            refine Eq.trans (e_X6_isReached_68) ?_
            try simp only [mU_same, mU_mU]
            exact if_pos (by decide)
          · refine Eq.trans (e_X6_isReached_67) ?_
            try simp only [mU_same, mU_mU]
            refine Eq.trans (e_X6_isReached_68) ?_
            try simp only [mU_same, mU_mU]
            exact if_pos (by decide)
        · refine Eq.trans (e_X6_isReached_69) ?_
          try simp only [mU_same, mU_mU]
          refine mw_oI ?_ (rr_X6_of (d + 3)) (fun v1 => ?_)
          · rfl
          refine Eq.trans (e_X6_isReached_75) ?_
          try simp only [mU_same, mU_mU]
          refine mw_ite (fun h6 => ?_) (fun h6 => ?_)
          · refine Eq.trans (e_X6_isReached_79) ?_
            try simp only [mU_same, mU_mU]
            refine mw_oI ?_ (rr_X6_of (d + 3)) (fun v2 => ?_)
            · rfl
            refine Eq.trans (e_X6_isReached_85) ?_
            try simp only [mU_same, mU_mU]
            refine mw_ite (fun h5 => ?_) (fun h5 => ?_)
            · exact rj_X6_isReached_99 d
            · refine Eq.trans (e_X6_isReached_89) ?_
              try simp only [mU_same, mU_mU]
              refine mw_oI ?_ (rr_X6_of (d + 3)) (fun v3 => ?_)
              · rfl
              refine Eq.trans (e_X6_isReached_95) ?_
              try simp only [mU_same, mU_mU]
              refine mw_ite (fun h4 => ?_) (fun h4 => ?_)
              · exact rj_X6_isReached_99 d
              · exact rj_X6_isReached_103 d
          · exact rj_X6_isReached_103 d
theorem rr_X6_isReached_at (d : Nat) {X : mX} {g : mG} {x1 x2 : Int32} : mCall mD X (d + 5) 264 [mr 7 20, mi x1, mi x2] g = wO (wN g) (P_X6_isReached (g 7) x1 x2) := by
  have h := rr_X6_isReached (X := X) d (g := g) (c := g 7) (x1 := x1) (x2 := x2)
  rw [mU_self] at h
  exact h.trans (wOI_self _ _ _)
theorem e_X6_callsOthers_0 {X : mX} {call : Nat → List mV → mG → mR} {g : mG} {x1 : Int32} : mEv X call 0 t_X6_callsOthers (mDrop t_X6_callsOthers 0) [some (mr 7 20), some (mi x1), none] [] g = mEv X call 0 t_X6_callsOthers (mDrop t_X6_callsOthers 2) [some (mr 7 20), some (mi x1), some (mi 0)] [] g := (mEv_2 _ _ _ _).trans rfl
theorem e_X6_callsOthers_2 {X : mX} {call : Nat → List mV → mG → mR} {g : mG} {x1 x2 : Int32} : mEv X call 0 t_X6_callsOthers (mDrop t_X6_callsOthers 2) [some (mr 7 20), some (mi x1), some (mi x2)] [] g = mAns (mEv X call 0 t_X6_callsOthers) (mDrop t_X6_callsOthers 8) [some (mr 7 20), some (mi x1), some (mi x2)] [mi x2] (call 158 [mr 7 20, mi 0] g) := (mEv_4 _ _ _ _).trans rfl
theorem e_X6_callsOthers_8 {X : mX} {call : Nat → List mV → mG → mR} {g : mG} {x1 x2 s0 s1 : Int32} : mEv X call 0 t_X6_callsOthers (mDrop t_X6_callsOthers 8) [some (mr 7 20), some (mi x1), some (mi x2)] [mi s1, mi s0] g = if s1 ≤ s0 then mEv X call 0 t_X6_callsOthers (mDrop t_X6_callsOthers 35) [some (mr 7 20), some (mi x1), some (mi x2)] [] g else mEv X call 0 t_X6_callsOthers (mDrop t_X6_callsOthers 11) [some (mr 7 20), some (mi x1), some (mi x2)] [] g := (mEv_1 _ _ _ _).trans rfl
theorem e_X6_callsOthers_35 {X : mX} {call : Nat → List mV → mG → mR} {g : mG} {x1 x2 : Int32} : mEv X call 0 t_X6_callsOthers (mDrop t_X6_callsOthers 35) [some (mr 7 20), some (mi x1), some (mi x2)] [] g = some (none, g) := (mEv_1 _ _ _ _).trans rfl
theorem e_X6_callsOthers_11 {X : mX} {call : Nat → List mV → mG → mR} {g : mG} {x1 x2 : Int32} : mEv X call 0 t_X6_callsOthers (mDrop t_X6_callsOthers 11) [some (mr 7 20), some (mi x1), some (mi x2)] [] g = if x2 = x1 then mEv X call 0 t_X6_callsOthers (mDrop t_X6_callsOthers 29) [some (mr 7 20), some (mi x1), some (mi x2)] [] g else mEv X call 0 t_X6_callsOthers (mDrop t_X6_callsOthers 16) [some (mr 7 20), some (mi x1), some (mi x2)] [] g := (mEv_3 _ _ _ _).trans rfl
theorem e_X6_callsOthers_29 {X : mX} {call : Nat → List mV → mG → mR} {g : mG} {x1 x2 : Int32} : mEv X call 0 t_X6_callsOthers (mDrop t_X6_callsOthers 29) [some (mr 7 20), some (mi x1), some (mi x2)] [] g = mEv X call 0 t_X6_callsOthers (mDrop t_X6_callsOthers 2) [some (mr 7 20), some (mi x1), some (mi (x2 + 1))] [] g := (mEv_2 _ _ _ _).trans rfl
noncomputable def J_X6_callsOthers_29 (c : mC) (x1 : Int32) (x2 : Int32) : ((Int32 × mC) ⊕ (Option (mC))) := (.inl ((x2 + 1), c))
theorem rj_X6_callsOthers_29 (d : Nat) {X : mX} {g : mG} {x1 x2 : Int32} {c : mC} : mEv X (mCall mD X (d + 4)) 0 t_X6_callsOthers (mDrop t_X6_callsOthers 29) [some (mr 7 20), some (mi x1), some (mi x2)] [] (mU g 7 c) = (wB (fun s : (Int32 × mC) => match s with | (x2, c) => mEv X (mCall mD X (d + 4)) 0 t_X6_callsOthers (mDrop t_X6_callsOthers 2) [some (mr 7 20), some (mi x1), some (mi x2)] [] (mU g 7 c)) (wO (wV g 7))) (J_X6_callsOthers_29 c x1 x2) := by
  refine Eq.trans (e_X6_callsOthers_29) ?_
  try simp only [mU_same, mU_mU]
  exact mw_inl rfl
theorem e_X6_callsOthers_16 {X : mX} {call : Nat → List mV → mG → mR} {g : mG} {x1 x2 : Int32} : mEv X call 0 t_X6_callsOthers (mDrop t_X6_callsOthers 16) [some (mr 7 20), some (mi x1), some (mi x2)] [] g = mAns (mEv X call 0 t_X6_callsOthers) (mDrop t_X6_callsOthers 21) [some (mr 7 20), some (mi x1), some (mi x2)] [] (call 158 [mr 7 20, mi 5] g) := (mEv_3 _ _ _ _).trans rfl
theorem e_X6_callsOthers_21 {X : mX} {call : Nat → List mV → mG → mR} {g : mG} {x1 x2 s0 : Int32} : mEv X call 0 t_X6_callsOthers (mDrop t_X6_callsOthers 21) [some (mr 7 20), some (mi x1), some (mi x2)] [mi s0] g = if s0 = 0 then mEv X call 0 t_X6_callsOthers (mDrop t_X6_callsOthers 24) [some (mr 7 20), some (mi x1), some (mi x2)] [] g else mEv X call 0 t_X6_callsOthers (mDrop t_X6_callsOthers 29) [some (mr 7 20), some (mi x1), some (mi x2)] [] g := (mEv_1 _ _ _ _).trans rfl
theorem e_X6_callsOthers_24 {X : mX} {call : Nat → List mV → mG → mR} {g : mG} {x1 x2 : Int32} : mEv X call 0 t_X6_callsOthers (mDrop t_X6_callsOthers 24) [some (mr 7 20), some (mi x1), some (mi x2)] [] g = mAns (mEv X call 0 t_X6_callsOthers) (mDrop t_X6_callsOthers 29) [some (mr 7 20), some (mi x1), some (mi x2)] [] (call 245 [mr 7 20, mi x2] g) := (mEv_3 _ _ _ _).trans rfl
noncomputable def B_X6_callsOthers_2 (x1 : Int32) : (Int32 × mC) → (Int32 × mC) ⊕ (Option (mC)) := fun s => match s with | (x2, c) => (mBo (α := Int32) (.inr none) (P_X6_of c 0) (fun v1 => (if v1 ≤ x2 then (.inr (some c)) else (if x2 = x1 then (J_X6_callsOthers_29 c x1 x2) else (mBo (α := Int32) (.inr none) (P_X6_of c 5) (fun v2 => (if v2 = 0 then (mBo (α := mC) (.inr none) (P_X6_calls c x2) (fun c3 => (J_X6_callsOthers_29 c3 x1 x2))) else (J_X6_callsOthers_29 c x1 x2))))))))
set_option maxRecDepth 100000 in
theorem tm_X6_callsOthers_2 {x1 : Int32} : mTm (B_X6_callsOthers_2 x1) := by
  refine ⟨fun s => match s with | (x2, c) => mMx x2, fun s s2 h => ?_⟩
  obtain ⟨x2, c⟩ := s
  simp only [B_X6_callsOthers_2, J_X6_callsOthers_29, mBd, mBo] at h
  (repeat' split at h) <;> first | (have h2 := Sum.inl.inj h; subst h2; dsimp only; first | exact mtm_max (by assumption) | exact mtm_lt (by assumption)) | (cases h; done)
theorem rl_X6_callsOthers_2 (d : Nat) {X : mX} {g : mG} {x1 x2 : Int32} {c : mC} : mEv X (mCall mD X (d + 4)) 0 t_X6_callsOthers (mDrop t_X6_callsOthers 2) [some (mr 7 20), some (mi x1), some (mi x2)] [] (mU g 7 c) = (wO (wV g 7)) (mWh none (B_X6_callsOthers_2 x1) (x2, c)) := by
  refine mWh_ev (B := (B_X6_callsOthers_2 x1)) (ev := fun s : (Int32 × mC) => match s with | (x2, c) => mEv X (mCall mD X (d + 4)) 0 t_X6_callsOthers (mDrop t_X6_callsOthers 2) [some (mr 7 20), some (mi x1), some (mi x2)] [] (mU g 7 c)) (w := (wO (wV g 7))) (tm_X6_callsOthers_2) ?_ (x2, c)
  rintro ⟨x2, c⟩
  show mEv X (mCall mD X (d + 4)) 0 t_X6_callsOthers (mDrop t_X6_callsOthers 2) [some (mr 7 20), some (mi x1), some (mi x2)] [] (mU g 7 c) = wB (fun s : (Int32 × mC) => match s with | (x2, c) => mEv X (mCall mD X (d + 4)) 0 t_X6_callsOthers (mDrop t_X6_callsOthers 2) [some (mr 7 20), some (mi x1), some (mi x2)] [] (mU g 7 c)) (wO (wV g 7)) (mBo (α := Int32) (.inr none) (P_X6_of c 0) (fun v1 => (if v1 ≤ x2 then (.inr (some c)) else (if x2 = x1 then (J_X6_callsOthers_29 c x1 x2) else (mBo (α := Int32) (.inr none) (P_X6_of c 5) (fun v2 => (if v2 = 0 then (mBo (α := mC) (.inr none) (P_X6_calls c x2) (fun c3 => (J_X6_callsOthers_29 c3 x1 x2))) else (J_X6_callsOthers_29 c x1 x2))))))))
  refine Eq.trans (e_X6_callsOthers_2) ?_
  try simp only [mU_same, mU_mU]
  refine mw_oI ?_ (rr_X6_of (d + 3)) (fun v1 => ?_)
  · rfl
  refine Eq.trans (e_X6_callsOthers_8) ?_
  try simp only [mU_same, mU_mU]
  refine mw_ite (fun h6 => ?_) (fun h6 => ?_)
  · refine mw_inr ?_
    refine Eq.trans (e_X6_callsOthers_35) ?_
    try simp only [mU_same, mU_mU]
    all_goals rfl
  · refine Eq.trans (e_X6_callsOthers_11) ?_
    try simp only [mU_same, mU_mU]
    refine mw_ite (fun h5 => ?_) (fun h5 => ?_)
    · exact rj_X6_callsOthers_29 d
    · refine Eq.trans (e_X6_callsOthers_16) ?_
      try simp only [mU_same, mU_mU]
      refine mw_oI ?_ (rr_X6_of (d + 3)) (fun v2 => ?_)
      · rfl
      refine Eq.trans (e_X6_callsOthers_21) ?_
      try simp only [mU_same, mU_mU]
      refine mw_ite (fun h4 => ?_) (fun h4 => ?_)
      · refine Eq.trans (e_X6_callsOthers_24) ?_
        try simp only [mU_same, mU_mU]
        refine mw_oV ?_ (rr_X6_calls d) (fun c3 => ?_)
        · rfl
        exact rj_X6_callsOthers_29 d
      · exact rj_X6_callsOthers_29 d
noncomputable def P_X6_callsOthers (c : mC) (x1 : Int32) : (Option (mC)) := (mWh none (B_X6_callsOthers_2 x1) (0, c))
theorem rr_X6_callsOthers (d : Nat) {X : mX} {g : mG} {x1 : Int32} {c : mC} : mCall mD X (d + 5) 265 [mr 7 20, mi x1] (mU g 7 c) = (wO (wV g 7)) (P_X6_callsOthers c x1) := by
  refine Eq.trans (mCall_eq (d := d + 4) rfl) ?_
  show mEv X (mCall mD X (d + 4)) 0 t_X6_callsOthers (mDrop t_X6_callsOthers 0) [some (mr 7 20), some (mi x1), none] [] (mU g 7 c) = _
  refine Eq.trans (e_X6_callsOthers_0) ?_
  try simp only [mU_same, mU_mU]
  exact rl_X6_callsOthers_2 d
theorem rr_X6_callsOthers_at (d : Nat) {X : mX} {g : mG} {x1 : Int32} : mCall mD X (d + 5) 265 [mr 7 20, mi x1] g = wO (wV g 7) (P_X6_callsOthers (g 7) x1) := by
  have h := rr_X6_callsOthers (X := X) d (g := g) (c := g 7) (x1 := x1)
  rw [mU_self] at h
  exact h
theorem e_X6_reaches_0 {X : mX} {call : Nat → List mV → mG → mR} {g : mG} {x1 x2 : Int32} : mEv X call 1 t_X6_reaches (mDrop t_X6_reaches 0) [some (mr 7 20), some (mi x1), some (mi x2), none, none] [] g = mAns (mEv X call 1 t_X6_reaches) (mDrop t_X6_reaches 8) [some (mr 7 20), some (mi x1), some (mi x2), none, none] [] (call 161 [mr 7 20, mi 0, mi 288] g) := (mEv_4 _ _ _ _).trans rfl
theorem e_X6_reaches_8 {X : mX} {call : Nat → List mV → mG → mR} {g : mG} {x1 x2 : Int32} : mEv X call 1 t_X6_reaches (mDrop t_X6_reaches 8) [some (mr 7 20), some (mi x1), some (mi x2), none, none] [] g = if x1 = 1 then mEv X call 1 t_X6_reaches (mDrop t_X6_reaches 13) [some (mr 7 20), some (mi x1), some (mi x2), none, none] [] g else mEv X call 1 t_X6_reaches (mDrop t_X6_reaches 26) [some (mr 7 20), some (mi x1), some (mi x2), none, none] [] g := (mEv_3 _ _ _ _).trans rfl
theorem e_X6_reaches_13 {X : mX} {call : Nat → List mV → mG → mR} {g : mG} {x1 x2 : Int32} : mEv X call 1 t_X6_reaches (mDrop t_X6_reaches 13) [some (mr 7 20), some (mi x1), some (mi x2), none, none] [] g = mAns (mEv X call 1 t_X6_reaches) (mDrop t_X6_reaches 18) [some (mr 7 20), some (mi x1), some (mi x2), none, none] [] (call 158 [mr 7 20, mi 5] g) := (mEv_3 _ _ _ _).trans rfl
theorem e_X6_reaches_18 {X : mX} {call : Nat → List mV → mG → mR} {g : mG} {x1 x2 s0 : Int32} : mEv X call 1 t_X6_reaches (mDrop t_X6_reaches 18) [some (mr 7 20), some (mi x1), some (mi x2), none, none] [mi s0] g = if s0 = 0 then mEv X call 1 t_X6_reaches (mDrop t_X6_reaches 21) [some (mr 7 20), some (mi x1), some (mi x2), none, none] [] g else mEv X call 1 t_X6_reaches (mDrop t_X6_reaches 26) [some (mr 7 20), some (mi x1), some (mi x2), none, none] [] g := (mEv_1 _ _ _ _).trans rfl
theorem e_X6_reaches_21 {X : mX} {call : Nat → List mV → mG → mR} {g : mG} {x1 x2 : Int32} : mEv X call 1 t_X6_reaches (mDrop t_X6_reaches 21) [some (mr 7 20), some (mi x1), some (mi x2), none, none] [] g = mAns (mEv X call 1 t_X6_reaches) (mDrop t_X6_reaches 26) [some (mr 7 20), some (mi x1), some (mi x2), none, none] [] (call 245 [mr 7 20, mi x2] g) := (mEv_3 _ _ _ _).trans rfl
theorem e_X6_reaches_26 {X : mX} {call : Nat → List mV → mG → mR} {g : mG} {x1 x2 : Int32} : mEv X call 1 t_X6_reaches (mDrop t_X6_reaches 26) [some (mr 7 20), some (mi x1), some (mi x2), none, none] [] g = if x1 = 4 then mEv X call 1 t_X6_reaches (mDrop t_X6_reaches 31) [some (mr 7 20), some (mi x1), some (mi x2), none, none] [] g else mEv X call 1 t_X6_reaches (mDrop t_X6_reaches 47) [some (mr 7 20), some (mi x1), some (mi x2), none, none] [] g := (mEv_3 _ _ _ _).trans rfl
theorem e_X6_reaches_31 {X : mX} {call : Nat → List mV → mG → mR} {g : mG} {x1 x2 : Int32} : mEv X call 1 t_X6_reaches (mDrop t_X6_reaches 31) [some (mr 7 20), some (mi x1), some (mi x2), none, none] [] g = mAns (mEv X call 1 t_X6_reaches) (mDrop t_X6_reaches 40) [some (mr 7 20), some (mi x1), some (mi x2), none, none] [mi 10, mr 7 20] (call 158 [mr 7 20, mi 10] g) := (mEv_5 _ _ _ _).trans rfl
theorem e_X6_reaches_40 {X : mX} {call : Nat → List mV → mG → mR} {g : mG} {x1 x2 s1 s2 : Int32} : mEv X call 1 t_X6_reaches (mDrop t_X6_reaches 40) [some (mr 7 20), some (mi x1), some (mi x2), none, none] [mi s2, mi s1, mr 7 20] g = mAns (mEv X call 1 t_X6_reaches) (mDrop t_X6_reaches 47) [some (mr 7 20), some (mi x1), some (mi x2), none, none] [] (call 159 [mr 7 20, mi s1, mi (s2 ||| ((1 : Int32) <<< (x2 &&& 31)))] g) := (mEv_5 _ _ _ _).trans rfl
theorem e_X6_reaches_47 {X : mX} {call : Nat → List mV → mG → mR} {g : mG} {x1 x2 : Int32} : mEv X call 1 t_X6_reaches (mDrop t_X6_reaches 47) [some (mr 7 20), some (mi x1), some (mi x2), none, none] [] g = mEv X call 1 t_X6_reaches (mDrop t_X6_reaches 49) [some (mr 7 20), some (mi x1), some (mi x2), some (mi 0), none] [] g := (mEv_2 _ _ _ _).trans rfl
theorem e_X6_reaches_49 {X : mX} {call : Nat → List mV → mG → mR} {g : mG} {x1 x2 x3 : Int32} : mEv X call 1 t_X6_reaches (mDrop t_X6_reaches 49) [some (mr 7 20), some (mi x1), some (mi x2), some (mi x3), none] [] g = if 600 ≤ x3 then mEv X call 1 t_X6_reaches (mDrop t_X6_reaches 86) [some (mr 7 20), some (mi x1), some (mi x2), some (mi x3), none] [] g else mEv X call 1 t_X6_reaches (mDrop t_X6_reaches 56) [some (mr 7 20), some (mi x1), some (mi x2), some (mi x3), none] [] g := (mEv_3 _ _ _ _).trans rfl
theorem e_X6_reaches_86 {X : mX} {call : Nat → List mV → mG → mR} {g : mG} {x1 x2 x3 : Int32} : mEv X call 1 t_X6_reaches (mDrop t_X6_reaches 86) [some (mr 7 20), some (mi x1), some (mi x2), some (mi x3), none] [] g = mAns (mEv X call 1 t_X6_reaches) (mDrop t_X6_reaches 92) [some (mr 7 20), some (mi x1), some (mi x2), some (mi x3), none] [] (call 264 [mr 7 20, mi x1, mi x2] g) := (mEv_4 _ _ _ _).trans rfl
theorem e_X6_reaches_92 {X : mX} {call : Nat → List mV → mG → mR} {g : mG} {x1 x2 x3 s0 : Int32} : mEv X call 1 t_X6_reaches (mDrop t_X6_reaches 92) [some (mr 7 20), some (mi x1), some (mi x2), some (mi x3), none] [mi s0] g = mAns (mEv X call 1 t_X6_reaches) (mDrop t_X6_reaches 102) [some (mr 7 20), some (mi x1), some (mi x2), some (mi x3), some (mi s0)] [] (call 161 [mr 7 20, mi 288, mi 0] g) := (mEv_5 _ _ _ _).trans rfl
theorem e_X6_reaches_102 {X : mX} {call : Nat → List mV → mG → mR} {g : mG} {x1 x2 x3 x4 : Int32} : mEv X call 1 t_X6_reaches (mDrop t_X6_reaches 102) [some (mr 7 20), some (mi x1), some (mi x2), some (mi x3), some (mi x4)] [] g = if x4 = 0 then mEv X call 1 t_X6_reaches (mDrop t_X6_reaches 115) [some (mr 7 20), some (mi x1), some (mi x2), some (mi x3), some (mi x4)] [] g else mEv X call 1 t_X6_reaches (mDrop t_X6_reaches 107) [some (mr 7 20), some (mi x1), some (mi x2), some (mi x3), some (mi x4)] [] g := (mEv_2 _ _ _ _).trans rfl
theorem e_X6_reaches_115 {X : mX} {call : Nat → List mV → mG → mR} {g : mG} {x1 x2 x3 x4 : Int32} : mEv X call 1 t_X6_reaches (mDrop t_X6_reaches 115) [some (mr 7 20), some (mi x1), some (mi x2), some (mi x3), some (mi x4)] [] g = mAns (mEv X call 1 t_X6_reaches) (mDrop t_X6_reaches 121) [some (mr 7 20), some (mi x1), some (mi x2), some (mi x3), some (mi x4)] [] (call 152 [mr 7 20, mi 6] g) := (mEv_3 _ _ _ _).trans rfl
theorem e_X6_reaches_121 {X : mX} {call : Nat → List mV → mG → mR} {g : mG} {x1 x2 x3 x4 s0 : Int32} : mEv X call 1 t_X6_reaches (mDrop t_X6_reaches 121) [some (mr 7 20), some (mi x1), some (mi x2), some (mi x3), some (mi x4)] [mi s0] g = some (some (mi s0), g) := (mEv_1 _ _ _ _).trans rfl
theorem e_X6_reaches_107 {X : mX} {call : Nat → List mV → mG → mR} {g : mG} {x1 x2 x3 x4 : Int32} : mEv X call 1 t_X6_reaches (mDrop t_X6_reaches 107) [some (mr 7 20), some (mi x1), some (mi x2), some (mi x3), some (mi x4)] [] g = mAns (mEv X call 1 t_X6_reaches) (mDrop t_X6_reaches 112) [some (mr 7 20), some (mi x1), some (mi x2), some (mi x3), some (mi x4)] [] (call 154 [mr 7 20, mi x3] g) := (mEv_3 _ _ _ _).trans rfl
theorem e_X6_reaches_112 {X : mX} {call : Nat → List mV → mG → mR} {g : mG} {x1 x2 x3 x4 s0 : Int32} : mEv X call 1 t_X6_reaches (mDrop t_X6_reaches 112) [some (mr 7 20), some (mi x1), some (mi x2), some (mi x3), some (mi x4)] [mi s0] g = mEv X call 1 t_X6_reaches (mDrop t_X6_reaches 121) [some (mr 7 20), some (mi x1), some (mi x2), some (mi x3), some (mi x4)] [mi s0] g := (mEv_1 _ _ _ _).trans rfl
noncomputable def J_X6_reaches_86 (c : mC) (x1 : Int32) (x2 : Int32) (x3 : Int32) : (Option (Int32 × mC)) := (mBo (α := Int32) none (P_X6_isReached c x1 x2) (fun v1 => (mBo (α := mC) none (P_X6_copies c 288 0) (fun c2 => (if v1 = 0 then (mBo (α := Int32 × mC) none (P_X6_refuse c2 6) (fun p3 => (some (p3.1, p3.2)))) else (mBo (α := Int32 × mC) none (P_X6_gives c2 x3) (fun p4 => (some (p4.1, p4.2)))))))))
theorem rj_X6_reaches_86 (d : Nat) {X : mX} {g : mG} {x1 x2 x3 : Int32} {c : mC} : mEv X (mCall mD X (d + 10)) 1 t_X6_reaches (mDrop t_X6_reaches 86) [some (mr 7 20), some (mi x1), some (mi x2), some (mi x3), none] [] (mU g 7 c) = (wO (wW g 7)) (J_X6_reaches_86 c x1 x2 x3) := by
  refine Eq.trans (e_X6_reaches_86) ?_
  try simp only [mU_same, mU_mU]
  refine mw_oZ ?_ (rr_X6_isReached (d + 5)) rfl (fun v1 hv1 => ?_)
  · rfl
  refine Eq.trans (e_X6_reaches_92) ?_
  try simp only [mU_same, mU_mU]
  refine mw_oV ?_ (rr_X6_copies (d + 9)) (fun c2 => ?_)
  · rfl
  refine Eq.trans (e_X6_reaches_102) ?_
  try simp only [mU_same, mU_mU]
  refine mw_ite (fun h5 => ?_) (fun h5 => ?_)
  · refine Eq.trans (e_X6_reaches_115) ?_
    try simp only [mU_same, mU_mU]
    refine mw_oW ?_ (rr_X6_refuse (d + 9)) (fun p3 => ?_)
    · rfl
    refine Eq.trans (e_X6_reaches_121) ?_
    try simp only [mU_same, mU_mU]
    all_goals rfl
  · refine Eq.trans (e_X6_reaches_107) ?_
    try simp only [mU_same, mU_mU]
    refine mw_oW ?_ (rr_X6_gives (d + 9)) (fun p4 => ?_)
    · rfl
    refine Eq.trans (e_X6_reaches_112) ?_
    try simp only [mU_same, mU_mU]
    refine Eq.trans (e_X6_reaches_121) ?_
    try simp only [mU_same, mU_mU]
    all_goals rfl
theorem e_X6_reaches_56 {X : mX} {call : Nat → List mV → mG → mR} {g : mG} {x1 x2 x3 : Int32} : mEv X call 1 t_X6_reaches (mDrop t_X6_reaches 56) [some (mr 7 20), some (mi x1), some (mi x2), some (mi x3), none] [] g = mAns (mEv X call 1 t_X6_reaches) (mDrop t_X6_reaches 62) [some (mr 7 20), some (mi x1), some (mi x2), some (mi x3), none] [] (call 264 [mr 7 20, mi x1, mi x2] g) := (mEv_4 _ _ _ _).trans rfl
theorem e_X6_reaches_62 {X : mX} {call : Nat → List mV → mG → mR} {g : mG} {x1 x2 x3 s0 : Int32} : mEv X call 1 t_X6_reaches (mDrop t_X6_reaches 62) [some (mr 7 20), some (mi x1), some (mi x2), some (mi x3), none] [mi s0] g = if s0 = 0 then mEv X call 1 t_X6_reaches (mDrop t_X6_reaches 65) [some (mr 7 20), some (mi x1), some (mi x2), some (mi x3), none] [] g else mEv X call 1 t_X6_reaches (mDrop t_X6_reaches 86) [some (mr 7 20), some (mi x1), some (mi x2), some (mi x3), none] [] g := (mEv_1 _ _ _ _).trans rfl
theorem e_X6_reaches_65 {X : mX} {call : Nat → List mV → mG → mR} {g : mG} {x1 x2 x3 : Int32} : mEv X call 1 t_X6_reaches (mDrop t_X6_reaches 65) [some (mr 7 20), some (mi x1), some (mi x2), some (mi x3), none] [] g = if x1 = 1 then mEv X call 1 t_X6_reaches (mDrop t_X6_reaches 70) [some (mr 7 20), some (mi x1), some (mi x2), some (mi x3), none] [] g else mEv X call 1 t_X6_reaches (mDrop t_X6_reaches 75) [some (mr 7 20), some (mi x1), some (mi x2), some (mi x3), none] [] g := (mEv_3 _ _ _ _).trans rfl
theorem e_X6_reaches_70 {X : mX} {call : Nat → List mV → mG → mR} {g : mG} {x1 x2 x3 : Int32} : mEv X call 1 t_X6_reaches (mDrop t_X6_reaches 70) [some (mr 7 20), some (mi x1), some (mi x2), some (mi x3), none] [] g = mAns (mEv X call 1 t_X6_reaches) (mDrop t_X6_reaches 75) [some (mr 7 20), some (mi x1), some (mi x2), some (mi x3), none] [] (call 265 [mr 7 20, mi x2] g) := (mEv_3 _ _ _ _).trans rfl
theorem e_X6_reaches_75 {X : mX} {call : Nat → List mV → mG → mR} {g : mG} {x1 x2 x3 : Int32} : mEv X call 1 t_X6_reaches (mDrop t_X6_reaches 75) [some (mr 7 20), some (mi x1), some (mi x2), some (mi x3), none] [] g = mAns (mEv X call 1 t_X6_reaches) (mDrop t_X6_reaches 80) [some (mr 7 20), some (mi x1), some (mi x2), some (mi x3), none] [] (call 201 [mr 7 20, mi 0] g) := (mEv_3 _ _ _ _).trans rfl
theorem e_X6_reaches_80 {X : mX} {call : Nat → List mV → mG → mR} {g : mG} {x1 x2 x3 : Int32} : mEv X call 1 t_X6_reaches (mDrop t_X6_reaches 80) [some (mr 7 20), some (mi x1), some (mi x2), some (mi x3), none] [] g = mEv X call 1 t_X6_reaches (mDrop t_X6_reaches 49) [some (mr 7 20), some (mi x1), some (mi x2), some (mi (x3 + 1)), none] [] g := (mEv_2 _ _ _ _).trans rfl
noncomputable def J_X6_reaches_75 (c : mC) (x1 : Int32) (x2 : Int32) (x3 : Int32) : ((Int32 × mC) ⊕ (Option (Int32 × mC))) := (mBo (α := mC) (.inr none) (P_X6_ticks c 0) (fun c1 => (.inl ((x3 + 1), c1))))
theorem rj_X6_reaches_75 (d : Nat) {X : mX} {g : mG} {x1 x2 x3 : Int32} {c : mC} : mEv X (mCall mD X (d + 10)) 1 t_X6_reaches (mDrop t_X6_reaches 75) [some (mr 7 20), some (mi x1), some (mi x2), some (mi x3), none] [] (mU g 7 c) = (wB (fun s : (Int32 × mC) => match s with | (x3, c) => mEv X (mCall mD X (d + 10)) 1 t_X6_reaches (mDrop t_X6_reaches 49) [some (mr 7 20), some (mi x1), some (mi x2), some (mi x3), none] [] (mU g 7 c)) (wO (wW g 7))) (J_X6_reaches_75 c x1 x2 x3) := by
  refine Eq.trans (e_X6_reaches_75) ?_
  try simp only [mU_same, mU_mU]
  refine mw_oV ?_ (rr_X6_ticks d) (fun c1 => ?_)
  · rfl
  refine Eq.trans (e_X6_reaches_80) ?_
  try simp only [mU_same, mU_mU]
  exact mw_inl rfl
noncomputable def B_X6_reaches_49 (x1 : Int32) (x2 : Int32) : (Int32 × mC) → (Int32 × mC) ⊕ (Option (Int32 × mC)) := fun s => match s with | (x3, c) => (if 600 ≤ x3 then (.inr (J_X6_reaches_86 c x1 x2 x3)) else (mBo (α := Int32) (.inr none) (P_X6_isReached c x1 x2) (fun v1 => (if v1 = 0 then (if x1 = 1 then (mBo (α := mC) (.inr none) (P_X6_callsOthers c x2) (fun c2 => (J_X6_reaches_75 c2 x1 x2 x3))) else (J_X6_reaches_75 c x1 x2 x3)) else (.inr (J_X6_reaches_86 c x1 x2 x3))))))
set_option maxRecDepth 100000 in
theorem tm_X6_reaches_49 {x1 : Int32} {x2 : Int32} : mTm (B_X6_reaches_49 x1 x2) := by
  refine ⟨fun s => match s with | (x3, c) => mMx x3, fun s s2 h => ?_⟩
  obtain ⟨x3, c⟩ := s
  simp only [B_X6_reaches_49, J_X6_reaches_75, mBd, mBo] at h
  (repeat' split at h) <;> first | (have h2 := Sum.inl.inj h; subst h2; dsimp only; first | exact mtm_max (by assumption) | exact mtm_lt (by assumption)) | (cases h; done)
theorem rl_X6_reaches_49 (d : Nat) {X : mX} {g : mG} {x1 x2 x3 : Int32} {c : mC} : mEv X (mCall mD X (d + 10)) 1 t_X6_reaches (mDrop t_X6_reaches 49) [some (mr 7 20), some (mi x1), some (mi x2), some (mi x3), none] [] (mU g 7 c) = (wO (wW g 7)) (mWh none (B_X6_reaches_49 x1 x2) (x3, c)) := by
  refine mWh_ev (B := (B_X6_reaches_49 x1 x2)) (ev := fun s : (Int32 × mC) => match s with | (x3, c) => mEv X (mCall mD X (d + 10)) 1 t_X6_reaches (mDrop t_X6_reaches 49) [some (mr 7 20), some (mi x1), some (mi x2), some (mi x3), none] [] (mU g 7 c)) (w := (wO (wW g 7))) (tm_X6_reaches_49) ?_ (x3, c)
  rintro ⟨x3, c⟩
  show mEv X (mCall mD X (d + 10)) 1 t_X6_reaches (mDrop t_X6_reaches 49) [some (mr 7 20), some (mi x1), some (mi x2), some (mi x3), none] [] (mU g 7 c) = wB (fun s : (Int32 × mC) => match s with | (x3, c) => mEv X (mCall mD X (d + 10)) 1 t_X6_reaches (mDrop t_X6_reaches 49) [some (mr 7 20), some (mi x1), some (mi x2), some (mi x3), none] [] (mU g 7 c)) (wO (wW g 7)) (B_X6_reaches_49 x1 x2 (x3, c))
  refine Eq.trans (e_X6_reaches_49) ?_
  try simp only [mU_same, mU_mU]
  refine mw_ite (fun h5 => ?_) (fun h5 => ?_)
  · refine mw_inr ?_
    exact rj_X6_reaches_86 d
  · refine Eq.trans (e_X6_reaches_56) ?_
    try simp only [mU_same, mU_mU]
    refine mw_oZ ?_ (rr_X6_isReached (d + 5)) rfl (fun v1 hv1 => ?_)
    · rfl
    refine Eq.trans (e_X6_reaches_62) ?_
    try simp only [mU_same, mU_mU]
    refine mw_ite (fun h4 => ?_) (fun h4 => ?_)
    · refine Eq.trans (e_X6_reaches_65) ?_
      try simp only [mU_same, mU_mU]
      refine mw_ite (fun h3 => ?_) (fun h3 => ?_)
      · refine Eq.trans (e_X6_reaches_70) ?_
        try simp only [mU_same, mU_mU]
        refine mw_oV ?_ (rr_X6_callsOthers (d + 5)) (fun c2 => ?_)
        · rfl
        exact rj_X6_reaches_75 d
      · exact rj_X6_reaches_75 d
    · refine mw_inr ?_
      exact rj_X6_reaches_86 d
noncomputable def J_X6_reaches_47 (c : mC) (x1 : Int32) (x2 : Int32) : (Option (Int32 × mC)) := (mWh none (B_X6_reaches_49 x1 x2) (0, c))
theorem rj_X6_reaches_47 (d : Nat) {X : mX} {g : mG} {x1 x2 : Int32} {c : mC} : mEv X (mCall mD X (d + 10)) 1 t_X6_reaches (mDrop t_X6_reaches 47) [some (mr 7 20), some (mi x1), some (mi x2), none, none] [] (mU g 7 c) = (wO (wW g 7)) (J_X6_reaches_47 c x1 x2) := by
  refine Eq.trans (e_X6_reaches_47) ?_
  try simp only [mU_same, mU_mU]
  exact rl_X6_reaches_49 d
noncomputable def J_X6_reaches_26 (c : mC) (x1 : Int32) (x2 : Int32) : (Option (Int32 × mC)) := (if x1 = 4 then (mBo (α := Int32) none (P_X6_of c 10) (fun v1 => (mBo (α := mC) none (P_X6_puts c 10 (v1 ||| ((1 : Int32) <<< (x2 &&& 31)))) (fun c2 => (J_X6_reaches_47 c2 x1 x2))))) else (J_X6_reaches_47 c x1 x2))
theorem rj_X6_reaches_26 (d : Nat) {X : mX} {g : mG} {x1 x2 : Int32} {c : mC} : mEv X (mCall mD X (d + 10)) 1 t_X6_reaches (mDrop t_X6_reaches 26) [some (mr 7 20), some (mi x1), some (mi x2), none, none] [] (mU g 7 c) = (wO (wW g 7)) (J_X6_reaches_26 c x1 x2) := by
  refine Eq.trans (e_X6_reaches_26) ?_
  try simp only [mU_same, mU_mU]
  refine mw_ite (fun h3 => ?_) (fun h3 => ?_)
  · refine Eq.trans (e_X6_reaches_31) ?_
    try simp only [mU_same, mU_mU]
    refine mw_oI ?_ (rr_X6_of (d + 9)) (fun v1 => ?_)
    · rfl
    refine Eq.trans (e_X6_reaches_40) ?_
    try simp only [mU_same, mU_mU]
    refine mw_oV ?_ (rr_X6_puts (d + 9)) (fun c2 => ?_)
    · rfl
    exact rj_X6_reaches_47 d
  · exact rj_X6_reaches_47 d
noncomputable def P_X6_reaches (c : mC) (x1 : Int32) (x2 : Int32) : (Option (Int32 × mC)) := (mBo (α := mC) none (P_X6_copies c 0 288) (fun c1 => (if x1 = 1 then (mBo (α := Int32) none (P_X6_of c1 5) (fun v2 => (if v2 = 0 then (mBo (α := mC) none (P_X6_calls c1 x2) (fun c3 => (J_X6_reaches_26 c3 x1 x2))) else (J_X6_reaches_26 c1 x1 x2)))) else (J_X6_reaches_26 c1 x1 x2))))
theorem rr_X6_reaches (d : Nat) {X : mX} {g : mG} {x1 x2 : Int32} {c : mC} : mCall mD X (d + 11) 266 [mr 7 20, mi x1, mi x2] (mU g 7 c) = (wO (wW g 7)) (P_X6_reaches c x1 x2) := by
  refine Eq.trans (mCall_eq (d := d + 10) rfl) ?_
  show mEv X (mCall mD X (d + 10)) 1 t_X6_reaches (mDrop t_X6_reaches 0) [some (mr 7 20), some (mi x1), some (mi x2), none, none] [] (mU g 7 c) = _
  refine Eq.trans (e_X6_reaches_0) ?_
  try simp only [mU_same, mU_mU]
  refine mw_oV ?_ (rr_X6_copies (d + 9)) (fun c1 => ?_)
  · rfl
  refine Eq.trans (e_X6_reaches_8) ?_
  try simp only [mU_same, mU_mU]
  refine mw_ite (fun h5 => ?_) (fun h5 => ?_)
  · refine Eq.trans (e_X6_reaches_13) ?_
    try simp only [mU_same, mU_mU]
    refine mw_oI ?_ (rr_X6_of (d + 9)) (fun v2 => ?_)
    · rfl
    refine Eq.trans (e_X6_reaches_18) ?_
    try simp only [mU_same, mU_mU]
    refine mw_ite (fun h4 => ?_) (fun h4 => ?_)
    · refine Eq.trans (e_X6_reaches_21) ?_
      try simp only [mU_same, mU_mU]
      refine mw_oV ?_ (rr_X6_calls (d + 6)) (fun c3 => ?_)
      · rfl
      exact rj_X6_reaches_26 d
    · exact rj_X6_reaches_26 d
  · exact rj_X6_reaches_26 d
theorem rr_X6_reaches_at (d : Nat) {X : mX} {g : mG} {x1 x2 : Int32} : mCall mD X (d + 11) 266 [mr 7 20, mi x1, mi x2] g = wO (wW g 7) (P_X6_reaches (g 7) x1 x2) := by
  have h := rr_X6_reaches (X := X) d (g := g) (c := g 7) (x1 := x1) (x2 := x2)
  rw [mU_self] at h
  exact h
theorem e_X6_when_0 {X : mX} {call : Nat → List mV → mG → mR} {g : mG} {x1 : Int32} : mEv X call 1 t_X6_when (mDrop t_X6_when 0) [some (mr 7 20), some (mi x1)] [] g = mAns (mEv X call 1 t_X6_when) (mDrop t_X6_when 5) [some (mr 7 20), some (mi x1)] [] (call 168 [mr 7 20, mi x1] g) := (mEv_3 _ _ _ _).trans rfl
theorem e_X6_when_5 {X : mX} {call : Nat → List mV → mG → mR} {g : mG} {x1 s0 : Int32} : mEv X call 1 t_X6_when (mDrop t_X6_when 5) [some (mr 7 20), some (mi x1)] [mi s0] g = if s0 = 0 then mEv X call 1 t_X6_when (mDrop t_X6_when 17) [some (mr 7 20), some (mi x1)] [] g else mEv X call 1 t_X6_when (mDrop t_X6_when 8) [some (mr 7 20), some (mi x1)] [] g := (mEv_1 _ _ _ _).trans rfl
theorem e_X6_when_17 {X : mX} {call : Nat → List mV → mG → mR} {g : mG} {x1 : Int32} : mEv X call 1 t_X6_when (mDrop t_X6_when 17) [some (mr 7 20), some (mi x1)] [] g = mAns (mEv X call 1 t_X6_when) (mDrop t_X6_when 22) [some (mr 7 20), some (mi x1)] [] (call 152 [mr 7 20, mi 2] g) := (mEv_3 _ _ _ _).trans rfl
theorem e_X6_when_22 {X : mX} {call : Nat → List mV → mG → mR} {g : mG} {x1 s0 : Int32} : mEv X call 1 t_X6_when (mDrop t_X6_when 22) [some (mr 7 20), some (mi x1)] [mi s0] g = some (some (mi s0), g) := (mEv_1 _ _ _ _).trans rfl
theorem e_X6_when_8 {X : mX} {call : Nat → List mV → mG → mR} {g : mG} {x1 : Int32} : mEv X call 1 t_X6_when (mDrop t_X6_when 8) [some (mr 7 20), some (mi x1)] [] g = mAns (mEv X call 1 t_X6_when) (mDrop t_X6_when 14) [some (mr 7 20), some (mi x1)] [] (call 266 [mr 7 20, mi 0, mi x1] g) := (mEv_4 _ _ _ _).trans rfl
theorem e_X6_when_14 {X : mX} {call : Nat → List mV → mG → mR} {g : mG} {x1 s0 : Int32} : mEv X call 1 t_X6_when (mDrop t_X6_when 14) [some (mr 7 20), some (mi x1)] [mi s0] g = mEv X call 1 t_X6_when (mDrop t_X6_when 22) [some (mr 7 20), some (mi x1)] [mi s0] g := (mEv_1 _ _ _ _).trans rfl
noncomputable def P_X6_when (c : mC) (x1 : Int32) : (Option (Int32 × mC)) := (mBo (α := Int32) none (P_X6_isPhase c x1) (fun v1 => (if v1 = 0 then (mBo (α := Int32 × mC) none (P_X6_refuse c 2) (fun p2 => (some (p2.1, p2.2)))) else (mBo (α := Int32 × mC) none (P_X6_reaches c 0 x1) (fun p3 => (some (p3.1, p3.2)))))))
theorem rr_X6_when (d : Nat) {X : mX} {g : mG} {x1 : Int32} {c : mC} : mCall mD X (d + 12) 267 [mr 7 20, mi x1] (mU g 7 c) = (wO (wW g 7)) (P_X6_when c x1) := by
  refine Eq.trans (mCall_eq (d := d + 11) rfl) ?_
  show mEv X (mCall mD X (d + 11)) 1 t_X6_when (mDrop t_X6_when 0) [some (mr 7 20), some (mi x1)] [] (mU g 7 c) = _
  refine Eq.trans (e_X6_when_0) ?_
  try simp only [mU_same, mU_mU]
  refine mw_oZ ?_ (rr_X6_isPhase (d + 9)) rfl (fun v1 hv1 => ?_)
  · rfl
  refine Eq.trans (e_X6_when_5) ?_
  try simp only [mU_same, mU_mU]
  refine mw_ite (fun h4 => ?_) (fun h4 => ?_)
  · refine Eq.trans (e_X6_when_17) ?_
    try simp only [mU_same, mU_mU]
    refine mw_oW ?_ (rr_X6_refuse (d + 10)) (fun p2 => ?_)
    · rfl
    refine Eq.trans (e_X6_when_22) ?_
    try simp only [mU_same, mU_mU]
    all_goals rfl
  · refine Eq.trans (e_X6_when_8) ?_
    try simp only [mU_same, mU_mU]
    refine mw_oW ?_ (rr_X6_reaches d) (fun p3 => ?_)
    · rfl
    refine Eq.trans (e_X6_when_14) ?_
    try simp only [mU_same, mU_mU]
    refine Eq.trans (e_X6_when_22) ?_
    try simp only [mU_same, mU_mU]
    all_goals rfl
theorem rr_X6_when_at (d : Nat) {X : mX} {g : mG} {x1 : Int32} : mCall mD X (d + 12) 267 [mr 7 20, mi x1] g = wO (wW g 7) (P_X6_when (g 7) x1) := by
  have h := rr_X6_when (X := X) d (g := g) (c := g 7) (x1 := x1)
  rw [mU_self] at h
  exact h
theorem e_X6_worst_0 {X : mX} {call : Nat → List mV → mG → mR} {g : mG} {x1 : Int32} : mEv X call 1 t_X6_worst (mDrop t_X6_worst 0) [some (mr 7 20), some (mi x1)] [] g = mAns (mEv X call 1 t_X6_worst) (mDrop t_X6_worst 5) [some (mr 7 20), some (mi x1)] [] (call 168 [mr 7 20, mi x1] g) := (mEv_3 _ _ _ _).trans rfl
theorem e_X6_worst_5 {X : mX} {call : Nat → List mV → mG → mR} {g : mG} {x1 s0 : Int32} : mEv X call 1 t_X6_worst (mDrop t_X6_worst 5) [some (mr 7 20), some (mi x1)] [mi s0] g = if s0 = 0 then mEv X call 1 t_X6_worst (mDrop t_X6_worst 17) [some (mr 7 20), some (mi x1)] [] g else mEv X call 1 t_X6_worst (mDrop t_X6_worst 8) [some (mr 7 20), some (mi x1)] [] g := (mEv_1 _ _ _ _).trans rfl
theorem e_X6_worst_17 {X : mX} {call : Nat → List mV → mG → mR} {g : mG} {x1 : Int32} : mEv X call 1 t_X6_worst (mDrop t_X6_worst 17) [some (mr 7 20), some (mi x1)] [] g = mAns (mEv X call 1 t_X6_worst) (mDrop t_X6_worst 22) [some (mr 7 20), some (mi x1)] [] (call 152 [mr 7 20, mi 2] g) := (mEv_3 _ _ _ _).trans rfl
theorem e_X6_worst_22 {X : mX} {call : Nat → List mV → mG → mR} {g : mG} {x1 s0 : Int32} : mEv X call 1 t_X6_worst (mDrop t_X6_worst 22) [some (mr 7 20), some (mi x1)] [mi s0] g = some (some (mi s0), g) := (mEv_1 _ _ _ _).trans rfl
theorem e_X6_worst_8 {X : mX} {call : Nat → List mV → mG → mR} {g : mG} {x1 : Int32} : mEv X call 1 t_X6_worst (mDrop t_X6_worst 8) [some (mr 7 20), some (mi x1)] [] g = mAns (mEv X call 1 t_X6_worst) (mDrop t_X6_worst 14) [some (mr 7 20), some (mi x1)] [] (call 266 [mr 7 20, mi 1, mi x1] g) := (mEv_4 _ _ _ _).trans rfl
theorem e_X6_worst_14 {X : mX} {call : Nat → List mV → mG → mR} {g : mG} {x1 s0 : Int32} : mEv X call 1 t_X6_worst (mDrop t_X6_worst 14) [some (mr 7 20), some (mi x1)] [mi s0] g = mEv X call 1 t_X6_worst (mDrop t_X6_worst 22) [some (mr 7 20), some (mi x1)] [mi s0] g := (mEv_1 _ _ _ _).trans rfl
noncomputable def P_X6_worst (c : mC) (x1 : Int32) : (Option (Int32 × mC)) := (mBo (α := Int32) none (P_X6_isPhase c x1) (fun v1 => (if v1 = 0 then (mBo (α := Int32 × mC) none (P_X6_refuse c 2) (fun p2 => (some (p2.1, p2.2)))) else (mBo (α := Int32 × mC) none (P_X6_reaches c 1 x1) (fun p3 => (some (p3.1, p3.2)))))))
theorem rr_X6_worst (d : Nat) {X : mX} {g : mG} {x1 : Int32} {c : mC} : mCall mD X (d + 12) 268 [mr 7 20, mi x1] (mU g 7 c) = (wO (wW g 7)) (P_X6_worst c x1) := by
  refine Eq.trans (mCall_eq (d := d + 11) rfl) ?_
  show mEv X (mCall mD X (d + 11)) 1 t_X6_worst (mDrop t_X6_worst 0) [some (mr 7 20), some (mi x1)] [] (mU g 7 c) = _
  refine Eq.trans (e_X6_worst_0) ?_
  try simp only [mU_same, mU_mU]
  refine mw_oZ ?_ (rr_X6_isPhase (d + 9)) rfl (fun v1 hv1 => ?_)
  · rfl
  refine Eq.trans (e_X6_worst_5) ?_
  try simp only [mU_same, mU_mU]
  refine mw_ite (fun h4 => ?_) (fun h4 => ?_)
  · refine Eq.trans (e_X6_worst_17) ?_
    try simp only [mU_same, mU_mU]
    refine mw_oW ?_ (rr_X6_refuse (d + 10)) (fun p2 => ?_)
    · rfl
    refine Eq.trans (e_X6_worst_22) ?_
    try simp only [mU_same, mU_mU]
    all_goals rfl
  · refine Eq.trans (e_X6_worst_8) ?_
    try simp only [mU_same, mU_mU]
    refine mw_oW ?_ (rr_X6_reaches d) (fun p3 => ?_)
    · rfl
    refine Eq.trans (e_X6_worst_14) ?_
    try simp only [mU_same, mU_mU]
    refine Eq.trans (e_X6_worst_22) ?_
    try simp only [mU_same, mU_mU]
    all_goals rfl
theorem rr_X6_worst_at (d : Nat) {X : mX} {g : mG} {x1 : Int32} : mCall mD X (d + 12) 268 [mr 7 20, mi x1] g = wO (wW g 7) (P_X6_worst (g 7) x1) := by
  have h := rr_X6_worst (X := X) d (g := g) (c := g 7) (x1 := x1)
  rw [mU_self] at h
  exact h
theorem e_X6_cleared_0 {X : mX} {call : Nat → List mV → mG → mR} {g : mG} : mEv X call 1 t_X6_cleared (mDrop t_X6_cleared 0) [some (mr 7 20)] [] g = mAns (mEv X call 1 t_X6_cleared) (mDrop t_X6_cleared 6) [some (mr 7 20)] [] (call 266 [mr 7 20, mi 2, mi (-1)] g) := (mEv_4 _ _ _ _).trans rfl
theorem e_X6_cleared_6 {X : mX} {call : Nat → List mV → mG → mR} {g : mG} {s0 : Int32} : mEv X call 1 t_X6_cleared (mDrop t_X6_cleared 6) [some (mr 7 20)] [mi s0] g = some (some (mi s0), g) := (mEv_1 _ _ _ _).trans rfl
noncomputable def P_X6_cleared (c : mC) : (Option (Int32 × mC)) := (mBo (α := Int32 × mC) none (P_X6_reaches c 2 (-1)) (fun p1 => (some (p1.1, p1.2))))
theorem rr_X6_cleared (d : Nat) {X : mX} {g : mG} {c : mC} : mCall mD X (d + 12) 269 [mr 7 20] (mU g 7 c) = (wO (wW g 7)) (P_X6_cleared c) := by
  refine Eq.trans (mCall_eq (d := d + 11) rfl) ?_
  show mEv X (mCall mD X (d + 11)) 1 t_X6_cleared (mDrop t_X6_cleared 0) [some (mr 7 20)] [] (mU g 7 c) = _
  refine Eq.trans (e_X6_cleared_0) ?_
  try simp only [mU_same, mU_mU]
  refine mw_oW ?_ (rr_X6_reaches d) (fun p1 => ?_)
  · rfl
  refine Eq.trans (e_X6_cleared_6) ?_
  try simp only [mU_same, mU_mU]
  all_goals rfl
theorem rr_X6_cleared_at (d : Nat) {X : mX} {g : mG} : mCall mD X (d + 12) 269 [mr 7 20] g = wO (wW g 7) (P_X6_cleared (g 7)) := by
  have h := rr_X6_cleared (X := X) d (g := g) (c := g 7)
  rw [mU_self] at h
  exact h
theorem e_X6_instep_0 {X : mX} {call : Nat → List mV → mG → mR} {g : mG} : mEv X call 1 t_X6_instep (mDrop t_X6_instep 0) [some (mr 7 20)] [] g = mAns (mEv X call 1 t_X6_instep) (mDrop t_X6_instep 5) [some (mr 7 20)] [] (call 158 [mr 7 20, mi 2] g) := (mEv_3 _ _ _ _).trans rfl
theorem e_X6_instep_5 {X : mX} {call : Nat → List mV → mG → mR} {g : mG} {s0 : Int32} : mEv X call 1 t_X6_instep (mDrop t_X6_instep 5) [some (mr 7 20)] [mi s0] g = if s0 = 0 then mEv X call 1 t_X6_instep (mDrop t_X6_instep 8) [some (mr 7 20)] [] g else mEv X call 1 t_X6_instep (mDrop t_X6_instep 16) [some (mr 7 20)] [] g := (mEv_1 _ _ _ _).trans rfl
theorem e_X6_instep_8 {X : mX} {call : Nat → List mV → mG → mR} {g : mG} : mEv X call 1 t_X6_instep (mDrop t_X6_instep 8) [some (mr 7 20)] [] g = mAns (mEv X call 1 t_X6_instep) (mDrop t_X6_instep 13) [some (mr 7 20)] [] (call 152 [mr 7 20, mi 5] g) := (mEv_3 _ _ _ _).trans rfl
theorem e_X6_instep_13 {X : mX} {call : Nat → List mV → mG → mR} {g : mG} {s0 : Int32} : mEv X call 1 t_X6_instep (mDrop t_X6_instep 13) [some (mr 7 20)] [mi s0] g = mEv X call 1 t_X6_instep (mDrop t_X6_instep 22) [some (mr 7 20)] [mi s0] g := (mEv_1 _ _ _ _).trans rfl
theorem e_X6_instep_22 {X : mX} {call : Nat → List mV → mG → mR} {g : mG} {s0 : Int32} : mEv X call 1 t_X6_instep (mDrop t_X6_instep 22) [some (mr 7 20)] [mi s0] g = some (some (mi s0), g) := (mEv_1 _ _ _ _).trans rfl
theorem e_X6_instep_16 {X : mX} {call : Nat → List mV → mG → mR} {g : mG} : mEv X call 1 t_X6_instep (mDrop t_X6_instep 16) [some (mr 7 20)] [] g = mAns (mEv X call 1 t_X6_instep) (mDrop t_X6_instep 22) [some (mr 7 20)] [] (call 266 [mr 7 20, mi 3, mi (-1)] g) := (mEv_4 _ _ _ _).trans rfl
noncomputable def P_X6_instep (c : mC) : (Option (Int32 × mC)) := (mBo (α := Int32) none (P_X6_of c 2) (fun v1 => (if v1 = 0 then (mBo (α := Int32 × mC) none (P_X6_refuse c 5) (fun p2 => (some (p2.1, p2.2)))) else (mBo (α := Int32 × mC) none (P_X6_reaches c 3 (-1)) (fun p3 => (some (p3.1, p3.2)))))))
theorem rr_X6_instep (d : Nat) {X : mX} {g : mG} {c : mC} : mCall mD X (d + 12) 270 [mr 7 20] (mU g 7 c) = (wO (wW g 7)) (P_X6_instep c) := by
  refine Eq.trans (mCall_eq (d := d + 11) rfl) ?_
  show mEv X (mCall mD X (d + 11)) 1 t_X6_instep (mDrop t_X6_instep 0) [some (mr 7 20)] [] (mU g 7 c) = _
  refine Eq.trans (e_X6_instep_0) ?_
  try simp only [mU_same, mU_mU]
  refine mw_oI ?_ (rr_X6_of (d + 10)) (fun v1 => ?_)
  · rfl
  refine Eq.trans (e_X6_instep_5) ?_
  try simp only [mU_same, mU_mU]
  refine mw_ite (fun h4 => ?_) (fun h4 => ?_)
  · refine Eq.trans (e_X6_instep_8) ?_
    try simp only [mU_same, mU_mU]
    refine mw_oW ?_ (rr_X6_refuse (d + 10)) (fun p2 => ?_)
    · rfl
    refine Eq.trans (e_X6_instep_13) ?_
    try simp only [mU_same, mU_mU]
    refine Eq.trans (e_X6_instep_22) ?_
    try simp only [mU_same, mU_mU]
    all_goals rfl
  · refine Eq.trans (e_X6_instep_16) ?_
    try simp only [mU_same, mU_mU]
    refine mw_oW ?_ (rr_X6_reaches d) (fun p3 => ?_)
    · rfl
    refine Eq.trans (e_X6_instep_22) ?_
    try simp only [mU_same, mU_mU]
    all_goals rfl
theorem rr_X6_instep_at (d : Nat) {X : mX} {g : mG} : mCall mD X (d + 12) 270 [mr 7 20] g = wO (wW g 7) (P_X6_instep (g 7)) := by
  have h := rr_X6_instep (X := X) d (g := g) (c := g 7)
  rw [mU_self] at h
  exact h
theorem e_X6_broken_0 {X : mX} {call : Nat → List mV → mG → mR} {g : mG} {x1 : Int32} : mEv X call 1 t_X6_broken (mDrop t_X6_broken 0) [some (mr 7 20), some (mi x1)] [] g = mAns (mEv X call 1 t_X6_broken) (mDrop t_X6_broken 6) [some (mr 7 20), some (mi x1)] [] (call 155 [mi x1, mi 0, mi 1] g) := (mEv_4 _ _ _ _).trans rfl
theorem e_X6_broken_6 {X : mX} {call : Nat → List mV → mG → mR} {g : mG} {x1 s0 : Int32} : mEv X call 1 t_X6_broken (mDrop t_X6_broken 6) [some (mr 7 20), some (mi x1)] [mi s0] g = if s0 = 0 then mEv X call 1 t_X6_broken (mDrop t_X6_broken 18) [some (mr 7 20), some (mi x1)] [] g else mEv X call 1 t_X6_broken (mDrop t_X6_broken 9) [some (mr 7 20), some (mi x1)] [] g := (mEv_1 _ _ _ _).trans rfl
theorem e_X6_broken_18 {X : mX} {call : Nat → List mV → mG → mR} {g : mG} {x1 : Int32} : mEv X call 1 t_X6_broken (mDrop t_X6_broken 18) [some (mr 7 20), some (mi x1)] [] g = mAns (mEv X call 1 t_X6_broken) (mDrop t_X6_broken 23) [some (mr 7 20), some (mi x1)] [] (call 152 [mr 7 20, mi 2] g) := (mEv_3 _ _ _ _).trans rfl
theorem e_X6_broken_23 {X : mX} {call : Nat → List mV → mG → mR} {g : mG} {x1 s0 : Int32} : mEv X call 1 t_X6_broken (mDrop t_X6_broken 23) [some (mr 7 20), some (mi x1)] [mi s0] g = some (some (mi s0), g) := (mEv_1 _ _ _ _).trans rfl
theorem e_X6_broken_9 {X : mX} {call : Nat → List mV → mG → mR} {g : mG} {x1 : Int32} : mEv X call 1 t_X6_broken (mDrop t_X6_broken 9) [some (mr 7 20), some (mi x1)] [] g = mAns (mEv X call 1 t_X6_broken) (mDrop t_X6_broken 15) [some (mr 7 20), some (mi x1)] [] (call 266 [mr 7 20, mi 4, mi x1] g) := (mEv_4 _ _ _ _).trans rfl
theorem e_X6_broken_15 {X : mX} {call : Nat → List mV → mG → mR} {g : mG} {x1 s0 : Int32} : mEv X call 1 t_X6_broken (mDrop t_X6_broken 15) [some (mr 7 20), some (mi x1)] [mi s0] g = mEv X call 1 t_X6_broken (mDrop t_X6_broken 23) [some (mr 7 20), some (mi x1)] [mi s0] g := (mEv_1 _ _ _ _).trans rfl
noncomputable def P_X6_broken (c : mC) (x1 : Int32) : (Option (Int32 × mC)) := (mBd (α := Int32) (P_X6_isFrom x1 0 1) (fun v1 => (if v1 = 0 then (mBo (α := Int32 × mC) none (P_X6_refuse c 2) (fun p2 => (some (p2.1, p2.2)))) else (mBo (α := Int32 × mC) none (P_X6_reaches c 4 x1) (fun p3 => (some (p3.1, p3.2)))))))
theorem rr_X6_broken (d : Nat) {X : mX} {g : mG} {x1 : Int32} {c : mC} : mCall mD X (d + 12) 271 [mr 7 20, mi x1] (mU g 7 c) = (wO (wW g 7)) (P_X6_broken c x1) := by
  refine Eq.trans (mCall_eq (d := d + 11) rfl) ?_
  show mEv X (mCall mD X (d + 11)) 1 t_X6_broken (mDrop t_X6_broken 0) [some (mr 7 20), some (mi x1)] [] (mU g 7 c) = _
  refine Eq.trans (e_X6_broken_0) ?_
  try simp only [mU_same, mU_mU]
  refine mw_cZ (rr_X6_isFrom (d + 10)) rfl (fun v1 hv1 => ?_)
  refine Eq.trans (e_X6_broken_6) ?_
  try simp only [mU_same, mU_mU]
  refine mw_ite (fun h4 => ?_) (fun h4 => ?_)
  · refine Eq.trans (e_X6_broken_18) ?_
    try simp only [mU_same, mU_mU]
    refine mw_oW ?_ (rr_X6_refuse (d + 10)) (fun p2 => ?_)
    · rfl
    refine Eq.trans (e_X6_broken_23) ?_
    try simp only [mU_same, mU_mU]
    all_goals rfl
  · refine Eq.trans (e_X6_broken_9) ?_
    try simp only [mU_same, mU_mU]
    refine mw_oW ?_ (rr_X6_reaches d) (fun p3 => ?_)
    · rfl
    refine Eq.trans (e_X6_broken_15) ?_
    try simp only [mU_same, mU_mU]
    refine Eq.trans (e_X6_broken_23) ?_
    try simp only [mU_same, mU_mU]
    all_goals rfl
theorem rr_X6_broken_at (d : Nat) {X : mX} {g : mG} {x1 : Int32} : mCall mD X (d + 12) 271 [mr 7 20, mi x1] g = wO (wW g 7) (P_X6_broken (g 7) x1) := by
  have h := rr_X6_broken (X := X) d (g := g) (c := g 7) (x1 := x1)
  rw [mU_self] at h
  exact h
theorem e_X6_waitsIn_0 {X : mX} {call : Nat → List mV → mG → mR} {g : mG} {x1 : Int32} : mEv X call 1 t_X6_waitsIn (mDrop t_X6_waitsIn 0) [some (mr 7 20), some (mi x1), none, none] [] g = mAns (mEv X call 1 t_X6_waitsIn) (mDrop t_X6_waitsIn 6) [some (mr 7 20), some (mi x1), none, none] [] (call 158 [mr 7 20, mi 11] g) := (mEv_3 _ _ _ _).trans rfl
theorem e_X6_waitsIn_6 {X : mX} {call : Nat → List mV → mG → mR} {g : mG} {x1 s0 : Int32} : mEv X call 1 t_X6_waitsIn (mDrop t_X6_waitsIn 6) [some (mr 7 20), some (mi x1), none, none] [mi s0] g = mEv X call 1 t_X6_waitsIn (mDrop t_X6_waitsIn 12) [some (mr 7 20), some (mi x1), some (mi s0), none] [] (mU g 7 (mP (g 7) 20 4 0)) := (mEv_4 _ _ _ _).trans rfl
theorem e_X6_waitsIn_12 {X : mX} {call : Nat → List mV → mG → mR} {g : mG} {x1 x2 : Int32} : mEv X call 1 t_X6_waitsIn (mDrop t_X6_waitsIn 12) [some (mr 7 20), some (mi x1), some (mi x2), none] [] g = mEv X call 1 t_X6_waitsIn (mDrop t_X6_waitsIn 14) [some (mr 7 20), some (mi x1), some (mi x2), some (mi 0)] [] g := (mEv_2 _ _ _ _).trans rfl
theorem e_X6_waitsIn_14 {X : mX} {call : Nat → List mV → mG → mR} {g : mG} {x1 x2 x3 : Int32} : mEv X call 1 t_X6_waitsIn (mDrop t_X6_waitsIn 14) [some (mr 7 20), some (mi x1), some (mi x2), some (mi x3)] [] g = if x1 ≤ x3 then mEv X call 1 t_X6_waitsIn (mDrop t_X6_waitsIn 30) [some (mr 7 20), some (mi x1), some (mi x2), some (mi x3)] [] g else mEv X call 1 t_X6_waitsIn (mDrop t_X6_waitsIn 19) [some (mr 7 20), some (mi x1), some (mi x2), some (mi x3)] [] g := (mEv_3 _ _ _ _).trans rfl
theorem e_X6_waitsIn_30 {X : mX} {call : Nat → List mV → mG → mR} {g : mG} {x1 x2 x3 : Int32} : mEv X call 1 t_X6_waitsIn (mDrop t_X6_waitsIn 30) [some (mr 7 20), some (mi x1), some (mi x2), some (mi x3)] [] g = mAns (mEv X call 1 t_X6_waitsIn) (mDrop t_X6_waitsIn 36) [some (mr 7 20), some (mi x1), some (mi x2), some (mi x3)] [] (call 158 [mr 7 20, mi 11] g) := (mEv_3 _ _ _ _).trans rfl
theorem e_X6_waitsIn_36 {X : mX} {call : Nat → List mV → mG → mR} {g : mG} {x1 x2 x3 s0 : Int32} : mEv X call 1 t_X6_waitsIn (mDrop t_X6_waitsIn 36) [some (mr 7 20), some (mi x1), some (mi x2), some (mi x3)] [mi s0] g = mAns (mEv X call 1 t_X6_waitsIn) (mDrop t_X6_waitsIn 47) [some (mr 7 20), some (mi x1), some (mi x2), some (mi (s0 - x2))] [] (call 161 [mr 7 20, mi 288, mi 0] g) := (mEv_7 _ _ _ _).trans rfl
theorem e_X6_waitsIn_47 {X : mX} {call : Nat → List mV → mG → mR} {g : mG} {x1 x2 x3 : Int32} : mEv X call 1 t_X6_waitsIn (mDrop t_X6_waitsIn 47) [some (mr 7 20), some (mi x1), some (mi x2), some (mi x3)] [] g = some (some (mi x3), g) := (mEv_2 _ _ _ _).trans rfl
theorem e_X6_waitsIn_19 {X : mX} {call : Nat → List mV → mG → mR} {g : mG} {x1 x2 x3 : Int32} : mEv X call 1 t_X6_waitsIn (mDrop t_X6_waitsIn 19) [some (mr 7 20), some (mi x1), some (mi x2), some (mi x3)] [] g = mAns (mEv X call 1 t_X6_waitsIn) (mDrop t_X6_waitsIn 24) [some (mr 7 20), some (mi x1), some (mi x2), some (mi x3)] [] (call 201 [mr 7 20, mi 0] g) := (mEv_3 _ _ _ _).trans rfl
theorem e_X6_waitsIn_24 {X : mX} {call : Nat → List mV → mG → mR} {g : mG} {x1 x2 x3 : Int32} : mEv X call 1 t_X6_waitsIn (mDrop t_X6_waitsIn 24) [some (mr 7 20), some (mi x1), some (mi x2), some (mi x3)] [] g = mEv X call 1 t_X6_waitsIn (mDrop t_X6_waitsIn 14) [some (mr 7 20), some (mi x1), some (mi x2), some (mi (x3 + 1))] [] g := (mEv_2 _ _ _ _).trans rfl
noncomputable def B_X6_waitsIn_14 (x1 : Int32) (x2 : Int32) : (Int32 × mC) → (Int32 × mC) ⊕ (Option (Int32 × mC)) := fun s => match s with | (x3, c) => (if x1 ≤ x3 then (.inr (mBo (α := Int32) none (P_X6_of c 11) (fun v1 => (mBo (α := mC) none (P_X6_copies c 288 0) (fun c2 => (some ((v1 - x2), c2))))))) else (mBo (α := mC) (.inr none) (P_X6_ticks c 0) (fun c3 => (.inl ((x3 + 1), c3)))))
set_option maxRecDepth 100000 in
theorem tm_X6_waitsIn_14 {x1 : Int32} {x2 : Int32} : mTm (B_X6_waitsIn_14 x1 x2) := by
  refine ⟨fun s => match s with | (x3, c) => mMx x3, fun s s2 h => ?_⟩
  obtain ⟨x3, c⟩ := s
  simp only [B_X6_waitsIn_14, mBd, mBo] at h
  (repeat' split at h) <;> first | (have h2 := Sum.inl.inj h; subst h2; dsimp only; first | exact mtm_max (by assumption) | exact mtm_lt (by assumption)) | (cases h; done)
theorem rl_X6_waitsIn_14 (d : Nat) {X : mX} {g : mG} {x1 x2 x3 : Int32} {c : mC} : mEv X (mCall mD X (d + 10)) 1 t_X6_waitsIn (mDrop t_X6_waitsIn 14) [some (mr 7 20), some (mi x1), some (mi x2), some (mi x3)] [] (mU g 7 c) = (wO (wW g 7)) (mWh none (B_X6_waitsIn_14 x1 x2) (x3, c)) := by
  refine mWh_ev (B := (B_X6_waitsIn_14 x1 x2)) (ev := fun s : (Int32 × mC) => match s with | (x3, c) => mEv X (mCall mD X (d + 10)) 1 t_X6_waitsIn (mDrop t_X6_waitsIn 14) [some (mr 7 20), some (mi x1), some (mi x2), some (mi x3)] [] (mU g 7 c)) (w := (wO (wW g 7))) (tm_X6_waitsIn_14) ?_ (x3, c)
  rintro ⟨x3, c⟩
  show mEv X (mCall mD X (d + 10)) 1 t_X6_waitsIn (mDrop t_X6_waitsIn 14) [some (mr 7 20), some (mi x1), some (mi x2), some (mi x3)] [] (mU g 7 c) = wB (fun s : (Int32 × mC) => match s with | (x3, c) => mEv X (mCall mD X (d + 10)) 1 t_X6_waitsIn (mDrop t_X6_waitsIn 14) [some (mr 7 20), some (mi x1), some (mi x2), some (mi x3)] [] (mU g 7 c)) (wO (wW g 7)) (B_X6_waitsIn_14 x1 x2 (x3, c))
  refine Eq.trans (e_X6_waitsIn_14) ?_
  try simp only [mU_same, mU_mU]
  refine mw_ite (fun h4 => ?_) (fun h4 => ?_)
  · refine mw_inr ?_
    refine Eq.trans (e_X6_waitsIn_30) ?_
    try simp only [mU_same, mU_mU]
    refine mw_oI ?_ (rr_X6_of (d + 9)) (fun v1 => ?_)
    · rfl
    refine Eq.trans (e_X6_waitsIn_36) ?_
    try simp only [mU_same, mU_mU]
    refine mw_oV ?_ (rr_X6_copies (d + 9)) (fun c2 => ?_)
    · rfl
    refine Eq.trans (e_X6_waitsIn_47) ?_
    try simp only [mU_same, mU_mU]
    all_goals rfl
  · refine Eq.trans (e_X6_waitsIn_19) ?_
    try simp only [mU_same, mU_mU]
    refine mw_oV ?_ (rr_X6_ticks d) (fun c3 => ?_)
    · rfl
    refine Eq.trans (e_X6_waitsIn_24) ?_
    try simp only [mU_same, mU_mU]
    exact mw_inl rfl
noncomputable def P_X6_waitsIn (c : mC) (x1 : Int32) : (Option (Int32 × mC)) := (mBo (α := Int32) none (P_X6_of c 11) (fun v1 => (mWh none (B_X6_waitsIn_14 x1 v1) (0, (mP c 20 4 0)))))
theorem rr_X6_waitsIn (d : Nat) {X : mX} {g : mG} {x1 : Int32} {c : mC} : mCall mD X (d + 11) 272 [mr 7 20, mi x1] (mU g 7 c) = (wO (wW g 7)) (P_X6_waitsIn c x1) := by
  refine Eq.trans (mCall_eq (d := d + 10) rfl) ?_
  show mEv X (mCall mD X (d + 10)) 1 t_X6_waitsIn (mDrop t_X6_waitsIn 0) [some (mr 7 20), some (mi x1), none, none] [] (mU g 7 c) = _
  refine Eq.trans (e_X6_waitsIn_0) ?_
  try simp only [mU_same, mU_mU]
  refine mw_oI ?_ (rr_X6_of (d + 9)) (fun v1 => ?_)
  · rfl
  refine Eq.trans (e_X6_waitsIn_6) ?_
  try simp only [mU_same, mU_mU]
  refine Eq.trans (e_X6_waitsIn_12) ?_
  try simp only [mU_same, mU_mU]
  exact rl_X6_waitsIn_14 d
theorem rr_X6_waitsIn_at (d : Nat) {X : mX} {g : mG} {x1 : Int32} : mCall mD X (d + 11) 272 [mr 7 20, mi x1] g = wO (wW g 7) (P_X6_waitsIn (g 7) x1) := by
  have h := rr_X6_waitsIn (X := X) d (g := g) (c := g 7) (x1 := x1)
  rw [mU_self] at h
  exact h
theorem e_X6_paper_0 {X : mX} {call : Nat → List mV → mG → mR} {g : mG} {x1 x2 : Int32} : mEv X call 1 t_X6_paper (mDrop t_X6_paper 0) [some (mr 7 20), some (mi x1), some (mi x2), none] [] g = mAns (mEv X call 1 t_X6_paper) (mDrop t_X6_paper 8) [some (mr 7 20), some (mi x1), some (mi x2), none] [] (call 155 [mi x1, mi 1, mi 300] g) := (mEv_4 _ _ _ _).trans rfl
theorem e_X6_paper_8 {X : mX} {call : Nat → List mV → mG → mR} {g : mG} {x1 x2 s0 : Int32} : mEv X call 1 t_X6_paper (mDrop t_X6_paper 8) [some (mr 7 20), some (mi x1), some (mi x2), none] [mi s0] g = if s0 = 0 then mEv X call 1 t_X6_paper (mDrop t_X6_paper 20) [some (mr 7 20), some (mi x1), some (mi x2), none] [] g else mEv X call 1 t_X6_paper (mDrop t_X6_paper 11) [some (mr 7 20), some (mi x1), some (mi x2), none] [] g := (mEv_1 _ _ _ _).trans rfl
theorem e_X6_paper_20 {X : mX} {call : Nat → List mV → mG → mR} {g : mG} {x1 x2 : Int32} : mEv X call 1 t_X6_paper (mDrop t_X6_paper 20) [some (mr 7 20), some (mi x1), some (mi x2), none] [] g = mAns (mEv X call 1 t_X6_paper) (mDrop t_X6_paper 25) [some (mr 7 20), some (mi x1), some (mi x2), none] [] (call 152 [mr 7 20, mi 1] g) := (mEv_3 _ _ _ _).trans rfl
theorem e_X6_paper_25 {X : mX} {call : Nat → List mV → mG → mR} {g : mG} {x1 x2 s0 : Int32} : mEv X call 1 t_X6_paper (mDrop t_X6_paper 25) [some (mr 7 20), some (mi x1), some (mi x2), none] [mi s0] g = some (some (mi s0), g) := (mEv_1 _ _ _ _).trans rfl
noncomputable def J_X6_paper_20 (c : mC) : (Option (Int32 × mC)) := (mBo (α := Int32 × mC) none (P_X6_refuse c 1) (fun p1 => (some (p1.1, p1.2))))
theorem rj_X6_paper_20 (d : Nat) {X : mX} {g : mG} {x1 x2 : Int32} {c : mC} : mEv X (mCall mD X (d + 11)) 1 t_X6_paper (mDrop t_X6_paper 20) [some (mr 7 20), some (mi x1), some (mi x2), none] [] (mU g 7 c) = (wO (wW g 7)) (J_X6_paper_20 c) := by
  refine Eq.trans (e_X6_paper_20) ?_
  try simp only [mU_same, mU_mU]
  refine mw_oW ?_ (rr_X6_refuse (d + 10)) (fun p1 => ?_)
  · rfl
  refine Eq.trans (e_X6_paper_25) ?_
  try simp only [mU_same, mU_mU]
  all_goals rfl
theorem e_X6_paper_11 {X : mX} {call : Nat → List mV → mG → mR} {g : mG} {x1 x2 : Int32} : mEv X call 1 t_X6_paper (mDrop t_X6_paper 11) [some (mr 7 20), some (mi x1), some (mi x2), none] [] g = mAns (mEv X call 1 t_X6_paper) (mDrop t_X6_paper 17) [some (mr 7 20), some (mi x1), some (mi x2), none] [] (call 155 [mi x2, mi 0, mi 1] g) := (mEv_4 _ _ _ _).trans rfl
theorem e_X6_paper_17 {X : mX} {call : Nat → List mV → mG → mR} {g : mG} {x1 x2 s0 : Int32} : mEv X call 1 t_X6_paper (mDrop t_X6_paper 17) [some (mr 7 20), some (mi x1), some (mi x2), none] [mi s0] g = if s0 = 0 then mEv X call 1 t_X6_paper (mDrop t_X6_paper 20) [some (mr 7 20), some (mi x1), some (mi x2), none] [] g else mEv X call 1 t_X6_paper (mDrop t_X6_paper 26) [some (mr 7 20), some (mi x1), some (mi x2), none] [] g := (mEv_1 _ _ _ _).trans rfl
theorem e_X6_paper_26 {X : mX} {call : Nat → List mV → mG → mR} {g : mG} {x1 x2 : Int32} : mEv X call 1 t_X6_paper (mDrop t_X6_paper 26) [some (mr 7 20), some (mi x1), some (mi x2), none] [] g = mAns (mEv X call 1 t_X6_paper) (mDrop t_X6_paper 34) [some (mr 7 20), some (mi x1), some (mi x2), none] [] (call 161 [mr 7 20, mi 0, mi 288] g) := (mEv_4 _ _ _ _).trans rfl
theorem e_X6_paper_34 {X : mX} {call : Nat → List mV → mG → mR} {g : mG} {x1 x2 : Int32} : mEv X call 1 t_X6_paper (mDrop t_X6_paper 34) [some (mr 7 20), some (mi x1), some (mi x2), none] [] g = mAns (mEv X call 1 t_X6_paper) (mDrop t_X6_paper 39) [some (mr 7 20), some (mi x1), some (mi x2), none] [] (call 272 [mr 7 20, mi x1] g) := (mEv_3 _ _ _ _).trans rfl
theorem e_X6_paper_39 {X : mX} {call : Nat → List mV → mG → mR} {g : mG} {x1 x2 s0 : Int32} : mEv X call 1 t_X6_paper (mDrop t_X6_paper 39) [some (mr 7 20), some (mi x1), some (mi x2), none] [mi s0] g = if x2 = 0 then mEv X call 1 t_X6_paper (mDrop t_X6_paper 45) [some (mr 7 20), some (mi x1), some (mi x2), some (mi s0)] [mr 7 20] g else mEv X call 1 t_X6_paper (mDrop t_X6_paper 52) [some (mr 7 20), some (mi x1), some (mi x2), some (mi s0)] [mr 7 20] g := (mEv_4 _ _ _ _).trans rfl
theorem e_X6_paper_45 {X : mX} {call : Nat → List mV → mG → mR} {g : mG} {x1 x2 x3 : Int32} : mEv X call 1 t_X6_paper (mDrop t_X6_paper 45) [some (mr 7 20), some (mi x1), some (mi x2), some (mi x3)] [mr 7 20] g = mEv X call 1 t_X6_paper (mDrop t_X6_paper 53) [some (mr 7 20), some (mi x1), some (mi x2), some (mi x3)] [mi (g 7 20 4), mr 7 20] g := (mEv_3 _ _ _ _).trans rfl
theorem e_X6_paper_53 {X : mX} {call : Nat → List mV → mG → mR} {g : mG} {x1 x2 x3 s1 : Int32} : mEv X call 1 t_X6_paper (mDrop t_X6_paper 53) [some (mr 7 20), some (mi x1), some (mi x2), some (mi x3)] [mi s1, mr 7 20] g = mAns (mEv X call 1 t_X6_paper) (mDrop t_X6_paper 56) [some (mr 7 20), some (mi x1), some (mi x2), some (mi x3)] [] (call 154 [mr 7 20, mi s1] g) := (mEv_1 _ _ _ _).trans rfl
theorem e_X6_paper_56 {X : mX} {call : Nat → List mV → mG → mR} {g : mG} {x1 x2 x3 s0 : Int32} : mEv X call 1 t_X6_paper (mDrop t_X6_paper 56) [some (mr 7 20), some (mi x1), some (mi x2), some (mi x3)] [mi s0] g = some (some (mi s0), g) := (mEv_1 _ _ _ _).trans rfl
noncomputable def J_X6_paper_53 (c : mC) (s1 : Int32) : (Option (Int32 × mC)) := (mBo (α := Int32 × mC) none (P_X6_gives c s1) (fun p1 => (some (p1.1, p1.2))))
theorem rj_X6_paper_53 (d : Nat) {X : mX} {g : mG} {x1 x2 x3 s1 : Int32} {c : mC} : mEv X (mCall mD X (d + 11)) 1 t_X6_paper (mDrop t_X6_paper 53) [some (mr 7 20), some (mi x1), some (mi x2), some (mi x3)] [mi s1, mr 7 20] (mU g 7 c) = (wO (wW g 7)) (J_X6_paper_53 c s1) := by
  refine Eq.trans (e_X6_paper_53) ?_
  try simp only [mU_same, mU_mU]
  refine mw_oW ?_ (rr_X6_gives (d + 10)) (fun p1 => ?_)
  · rfl
  refine Eq.trans (e_X6_paper_56) ?_
  try simp only [mU_same, mU_mU]
  all_goals rfl
theorem e_X6_paper_52 {X : mX} {call : Nat → List mV → mG → mR} {g : mG} {x1 x2 x3 : Int32} : mEv X call 1 t_X6_paper (mDrop t_X6_paper 52) [some (mr 7 20), some (mi x1), some (mi x2), some (mi x3)] [mr 7 20] g = mEv X call 1 t_X6_paper (mDrop t_X6_paper 53) [some (mr 7 20), some (mi x1), some (mi x2), some (mi x3)] [mi x3, mr 7 20] g := (mEv_1 _ _ _ _).trans rfl
noncomputable def P_X6_paper (c : mC) (x1 : Int32) (x2 : Int32) : (Option (Int32 × mC)) := (mBd (α := Int32) (P_X6_isFrom x1 1 300) (fun v1 => (if v1 = 0 then (J_X6_paper_20 c) else (mBd (α := Int32) (P_X6_isFrom x2 0 1) (fun v2 => (if v2 = 0 then (J_X6_paper_20 c) else (mBo (α := mC) none (P_X6_copies c 0 288) (fun c3 => (mBo (α := Int32 × mC) none (P_X6_waitsIn c3 x1) (fun p4 => (if x2 = 0 then (J_X6_paper_53 p4.2 (p4.2 20 4)) else (J_X6_paper_53 p4.2 p4.1))))))))))))
theorem rr_X6_paper (d : Nat) {X : mX} {g : mG} {x1 x2 : Int32} {c : mC} : mCall mD X (d + 12) 273 [mr 7 20, mi x1, mi x2] (mU g 7 c) = (wO (wW g 7)) (P_X6_paper c x1 x2) := by
  refine Eq.trans (mCall_eq (d := d + 11) rfl) ?_
  show mEv X (mCall mD X (d + 11)) 1 t_X6_paper (mDrop t_X6_paper 0) [some (mr 7 20), some (mi x1), some (mi x2), none] [] (mU g 7 c) = _
  refine Eq.trans (e_X6_paper_0) ?_
  try simp only [mU_same, mU_mU]
  refine mw_cZ (rr_X6_isFrom (d + 10)) rfl (fun v1 hv1 => ?_)
  refine Eq.trans (e_X6_paper_8) ?_
  try simp only [mU_same, mU_mU]
  refine mw_ite (fun h7 => ?_) (fun h7 => ?_)
  · exact rj_X6_paper_20 d
  · refine Eq.trans (e_X6_paper_11) ?_
    try simp only [mU_same, mU_mU]
    refine mw_cZ (rr_X6_isFrom (d + 10)) rfl (fun v2 hv2 => ?_)
    refine Eq.trans (e_X6_paper_17) ?_
    try simp only [mU_same, mU_mU]
    refine mw_ite (fun h6 => ?_) (fun h6 => ?_)
    · exact rj_X6_paper_20 d
    · refine Eq.trans (e_X6_paper_26) ?_
      try simp only [mU_same, mU_mU]
      refine mw_oV ?_ (rr_X6_copies (d + 10)) (fun c3 => ?_)
      · rfl
      refine Eq.trans (e_X6_paper_34) ?_
      try simp only [mU_same, mU_mU]
      refine mw_oW ?_ (rr_X6_waitsIn d) (fun p4 => ?_)
      · rfl
      refine Eq.trans (e_X6_paper_39) ?_
      try simp only [mU_same, mU_mU]
      refine mw_ite (fun h5 => ?_) (fun h5 => ?_)
      · refine Eq.trans (e_X6_paper_45) ?_
        try simp only [mU_same, mU_mU]
        exact rj_X6_paper_53 d
      · refine Eq.trans (e_X6_paper_52) ?_
        try simp only [mU_same, mU_mU]
        exact rj_X6_paper_53 d
theorem rr_X6_paper_at (d : Nat) {X : mX} {g : mG} {x1 x2 : Int32} : mCall mD X (d + 12) 273 [mr 7 20, mi x1, mi x2] g = wO (wW g 7) (P_X6_paper (g 7) x1 x2) := by
  have h := rr_X6_paper (X := X) d (g := g) (c := g 7) (x1 := x1) (x2 := x2)
  rw [mU_self] at h
  exact h
theorem e_X6_bestMax_0 {X : mX} {call : Nat → List mV → mG → mR} {g : mG} {x1 x2 : Int32} : mEv X call 1 t_X6_bestMax (mDrop t_X6_bestMax 0) [some (mr 7 20), some (mi x1), some (mi x2), none, none, none, none] [] g = mAns (mEv X call 1 t_X6_bestMax) (mDrop t_X6_bestMax 7) [some (mr 7 20), some (mi x1), some (mi x2), none, none, none, none] [] (call 155 [mi x2, mi 1, mi 100] g) := (mEv_4 _ _ _ _).trans rfl
theorem e_X6_bestMax_7 {X : mX} {call : Nat → List mV → mG → mR} {g : mG} {x1 x2 s0 : Int32} : mEv X call 1 t_X6_bestMax (mDrop t_X6_bestMax 7) [some (mr 7 20), some (mi x1), some (mi x2), none, none, none, none] [mi s0] g = if s0 = 0 then mEv X call 1 t_X6_bestMax (mDrop t_X6_bestMax 10) [some (mr 7 20), some (mi x1), some (mi x2), none, none, none, none] [] g else mEv X call 1 t_X6_bestMax (mDrop t_X6_bestMax 16) [some (mr 7 20), some (mi x1), some (mi x2), none, none, none, none] [] g := (mEv_1 _ _ _ _).trans rfl
theorem e_X6_bestMax_10 {X : mX} {call : Nat → List mV → mG → mR} {g : mG} {x1 x2 : Int32} : mEv X call 1 t_X6_bestMax (mDrop t_X6_bestMax 10) [some (mr 7 20), some (mi x1), some (mi x2), none, none, none, none] [] g = mAns (mEv X call 1 t_X6_bestMax) (mDrop t_X6_bestMax 15) [some (mr 7 20), some (mi x1), some (mi x2), none, none, none, none] [] (call 152 [mr 7 20, mi 1] g) := (mEv_3 _ _ _ _).trans rfl
theorem e_X6_bestMax_15 {X : mX} {call : Nat → List mV → mG → mR} {g : mG} {x1 x2 s0 : Int32} : mEv X call 1 t_X6_bestMax (mDrop t_X6_bestMax 15) [some (mr 7 20), some (mi x1), some (mi x2), none, none, none, none] [mi s0] g = some (some (mi s0), g) := (mEv_1 _ _ _ _).trans rfl
theorem e_X6_bestMax_16 {X : mX} {call : Nat → List mV → mG → mR} {g : mG} {x1 x2 : Int32} : mEv X call 1 t_X6_bestMax (mDrop t_X6_bestMax 16) [some (mr 7 20), some (mi x1), some (mi x2), none, none, none, none] [] g = mAns (mEv X call 1 t_X6_bestMax) (mDrop t_X6_bestMax 21) [some (mr 7 20), some (mi x1), some (mi x2), none, none, none, none] [] (call 168 [mr 7 20, mi x1] g) := (mEv_3 _ _ _ _).trans rfl
theorem e_X6_bestMax_21 {X : mX} {call : Nat → List mV → mG → mR} {g : mG} {x1 x2 s0 : Int32} : mEv X call 1 t_X6_bestMax (mDrop t_X6_bestMax 21) [some (mr 7 20), some (mi x1), some (mi x2), none, none, none, none] [mi s0] g = if s0 = 0 then mEv X call 1 t_X6_bestMax (mDrop t_X6_bestMax 24) [some (mr 7 20), some (mi x1), some (mi x2), none, none, none, none] [] g else mEv X call 1 t_X6_bestMax (mDrop t_X6_bestMax 30) [some (mr 7 20), some (mi x1), some (mi x2), none, none, none, none] [] g := (mEv_1 _ _ _ _).trans rfl
theorem e_X6_bestMax_24 {X : mX} {call : Nat → List mV → mG → mR} {g : mG} {x1 x2 : Int32} : mEv X call 1 t_X6_bestMax (mDrop t_X6_bestMax 24) [some (mr 7 20), some (mi x1), some (mi x2), none, none, none, none] [] g = mAns (mEv X call 1 t_X6_bestMax) (mDrop t_X6_bestMax 29) [some (mr 7 20), some (mi x1), some (mi x2), none, none, none, none] [] (call 152 [mr 7 20, mi 2] g) := (mEv_3 _ _ _ _).trans rfl
theorem e_X6_bestMax_29 {X : mX} {call : Nat → List mV → mG → mR} {g : mG} {x1 x2 s0 : Int32} : mEv X call 1 t_X6_bestMax (mDrop t_X6_bestMax 29) [some (mr 7 20), some (mi x1), some (mi x2), none, none, none, none] [mi s0] g = some (some (mi s0), g) := (mEv_1 _ _ _ _).trans rfl
theorem e_X6_bestMax_30 {X : mX} {call : Nat → List mV → mG → mR} {g : mG} {x1 x2 : Int32} : mEv X call 1 t_X6_bestMax (mDrop t_X6_bestMax 30) [some (mr 7 20), some (mi x1), some (mi x2), none, none, none, none] [] g = mAns (mEv X call 1 t_X6_bestMax) (mDrop t_X6_bestMax 43) [some (mr 7 20), some (mi x1), some (mi x2), some (mi (-1)), some (mi 0), none, none] [] (call 161 [mr 7 20, mi 0, mi 288] g) := (mEv_8 _ _ _ _).trans rfl
theorem e_X6_bestMax_43 {X : mX} {call : Nat → List mV → mG → mR} {g : mG} {x1 x2 x3 x4 : Int32} : mEv X call 1 t_X6_bestMax (mDrop t_X6_bestMax 43) [some (mr 7 20), some (mi x1), some (mi x2), some (mi x3), some (mi x4), none, none] [] g = mEv X call 1 t_X6_bestMax (mDrop t_X6_bestMax 46) [some (mr 7 20), some (mi x1), some (mi x2), some (mi x3), some (mi x4), some (mi 1), none] [] g := (mEv_2 _ _ _ _).trans rfl
theorem hk_X6_bestMax_46 {X : mX} {call : Nat → List mV → mG → mR} {g : mG} {x1 x2 x3 x4 x5 : Int32} {k6 : Option mV} : mEv X call 1 t_X6_bestMax (mDrop t_X6_bestMax 46) [some (mr 7 20), some (mi x1), some (mi x2), some (mi x3), some (mi x4), some (mi x5), k6] [] g = mEv X call 1 t_X6_bestMax (mDrop t_X6_bestMax 46) [some (mr 7 20), some (mi x1), some (mi x2), some (mi x3), some (mi x4), some (mi x5), none] [] g := Eq.trans (mEv_1 _ _ _ _) (Eq.symm (Eq.trans (mEv_1 _ _ _ _) rfl))
theorem e_X6_bestMax_46 {X : mX} {call : Nat → List mV → mG → mR} {g : mG} {x1 x2 x3 x4 x5 : Int32} {u6 : Option mV} : mEv X call 1 t_X6_bestMax (mDrop t_X6_bestMax 46) [some (mr 7 20), some (mi x1), some (mi x2), some (mi x3), some (mi x4), some (mi x5), u6] [] g = if 60 < x5 then mEv X call 1 t_X6_bestMax (mDrop t_X6_bestMax 96) [some (mr 7 20), some (mi x1), some (mi x2), some (mi x3), some (mi x4), some (mi x5), none] [] g else mEv X call 1 t_X6_bestMax (mDrop t_X6_bestMax 53) [some (mr 7 20), some (mi x1), some (mi x2), some (mi x3), some (mi x4), some (mi x5), none] [] g := (mEv_3 _ _ _ _).trans rfl
theorem e_X6_bestMax_96 {X : mX} {call : Nat → List mV → mG → mR} {g : mG} {x1 x2 x3 x4 x5 : Int32} {u6 : Option mV} : mEv X call 1 t_X6_bestMax (mDrop t_X6_bestMax 96) [some (mr 7 20), some (mi x1), some (mi x2), some (mi x3), some (mi x4), some (mi x5), u6] [] g = mAns (mEv X call 1 t_X6_bestMax) (mDrop t_X6_bestMax 101) [some (mr 7 20), some (mi x1), some (mi x2), some (mi x3), some (mi x4), some (mi x5), u6] [] (call 154 [mr 7 20, mi x3] g) := (mEv_3 _ _ _ _).trans rfl
theorem e_X6_bestMax_101 {X : mX} {call : Nat → List mV → mG → mR} {g : mG} {x1 x2 x3 x4 x5 s0 : Int32} {u6 : Option mV} : mEv X call 1 t_X6_bestMax (mDrop t_X6_bestMax 101) [some (mr 7 20), some (mi x1), some (mi x2), some (mi x3), some (mi x4), some (mi x5), u6] [mi s0] g = some (some (mi s0), g) := (mEv_1 _ _ _ _).trans rfl
theorem e_X6_bestMax_53 {X : mX} {call : Nat → List mV → mG → mR} {g : mG} {x1 x2 x3 x4 x5 : Int32} {u6 : Option mV} : mEv X call 1 t_X6_bestMax (mDrop t_X6_bestMax 53) [some (mr 7 20), some (mi x1), some (mi x2), some (mi x3), some (mi x4), some (mi x5), u6] [] g = mAns (mEv X call 1 t_X6_bestMax) (mDrop t_X6_bestMax 61) [some (mr 7 20), some (mi x1), some (mi x2), some (mi x3), some (mi x4), some (mi x5), u6] [] (call 166 [mr 7 20, mi x1, mi 4, mi x5] g) := (mEv_5 _ _ _ _).trans rfl
theorem e_X6_bestMax_61 {X : mX} {call : Nat → List mV → mG → mR} {g : mG} {x1 x2 x3 x4 x5 : Int32} {u6 : Option mV} : mEv X call 1 t_X6_bestMax (mDrop t_X6_bestMax 61) [some (mr 7 20), some (mi x1), some (mi x2), some (mi x3), some (mi x4), some (mi x5), u6] [] g = mAns (mEv X call 1 t_X6_bestMax) (mDrop t_X6_bestMax 66) [some (mr 7 20), some (mi x1), some (mi x2), some (mi x3), some (mi x4), some (mi x5), u6] [] (call 272 [mr 7 20, mi x2] g) := (mEv_3 _ _ _ _).trans rfl
theorem e_X6_bestMax_66 {X : mX} {call : Nat → List mV → mG → mR} {g : mG} {x1 x2 x3 x4 x5 s0 : Int32} {u6 : Option mV} : mEv X call 1 t_X6_bestMax (mDrop t_X6_bestMax 66) [some (mr 7 20), some (mi x1), some (mi x2), some (mi x3), some (mi x4), some (mi x5), u6] [mi s0] g = if x3 = (-1) then mEv X call 1 t_X6_bestMax (mDrop t_X6_bestMax 83) [some (mr 7 20), some (mi x1), some (mi x2), some (mi x3), some (mi x4), some (mi x5), some (mi s0)] [] g else mEv X call 1 t_X6_bestMax (mDrop t_X6_bestMax 73) [some (mr 7 20), some (mi x1), some (mi x2), some (mi x3), some (mi x4), some (mi x5), some (mi s0)] [] g := (mEv_4 _ _ _ _).trans rfl
theorem e_X6_bestMax_83 {X : mX} {call : Nat → List mV → mG → mR} {g : mG} {x1 x2 x3 x4 x5 x6 : Int32} : mEv X call 1 t_X6_bestMax (mDrop t_X6_bestMax 83) [some (mr 7 20), some (mi x1), some (mi x2), some (mi x3), some (mi x4), some (mi x5), some (mi x6)] [] g = mEv X call 1 t_X6_bestMax (mDrop t_X6_bestMax 90) [some (mr 7 20), some (mi x1), some (mi x2), some (mi x5), some (mi x6), some (mi x5), some (mi x6)] [] g := (mEv_4 _ _ _ _).trans rfl
theorem e_X6_bestMax_90 {X : mX} {call : Nat → List mV → mG → mR} {g : mG} {x1 x2 x3 x4 x5 x6 : Int32} : mEv X call 1 t_X6_bestMax (mDrop t_X6_bestMax 90) [some (mr 7 20), some (mi x1), some (mi x2), some (mi x3), some (mi x4), some (mi x5), some (mi x6)] [] g = mEv X call 1 t_X6_bestMax (mDrop t_X6_bestMax 46) [some (mr 7 20), some (mi x1), some (mi x2), some (mi x3), some (mi x4), some (mi (x5 + 1)), some (mi x6)] [] g := (mEv_2 _ _ _ _).trans rfl
noncomputable def J_X6_bestMax_90 (c : mC) (x1 : Int32) (x2 : Int32) (x3 : Int32) (x4 : Int32) (x5 : Int32) : ((Int32 × Int32 × Int32 × mC) ⊕ (Option (Int32 × mC))) := (.inl (x3, x4, (x5 + 1), c))
theorem rj_X6_bestMax_90 (d : Nat) {X : mX} {g : mG} {x1 x2 x3 x4 x5 x6 : Int32} {c : mC} : mEv X (mCall mD X (d + 11)) 1 t_X6_bestMax (mDrop t_X6_bestMax 90) [some (mr 7 20), some (mi x1), some (mi x2), some (mi x3), some (mi x4), some (mi x5), some (mi x6)] [] (mU g 7 c) = (wB (fun s : (Int32 × Int32 × Int32 × mC) => match s with | (x3, x4, x5, c) => mEv X (mCall mD X (d + 11)) 1 t_X6_bestMax (mDrop t_X6_bestMax 46) [some (mr 7 20), some (mi x1), some (mi x2), some (mi x3), some (mi x4), some (mi x5), none] [] (mU g 7 c)) (wO (wW g 7))) (J_X6_bestMax_90 c x1 x2 x3 x4 x5) := by
  refine Eq.trans (e_X6_bestMax_90) ?_
  try simp only [mU_same, mU_mU]
  exact mw_inl hk_X6_bestMax_46
noncomputable def J_X6_bestMax_83 (c : mC) (x1 : Int32) (x2 : Int32) (x5 : Int32) (x6 : Int32) : ((Int32 × Int32 × Int32 × mC) ⊕ (Option (Int32 × mC))) := (J_X6_bestMax_90 c x1 x2 x5 x6 x5)
theorem rj_X6_bestMax_83 (d : Nat) {X : mX} {g : mG} {x1 x2 x3 x4 x5 x6 : Int32} {c : mC} : mEv X (mCall mD X (d + 11)) 1 t_X6_bestMax (mDrop t_X6_bestMax 83) [some (mr 7 20), some (mi x1), some (mi x2), some (mi x3), some (mi x4), some (mi x5), some (mi x6)] [] (mU g 7 c) = (wB (fun s : (Int32 × Int32 × Int32 × mC) => match s with | (x3, x4, x5, c) => mEv X (mCall mD X (d + 11)) 1 t_X6_bestMax (mDrop t_X6_bestMax 46) [some (mr 7 20), some (mi x1), some (mi x2), some (mi x3), some (mi x4), some (mi x5), none] [] (mU g 7 c)) (wO (wW g 7))) (J_X6_bestMax_83 c x1 x2 x5 x6) := by
  refine Eq.trans (e_X6_bestMax_83) ?_
  try simp only [mU_same, mU_mU]
  exact rj_X6_bestMax_90 d
theorem e_X6_bestMax_73 {X : mX} {call : Nat → List mV → mG → mR} {g : mG} {x1 x2 x3 x4 x5 x6 : Int32} : mEv X call 1 t_X6_bestMax (mDrop t_X6_bestMax 73) [some (mr 7 20), some (mi x1), some (mi x2), some (mi x3), some (mi x4), some (mi x5), some (mi x6)] [] g = if x6 < x4 then mEv X call 1 t_X6_bestMax (mDrop t_X6_bestMax 83) [some (mr 7 20), some (mi x1), some (mi x2), some (mi x3), some (mi x4), some (mi x5), some (mi x6)] [] g else mEv X call 1 t_X6_bestMax (mDrop t_X6_bestMax 80) [some (mr 7 20), some (mi x1), some (mi x2), some (mi x3), some (mi x4), some (mi x5), some (mi x6)] [] g := (mEv_3 _ _ _ _).trans rfl
theorem e_X6_bestMax_80 {X : mX} {call : Nat → List mV → mG → mR} {g : mG} {x1 x2 x3 x4 x5 x6 : Int32} : mEv X call 1 t_X6_bestMax (mDrop t_X6_bestMax 80) [some (mr 7 20), some (mi x1), some (mi x2), some (mi x3), some (mi x4), some (mi x5), some (mi x6)] [] g = mEv X call 1 t_X6_bestMax (mDrop t_X6_bestMax 90) [some (mr 7 20), some (mi x1), some (mi x2), some (mi x3), some (mi x4), some (mi x5), some (mi x6)] [] g := (mEv_1 _ _ _ _).trans rfl
noncomputable def B_X6_bestMax_46 (x1 : Int32) (x2 : Int32) : (Int32 × Int32 × Int32 × mC) → (Int32 × Int32 × Int32 × mC) ⊕ (Option (Int32 × mC)) := fun s => match s with | (x3, x4, x5, c) => (if 60 < x5 then (.inr (mBo (α := Int32 × mC) none (P_X6_gives c x3) (fun p1 => (some (p1.1, p1.2))))) else (mBo (α := mC) (.inr none) (P_X6_putsPhase c x1 4 x5) (fun c2 => (mBo (α := Int32 × mC) (.inr none) (P_X6_waitsIn c2 x2) (fun p3 => (if x3 = (-1) then (J_X6_bestMax_83 p3.2 x1 x2 x5 p3.1) else (if p3.1 < x4 then (J_X6_bestMax_83 p3.2 x1 x2 x5 p3.1) else (J_X6_bestMax_90 p3.2 x1 x2 x3 x4 x5))))))))
set_option maxRecDepth 100000 in
theorem tm_X6_bestMax_46 {x1 : Int32} {x2 : Int32} : mTm (B_X6_bestMax_46 x1 x2) := by
  refine ⟨fun s => match s with | (x3, x4, x5, c) => mMx x5, fun s s2 h => ?_⟩
  obtain ⟨x3, x4, x5, c⟩ := s
  simp only [B_X6_bestMax_46, J_X6_bestMax_83, J_X6_bestMax_90, mBd, mBo] at h
  (repeat' split at h) <;> first | (have h2 := Sum.inl.inj h; subst h2; dsimp only; first | exact mtm_max (by assumption) | exact mtm_lt (by assumption)) | (cases h; done)
theorem rl_X6_bestMax_46 (d : Nat) {X : mX} {g : mG} {x1 x2 x3 x4 x5 : Int32} {c : mC} : mEv X (mCall mD X (d + 11)) 1 t_X6_bestMax (mDrop t_X6_bestMax 46) [some (mr 7 20), some (mi x1), some (mi x2), some (mi x3), some (mi x4), some (mi x5), none] [] (mU g 7 c) = (wO (wW g 7)) (mWh none (B_X6_bestMax_46 x1 x2) (x3, x4, x5, c)) := by
  refine mWh_ev (B := (B_X6_bestMax_46 x1 x2)) (ev := fun s : (Int32 × Int32 × Int32 × mC) => match s with | (x3, x4, x5, c) => mEv X (mCall mD X (d + 11)) 1 t_X6_bestMax (mDrop t_X6_bestMax 46) [some (mr 7 20), some (mi x1), some (mi x2), some (mi x3), some (mi x4), some (mi x5), none] [] (mU g 7 c)) (w := (wO (wW g 7))) (tm_X6_bestMax_46) ?_ (x3, x4, x5, c)
  rintro ⟨x3, x4, x5, c⟩
  show mEv X (mCall mD X (d + 11)) 1 t_X6_bestMax (mDrop t_X6_bestMax 46) [some (mr 7 20), some (mi x1), some (mi x2), some (mi x3), some (mi x4), some (mi x5), none] [] (mU g 7 c) = wB (fun s : (Int32 × Int32 × Int32 × mC) => match s with | (x3, x4, x5, c) => mEv X (mCall mD X (d + 11)) 1 t_X6_bestMax (mDrop t_X6_bestMax 46) [some (mr 7 20), some (mi x1), some (mi x2), some (mi x3), some (mi x4), some (mi x5), none] [] (mU g 7 c)) (wO (wW g 7)) (B_X6_bestMax_46 x1 x2 (x3, x4, x5, c))
  refine Eq.trans (e_X6_bestMax_46) ?_
  try simp only [mU_same, mU_mU]
  refine mw_ite (fun h6 => ?_) (fun h6 => ?_)
  · refine mw_inr ?_
    refine Eq.trans (e_X6_bestMax_96) ?_
    try simp only [mU_same, mU_mU]
    refine mw_oW ?_ (rr_X6_gives (d + 10)) (fun p1 => ?_)
    · rfl
    refine Eq.trans (e_X6_bestMax_101) ?_
    try simp only [mU_same, mU_mU]
    all_goals rfl
  · refine Eq.trans (e_X6_bestMax_53) ?_
    try simp only [mU_same, mU_mU]
    refine mw_oV ?_ (rr_X6_putsPhase (d + 9)) (fun c2 => ?_)
    · rfl
    refine Eq.trans (e_X6_bestMax_61) ?_
    try simp only [mU_same, mU_mU]
    refine mw_oW ?_ (rr_X6_waitsIn d) (fun p3 => ?_)
    · rfl
    refine Eq.trans (e_X6_bestMax_66) ?_
    try simp only [mU_same, mU_mU]
    refine mw_ite (fun h5 => ?_) (fun h5 => ?_)
    · exact rj_X6_bestMax_83 d
    · refine Eq.trans (e_X6_bestMax_73) ?_
      try simp only [mU_same, mU_mU]
      refine mw_ite (fun h4 => ?_) (fun h4 => ?_)
      · exact rj_X6_bestMax_83 d
      · refine Eq.trans (e_X6_bestMax_80) ?_
        try simp only [mU_same, mU_mU]
        exact rj_X6_bestMax_90 d
noncomputable def P_X6_bestMax (c : mC) (x1 : Int32) (x2 : Int32) : (Option (Int32 × mC)) := (mBd (α := Int32) (P_X6_isFrom x2 1 100) (fun v1 => (if v1 = 0 then (mBo (α := Int32 × mC) none (P_X6_refuse c 1) (fun p2 => (some (p2.1, p2.2)))) else (mBo (α := Int32) none (P_X6_isPhase c x1) (fun v3 => (if v3 = 0 then (mBo (α := Int32 × mC) none (P_X6_refuse c 2) (fun p4 => (some (p4.1, p4.2)))) else (mBo (α := mC) none (P_X6_copies c 0 288) (fun c5 => (mWh none (B_X6_bestMax_46 x1 x2) ((-1), 0, 1, c5))))))))))
theorem rr_X6_bestMax (d : Nat) {X : mX} {g : mG} {x1 x2 : Int32} {c : mC} : mCall mD X (d + 12) 274 [mr 7 20, mi x1, mi x2] (mU g 7 c) = (wO (wW g 7)) (P_X6_bestMax c x1 x2) := by
  refine Eq.trans (mCall_eq (d := d + 11) rfl) ?_
  show mEv X (mCall mD X (d + 11)) 1 t_X6_bestMax (mDrop t_X6_bestMax 0) [some (mr 7 20), some (mi x1), some (mi x2), none, none, none, none] [] (mU g 7 c) = _
  refine Eq.trans (e_X6_bestMax_0) ?_
  try simp only [mU_same, mU_mU]
  refine mw_cZ (rr_X6_isFrom (d + 10)) rfl (fun v1 hv1 => ?_)
  refine Eq.trans (e_X6_bestMax_7) ?_
  try simp only [mU_same, mU_mU]
  refine mw_ite (fun h7 => ?_) (fun h7 => ?_)
  · refine Eq.trans (e_X6_bestMax_10) ?_
    try simp only [mU_same, mU_mU]
    refine mw_oW ?_ (rr_X6_refuse (d + 10)) (fun p2 => ?_)
    · rfl
    refine Eq.trans (e_X6_bestMax_15) ?_
    try simp only [mU_same, mU_mU]
    all_goals rfl
  · refine Eq.trans (e_X6_bestMax_16) ?_
    try simp only [mU_same, mU_mU]
    refine mw_oZ ?_ (rr_X6_isPhase (d + 9)) rfl (fun v3 hv3 => ?_)
    · rfl
    refine Eq.trans (e_X6_bestMax_21) ?_
    try simp only [mU_same, mU_mU]
    refine mw_ite (fun h6 => ?_) (fun h6 => ?_)
    · refine Eq.trans (e_X6_bestMax_24) ?_
      try simp only [mU_same, mU_mU]
      refine mw_oW ?_ (rr_X6_refuse (d + 10)) (fun p4 => ?_)
      · rfl
      refine Eq.trans (e_X6_bestMax_29) ?_
      try simp only [mU_same, mU_mU]
      all_goals rfl
    · refine Eq.trans (e_X6_bestMax_30) ?_
      try simp only [mU_same, mU_mU]
      refine mw_oV ?_ (rr_X6_copies (d + 10)) (fun c5 => ?_)
      · rfl
      refine Eq.trans (e_X6_bestMax_43) ?_
      try simp only [mU_same, mU_mU]
      exact Eq.trans hk_X6_bestMax_46 (rl_X6_bestMax_46 d)
theorem rr_X6_bestMax_at (d : Nat) {X : mX} {g : mG} {x1 x2 : Int32} : mCall mD X (d + 12) 274 [mr 7 20, mi x1, mi x2] g = wO (wW g 7) (P_X6_bestMax (g 7) x1 x2) := by
  have h := rr_X6_bestMax (X := X) d (g := g) (c := g 7) (x1 := x1) (x2 := x2)
  rw [mU_self] at h
  exact h
theorem e_X6_cheapest_0 {X : mX} {call : Nat → List mV → mG → mR} {g : mG} {x1 : Int32} : mEv X call 1 t_X6_cheapest (mDrop t_X6_cheapest 0) [some (mr 7 20), some (mi x1), none, none, none, none] [] g = mAns (mEv X call 1 t_X6_cheapest) (mDrop t_X6_cheapest 7) [some (mr 7 20), some (mi x1), none, none, none, none] [] (call 155 [mi x1, mi 1, mi 100] g) := (mEv_4 _ _ _ _).trans rfl
theorem e_X6_cheapest_7 {X : mX} {call : Nat → List mV → mG → mR} {g : mG} {x1 s0 : Int32} : mEv X call 1 t_X6_cheapest (mDrop t_X6_cheapest 7) [some (mr 7 20), some (mi x1), none, none, none, none] [mi s0] g = if s0 = 0 then mEv X call 1 t_X6_cheapest (mDrop t_X6_cheapest 10) [some (mr 7 20), some (mi x1), none, none, none, none] [] g else mEv X call 1 t_X6_cheapest (mDrop t_X6_cheapest 16) [some (mr 7 20), some (mi x1), none, none, none, none] [] g := (mEv_1 _ _ _ _).trans rfl
theorem e_X6_cheapest_10 {X : mX} {call : Nat → List mV → mG → mR} {g : mG} {x1 : Int32} : mEv X call 1 t_X6_cheapest (mDrop t_X6_cheapest 10) [some (mr 7 20), some (mi x1), none, none, none, none] [] g = mAns (mEv X call 1 t_X6_cheapest) (mDrop t_X6_cheapest 15) [some (mr 7 20), some (mi x1), none, none, none, none] [] (call 152 [mr 7 20, mi 1] g) := (mEv_3 _ _ _ _).trans rfl
theorem e_X6_cheapest_15 {X : mX} {call : Nat → List mV → mG → mR} {g : mG} {x1 s0 : Int32} : mEv X call 1 t_X6_cheapest (mDrop t_X6_cheapest 15) [some (mr 7 20), some (mi x1), none, none, none, none] [mi s0] g = some (some (mi s0), g) := (mEv_1 _ _ _ _).trans rfl
theorem e_X6_cheapest_16 {X : mX} {call : Nat → List mV → mG → mR} {g : mG} {x1 : Int32} : mEv X call 1 t_X6_cheapest (mDrop t_X6_cheapest 16) [some (mr 7 20), some (mi x1), none, none, none, none] [] g = mAns (mEv X call 1 t_X6_cheapest) (mDrop t_X6_cheapest 28) [some (mr 7 20), some (mi x1), some (mi (-1)), some (mi 0), none, none] [] (call 161 [mr 7 20, mi 0, mi 288] g) := (mEv_8 _ _ _ _).trans rfl
theorem e_X6_cheapest_28 {X : mX} {call : Nat → List mV → mG → mR} {g : mG} {x1 x2 x3 : Int32} : mEv X call 1 t_X6_cheapest (mDrop t_X6_cheapest 28) [some (mr 7 20), some (mi x1), some (mi x2), some (mi x3), none, none] [] g = mEv X call 1 t_X6_cheapest (mDrop t_X6_cheapest 31) [some (mr 7 20), some (mi x1), some (mi x2), some (mi x3), some (mi 0), none] [] g := (mEv_2 _ _ _ _).trans rfl
theorem hk_X6_cheapest_31 {X : mX} {call : Nat → List mV → mG → mR} {g : mG} {x1 x2 x3 x4 : Int32} {k5 : Option mV} : mEv X call 1 t_X6_cheapest (mDrop t_X6_cheapest 31) [some (mr 7 20), some (mi x1), some (mi x2), some (mi x3), some (mi x4), k5] [] g = mEv X call 1 t_X6_cheapest (mDrop t_X6_cheapest 31) [some (mr 7 20), some (mi x1), some (mi x2), some (mi x3), some (mi x4), none] [] g := Eq.trans (mEv_1 _ _ _ _) (Eq.symm (Eq.trans (mEv_1 _ _ _ _) rfl))
theorem e_X6_cheapest_31 {X : mX} {call : Nat → List mV → mG → mR} {g : mG} {x1 x2 x3 x4 : Int32} {u5 : Option mV} : mEv X call 1 t_X6_cheapest (mDrop t_X6_cheapest 31) [some (mr 7 20), some (mi x1), some (mi x2), some (mi x3), some (mi x4), u5] [] g = mAns (mEv X call 1 t_X6_cheapest) (mDrop t_X6_cheapest 38) [some (mr 7 20), some (mi x1), some (mi x2), some (mi x3), some (mi x4), none] [mi x4] (call 158 [mr 7 20, mi 0] g) := (mEv_4 _ _ _ _).trans rfl
theorem e_X6_cheapest_38 {X : mX} {call : Nat → List mV → mG → mR} {g : mG} {x1 x2 x3 x4 s0 s1 : Int32} {u5 : Option mV} : mEv X call 1 t_X6_cheapest (mDrop t_X6_cheapest 38) [some (mr 7 20), some (mi x1), some (mi x2), some (mi x3), some (mi x4), u5] [mi s1, mi s0] g = if s1 ≤ s0 then mEv X call 1 t_X6_cheapest (mDrop t_X6_cheapest 93) [some (mr 7 20), some (mi x1), some (mi x2), some (mi x3), some (mi x4), u5] [] g else mEv X call 1 t_X6_cheapest (mDrop t_X6_cheapest 41) [some (mr 7 20), some (mi x1), some (mi x2), some (mi x3), some (mi x4), u5] [] g := (mEv_1 _ _ _ _).trans rfl
theorem e_X6_cheapest_93 {X : mX} {call : Nat → List mV → mG → mR} {g : mG} {x1 x2 x3 x4 : Int32} {u5 : Option mV} : mEv X call 1 t_X6_cheapest (mDrop t_X6_cheapest 93) [some (mr 7 20), some (mi x1), some (mi x2), some (mi x3), some (mi x4), u5] [] g = if x2 = (-1) then mEv X call 1 t_X6_cheapest (mDrop t_X6_cheapest 98) [some (mr 7 20), some (mi x1), some (mi x2), some (mi x3), some (mi x4), u5] [] g else mEv X call 1 t_X6_cheapest (mDrop t_X6_cheapest 106) [some (mr 7 20), some (mi x1), some (mi x2), some (mi x3), some (mi x4), u5] [] g := (mEv_3 _ _ _ _).trans rfl
theorem e_X6_cheapest_98 {X : mX} {call : Nat → List mV → mG → mR} {g : mG} {x1 x2 x3 x4 : Int32} {u5 : Option mV} : mEv X call 1 t_X6_cheapest (mDrop t_X6_cheapest 98) [some (mr 7 20), some (mi x1), some (mi x2), some (mi x3), some (mi x4), u5] [] g = mAns (mEv X call 1 t_X6_cheapest) (mDrop t_X6_cheapest 103) [some (mr 7 20), some (mi x1), some (mi x2), some (mi x3), some (mi x4), u5] [] (call 152 [mr 7 20, mi 5] g) := (mEv_3 _ _ _ _).trans rfl
theorem e_X6_cheapest_103 {X : mX} {call : Nat → List mV → mG → mR} {g : mG} {x1 x2 x3 x4 s0 : Int32} {u5 : Option mV} : mEv X call 1 t_X6_cheapest (mDrop t_X6_cheapest 103) [some (mr 7 20), some (mi x1), some (mi x2), some (mi x3), some (mi x4), u5] [mi s0] g = mEv X call 1 t_X6_cheapest (mDrop t_X6_cheapest 111) [some (mr 7 20), some (mi x1), some (mi x2), some (mi x3), some (mi x4), u5] [mi s0] g := (mEv_1 _ _ _ _).trans rfl
theorem e_X6_cheapest_111 {X : mX} {call : Nat → List mV → mG → mR} {g : mG} {x1 x2 x3 x4 s0 : Int32} {u5 : Option mV} : mEv X call 1 t_X6_cheapest (mDrop t_X6_cheapest 111) [some (mr 7 20), some (mi x1), some (mi x2), some (mi x3), some (mi x4), u5] [mi s0] g = some (some (mi s0), g) := (mEv_1 _ _ _ _).trans rfl
theorem e_X6_cheapest_106 {X : mX} {call : Nat → List mV → mG → mR} {g : mG} {x1 x2 x3 x4 : Int32} {u5 : Option mV} : mEv X call 1 t_X6_cheapest (mDrop t_X6_cheapest 106) [some (mr 7 20), some (mi x1), some (mi x2), some (mi x3), some (mi x4), u5] [] g = mAns (mEv X call 1 t_X6_cheapest) (mDrop t_X6_cheapest 111) [some (mr 7 20), some (mi x1), some (mi x2), some (mi x3), some (mi x4), u5] [] (call 154 [mr 7 20, mi x2] g) := (mEv_3 _ _ _ _).trans rfl
theorem e_X6_cheapest_41 {X : mX} {call : Nat → List mV → mG → mR} {g : mG} {x1 x2 x3 x4 : Int32} {u5 : Option mV} : mEv X call 1 t_X6_cheapest (mDrop t_X6_cheapest 41) [some (mr 7 20), some (mi x1), some (mi x2), some (mi x3), some (mi x4), u5] [] g = mAns (mEv X call 1 t_X6_cheapest) (mDrop t_X6_cheapest 54) [some (mr 7 20), some (mi x1), some (mi x2), some (mi x3), some (mi x4), u5] [mi 12, mi x4, mr 7 20] (call 165 [mr 7 20, mi x4, mi 12] g) := (mEv_7 _ _ _ _).trans rfl
theorem e_X6_cheapest_54 {X : mX} {call : Nat → List mV → mG → mR} {g : mG} {x1 x2 x3 x4 s1 s2 s3 : Int32} {u5 : Option mV} : mEv X call 1 t_X6_cheapest (mDrop t_X6_cheapest 54) [some (mr 7 20), some (mi x1), some (mi x2), some (mi x3), some (mi x4), u5] [mi s3, mi s2, mi s1, mr 7 20] g = mAns (mEv X call 1 t_X6_cheapest) (mDrop t_X6_cheapest 60) [some (mr 7 20), some (mi x1), some (mi x2), some (mi x3), some (mi x4), u5] [] (call 166 [mr 7 20, mi s1, mi s2, mi (s3 + 10)] g) := (mEv_3 _ _ _ _).trans rfl
theorem e_X6_cheapest_60 {X : mX} {call : Nat → List mV → mG → mR} {g : mG} {x1 x2 x3 x4 : Int32} {u5 : Option mV} : mEv X call 1 t_X6_cheapest (mDrop t_X6_cheapest 60) [some (mr 7 20), some (mi x1), some (mi x2), some (mi x3), some (mi x4), u5] [] g = mAns (mEv X call 1 t_X6_cheapest) (mDrop t_X6_cheapest 65) [some (mr 7 20), some (mi x1), some (mi x2), some (mi x3), some (mi x4), u5] [] (call 272 [mr 7 20, mi x1] g) := (mEv_3 _ _ _ _).trans rfl
theorem e_X6_cheapest_65 {X : mX} {call : Nat → List mV → mG → mR} {g : mG} {x1 x2 x3 x4 s0 : Int32} {u5 : Option mV} : mEv X call 1 t_X6_cheapest (mDrop t_X6_cheapest 65) [some (mr 7 20), some (mi x1), some (mi x2), some (mi x3), some (mi x4), u5] [mi s0] g = if x2 = (-1) then mEv X call 1 t_X6_cheapest (mDrop t_X6_cheapest 81) [some (mr 7 20), some (mi x1), some (mi x2), some (mi x3), some (mi x4), some (mi s0)] [] g else mEv X call 1 t_X6_cheapest (mDrop t_X6_cheapest 72) [some (mr 7 20), some (mi x1), some (mi x2), some (mi x3), some (mi x4), some (mi s0)] [] g := (mEv_4 _ _ _ _).trans rfl
theorem e_X6_cheapest_81 {X : mX} {call : Nat → List mV → mG → mR} {g : mG} {x1 x2 x3 x4 x5 : Int32} : mEv X call 1 t_X6_cheapest (mDrop t_X6_cheapest 81) [some (mr 7 20), some (mi x1), some (mi x2), some (mi x3), some (mi x4), some (mi x5)] [] g = mEv X call 1 t_X6_cheapest (mDrop t_X6_cheapest 87) [some (mr 7 20), some (mi x1), some (mi x4), some (mi x5), some (mi x4), some (mi x5)] [] g := (mEv_4 _ _ _ _).trans rfl
theorem e_X6_cheapest_87 {X : mX} {call : Nat → List mV → mG → mR} {g : mG} {x1 x2 x3 x4 x5 : Int32} : mEv X call 1 t_X6_cheapest (mDrop t_X6_cheapest 87) [some (mr 7 20), some (mi x1), some (mi x2), some (mi x3), some (mi x4), some (mi x5)] [] g = mEv X call 1 t_X6_cheapest (mDrop t_X6_cheapest 31) [some (mr 7 20), some (mi x1), some (mi x2), some (mi x3), some (mi (x4 + 1)), some (mi x5)] [] g := (mEv_2 _ _ _ _).trans rfl
noncomputable def J_X6_cheapest_87 (c : mC) (x1 : Int32) (x2 : Int32) (x3 : Int32) (x4 : Int32) : ((Int32 × Int32 × Int32 × mC) ⊕ (Option (Int32 × mC))) := (.inl (x2, x3, (x4 + 1), c))
theorem rj_X6_cheapest_87 (d : Nat) {X : mX} {g : mG} {x1 x2 x3 x4 x5 : Int32} {c : mC} : mEv X (mCall mD X (d + 11)) 1 t_X6_cheapest (mDrop t_X6_cheapest 87) [some (mr 7 20), some (mi x1), some (mi x2), some (mi x3), some (mi x4), some (mi x5)] [] (mU g 7 c) = (wB (fun s : (Int32 × Int32 × Int32 × mC) => match s with | (x2, x3, x4, c) => mEv X (mCall mD X (d + 11)) 1 t_X6_cheapest (mDrop t_X6_cheapest 31) [some (mr 7 20), some (mi x1), some (mi x2), some (mi x3), some (mi x4), none] [] (mU g 7 c)) (wO (wW g 7))) (J_X6_cheapest_87 c x1 x2 x3 x4) := by
  refine Eq.trans (e_X6_cheapest_87) ?_
  try simp only [mU_same, mU_mU]
  exact mw_inl hk_X6_cheapest_31
noncomputable def J_X6_cheapest_81 (c : mC) (x1 : Int32) (x4 : Int32) (x5 : Int32) : ((Int32 × Int32 × Int32 × mC) ⊕ (Option (Int32 × mC))) := (J_X6_cheapest_87 c x1 x4 x5 x4)
theorem rj_X6_cheapest_81 (d : Nat) {X : mX} {g : mG} {x1 x2 x3 x4 x5 : Int32} {c : mC} : mEv X (mCall mD X (d + 11)) 1 t_X6_cheapest (mDrop t_X6_cheapest 81) [some (mr 7 20), some (mi x1), some (mi x2), some (mi x3), some (mi x4), some (mi x5)] [] (mU g 7 c) = (wB (fun s : (Int32 × Int32 × Int32 × mC) => match s with | (x2, x3, x4, c) => mEv X (mCall mD X (d + 11)) 1 t_X6_cheapest (mDrop t_X6_cheapest 31) [some (mr 7 20), some (mi x1), some (mi x2), some (mi x3), some (mi x4), none] [] (mU g 7 c)) (wO (wW g 7))) (J_X6_cheapest_81 c x1 x4 x5) := by
  refine Eq.trans (e_X6_cheapest_81) ?_
  try simp only [mU_same, mU_mU]
  exact rj_X6_cheapest_87 d
theorem e_X6_cheapest_72 {X : mX} {call : Nat → List mV → mG → mR} {g : mG} {x1 x2 x3 x4 x5 : Int32} : mEv X call 1 t_X6_cheapest (mDrop t_X6_cheapest 72) [some (mr 7 20), some (mi x1), some (mi x2), some (mi x3), some (mi x4), some (mi x5)] [] g = if x5 < x3 then mEv X call 1 t_X6_cheapest (mDrop t_X6_cheapest 81) [some (mr 7 20), some (mi x1), some (mi x2), some (mi x3), some (mi x4), some (mi x5)] [] g else mEv X call 1 t_X6_cheapest (mDrop t_X6_cheapest 78) [some (mr 7 20), some (mi x1), some (mi x2), some (mi x3), some (mi x4), some (mi x5)] [] g := (mEv_3 _ _ _ _).trans rfl
theorem e_X6_cheapest_78 {X : mX} {call : Nat → List mV → mG → mR} {g : mG} {x1 x2 x3 x4 x5 : Int32} : mEv X call 1 t_X6_cheapest (mDrop t_X6_cheapest 78) [some (mr 7 20), some (mi x1), some (mi x2), some (mi x3), some (mi x4), some (mi x5)] [] g = mEv X call 1 t_X6_cheapest (mDrop t_X6_cheapest 87) [some (mr 7 20), some (mi x1), some (mi x2), some (mi x3), some (mi x4), some (mi x5)] [] g := (mEv_1 _ _ _ _).trans rfl
noncomputable def B_X6_cheapest_31 (x1 : Int32) : (Int32 × Int32 × Int32 × mC) → (Int32 × Int32 × Int32 × mC) ⊕ (Option (Int32 × mC)) := fun s => match s with | (x2, x3, x4, c) => (mBo (α := Int32) (.inr none) (P_X6_of c 0) (fun v1 => (if v1 ≤ x4 then (.inr (if x2 = (-1) then (mBo (α := Int32 × mC) none (P_X6_refuse c 5) (fun p2 => (some (p2.1, p2.2)))) else (mBo (α := Int32 × mC) none (P_X6_gives c x2) (fun p3 => (some (p3.1, p3.2)))))) else (mBo (α := Int32) (.inr none) (P_X6_ofPhase c x4 12) (fun v5 => (mBo (α := mC) (.inr none) (P_X6_putsPhase c x4 12 (v5 + 10)) (fun c6 => (mBo (α := Int32 × mC) (.inr none) (P_X6_waitsIn c6 x1) (fun p7 => (if x2 = (-1) then (J_X6_cheapest_81 p7.2 x1 x4 p7.1) else (if p7.1 < x3 then (J_X6_cheapest_81 p7.2 x1 x4 p7.1) else (J_X6_cheapest_87 p7.2 x1 x2 x3 x4))))))))))))
set_option maxRecDepth 100000 in
theorem tm_X6_cheapest_31 {x1 : Int32} : mTm (B_X6_cheapest_31 x1) := by
  refine ⟨fun s => match s with | (x2, x3, x4, c) => mMx x4, fun s s2 h => ?_⟩
  obtain ⟨x2, x3, x4, c⟩ := s
  simp only [B_X6_cheapest_31, J_X6_cheapest_81, J_X6_cheapest_87, mBd, mBo] at h
  (repeat' split at h) <;> first | (have h2 := Sum.inl.inj h; subst h2; dsimp only; first | exact mtm_max (by assumption) | exact mtm_lt (by assumption)) | (cases h; done)
theorem rl_X6_cheapest_31 (d : Nat) {X : mX} {g : mG} {x1 x2 x3 x4 : Int32} {c : mC} : mEv X (mCall mD X (d + 11)) 1 t_X6_cheapest (mDrop t_X6_cheapest 31) [some (mr 7 20), some (mi x1), some (mi x2), some (mi x3), some (mi x4), none] [] (mU g 7 c) = (wO (wW g 7)) (mWh none (B_X6_cheapest_31 x1) (x2, x3, x4, c)) := by
  refine mWh_ev (B := (B_X6_cheapest_31 x1)) (ev := fun s : (Int32 × Int32 × Int32 × mC) => match s with | (x2, x3, x4, c) => mEv X (mCall mD X (d + 11)) 1 t_X6_cheapest (mDrop t_X6_cheapest 31) [some (mr 7 20), some (mi x1), some (mi x2), some (mi x3), some (mi x4), none] [] (mU g 7 c)) (w := (wO (wW g 7))) (tm_X6_cheapest_31) ?_ (x2, x3, x4, c)
  rintro ⟨x2, x3, x4, c⟩
  show mEv X (mCall mD X (d + 11)) 1 t_X6_cheapest (mDrop t_X6_cheapest 31) [some (mr 7 20), some (mi x1), some (mi x2), some (mi x3), some (mi x4), none] [] (mU g 7 c) = wB (fun s : (Int32 × Int32 × Int32 × mC) => match s with | (x2, x3, x4, c) => mEv X (mCall mD X (d + 11)) 1 t_X6_cheapest (mDrop t_X6_cheapest 31) [some (mr 7 20), some (mi x1), some (mi x2), some (mi x3), some (mi x4), none] [] (mU g 7 c)) (wO (wW g 7)) (mBo (α := Int32) (.inr none) (P_X6_of c 0) (fun v1 => (if v1 ≤ x4 then (.inr (if x2 = (-1) then (mBo (α := Int32 × mC) none (P_X6_refuse c 5) (fun p2 => (some (p2.1, p2.2)))) else (mBo (α := Int32 × mC) none (P_X6_gives c x2) (fun p3 => (some (p3.1, p3.2)))))) else (mBo (α := Int32) (.inr none) (P_X6_ofPhase c x4 12) (fun v5 => (mBo (α := mC) (.inr none) (P_X6_putsPhase c x4 12 (v5 + 10)) (fun c6 => (mBo (α := Int32 × mC) (.inr none) (P_X6_waitsIn c6 x1) (fun p7 => (if x2 = (-1) then (J_X6_cheapest_81 p7.2 x1 x4 p7.1) else (if p7.1 < x3 then (J_X6_cheapest_81 p7.2 x1 x4 p7.1) else (J_X6_cheapest_87 p7.2 x1 x2 x3 x4))))))))))))
  refine Eq.trans (e_X6_cheapest_31) ?_
  try simp only [mU_same, mU_mU]
  refine mw_oI ?_ (rr_X6_of (d + 10)) (fun v1 => ?_)
  · rfl
  refine Eq.trans (e_X6_cheapest_38) ?_
  try simp only [mU_same, mU_mU]
  refine mw_ite (fun h10 => ?_) (fun h10 => ?_)
  · refine mw_inr ?_
    refine Eq.trans (e_X6_cheapest_93) ?_
    try simp only [mU_same, mU_mU]
    refine mw_ite (fun h4 => ?_) (fun h4 => ?_)
    · refine Eq.trans (e_X6_cheapest_98) ?_
      try simp only [mU_same, mU_mU]
      refine mw_oW ?_ (rr_X6_refuse (d + 10)) (fun p2 => ?_)
      · rfl
      refine Eq.trans (e_X6_cheapest_103) ?_
      try simp only [mU_same, mU_mU]
      refine Eq.trans (e_X6_cheapest_111) ?_
      try simp only [mU_same, mU_mU]
      all_goals rfl
    · refine Eq.trans (e_X6_cheapest_106) ?_
      try simp only [mU_same, mU_mU]
      refine mw_oW ?_ (rr_X6_gives (d + 10)) (fun p3 => ?_)
      · rfl
      refine Eq.trans (e_X6_cheapest_111) ?_
      try simp only [mU_same, mU_mU]
      all_goals rfl
  · refine Eq.trans (e_X6_cheapest_41) ?_
    try simp only [mU_same, mU_mU]
    refine mw_oI ?_ (rr_X6_ofPhase (d + 9)) (fun v5 => ?_)
    · rfl
    refine Eq.trans (e_X6_cheapest_54) ?_
    try simp only [mU_same, mU_mU]
    refine mw_oV ?_ (rr_X6_putsPhase (d + 9)) (fun c6 => ?_)
    · rfl
    refine Eq.trans (e_X6_cheapest_60) ?_
    try simp only [mU_same, mU_mU]
    refine mw_oW ?_ (rr_X6_waitsIn d) (fun p7 => ?_)
    · rfl
    refine Eq.trans (e_X6_cheapest_65) ?_
    try simp only [mU_same, mU_mU]
    refine mw_ite (fun h9 => ?_) (fun h9 => ?_)
    · exact rj_X6_cheapest_81 d
    · refine Eq.trans (e_X6_cheapest_72) ?_
      try simp only [mU_same, mU_mU]
      refine mw_ite (fun h8 => ?_) (fun h8 => ?_)
      · exact rj_X6_cheapest_81 d
      · refine Eq.trans (e_X6_cheapest_78) ?_
        try simp only [mU_same, mU_mU]
        exact rj_X6_cheapest_87 d
noncomputable def P_X6_cheapest (c : mC) (x1 : Int32) : (Option (Int32 × mC)) := (mBd (α := Int32) (P_X6_isFrom x1 1 100) (fun v1 => (if v1 = 0 then (mBo (α := Int32 × mC) none (P_X6_refuse c 1) (fun p2 => (some (p2.1, p2.2)))) else (mBo (α := mC) none (P_X6_copies c 0 288) (fun c3 => (mWh none (B_X6_cheapest_31 x1) ((-1), 0, 0, c3)))))))
theorem rr_X6_cheapest (d : Nat) {X : mX} {g : mG} {x1 : Int32} {c : mC} : mCall mD X (d + 12) 275 [mr 7 20, mi x1] (mU g 7 c) = (wO (wW g 7)) (P_X6_cheapest c x1) := by
  refine Eq.trans (mCall_eq (d := d + 11) rfl) ?_
  show mEv X (mCall mD X (d + 11)) 1 t_X6_cheapest (mDrop t_X6_cheapest 0) [some (mr 7 20), some (mi x1), none, none, none, none] [] (mU g 7 c) = _
  refine Eq.trans (e_X6_cheapest_0) ?_
  try simp only [mU_same, mU_mU]
  refine mw_cZ (rr_X6_isFrom (d + 10)) rfl (fun v1 hv1 => ?_)
  refine Eq.trans (e_X6_cheapest_7) ?_
  try simp only [mU_same, mU_mU]
  refine mw_ite (fun h4 => ?_) (fun h4 => ?_)
  · refine Eq.trans (e_X6_cheapest_10) ?_
    try simp only [mU_same, mU_mU]
    refine mw_oW ?_ (rr_X6_refuse (d + 10)) (fun p2 => ?_)
    · rfl
    refine Eq.trans (e_X6_cheapest_15) ?_
    try simp only [mU_same, mU_mU]
    all_goals rfl
  · refine Eq.trans (e_X6_cheapest_16) ?_
    try simp only [mU_same, mU_mU]
    refine mw_oV ?_ (rr_X6_copies (d + 10)) (fun c3 => ?_)
    · rfl
    refine Eq.trans (e_X6_cheapest_28) ?_
    try simp only [mU_same, mU_mU]
    exact Eq.trans hk_X6_cheapest_31 (rl_X6_cheapest_31 d)
theorem rr_X6_cheapest_at (d : Nat) {X : mX} {g : mG} {x1 : Int32} : mCall mD X (d + 12) 275 [mr 7 20, mi x1] g = wO (wW g 7) (P_X6_cheapest (g 7) x1) := by
  have h := rr_X6_cheapest (X := X) d (g := g) (c := g 7) (x1 := x1)
  rw [mU_self] at h
  exact h
