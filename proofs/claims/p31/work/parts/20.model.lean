theorem e_X6_status_0 {X : mX} {call : Nat → List mV → mG → mR} {g : mG} : mEv X call 1 t_X6_status (mDrop t_X6_status 0) [some (mr 7 20)] [] g = some (some (mi (g 7 20 1)), g) := (mEv_3 _ _ _ _).trans rfl
noncomputable def P_X6_status (c : mC) : (Option (Int32)) := (some (c 20 1))
theorem rr_X6_status (d : Nat) {X : mX} {g : mG} {c : mC} : mCall mD X (d + 1) 151 [mr 7 20] (mU g 7 c) = (wO (wI g 7 c)) (P_X6_status c) := by
  refine Eq.trans (mCall_eq (d := d + 0) rfl) ?_
  show mEv X (mCall mD X (d + 0)) 1 t_X6_status (mDrop t_X6_status 0) [some (mr 7 20)] [] (mU g 7 c) = _
  refine Eq.trans (e_X6_status_0) ?_
  try simp only [mU_same, mU_mU]
  all_goals rfl
theorem rr_X6_status_at (d : Nat) {X : mX} {g : mG} : mCall mD X (d + 1) 151 [mr 7 20] g = wO (wN g) (P_X6_status (g 7)) := by
  have h := rr_X6_status (X := X) d (g := g) (c := g 7)
  rw [mU_self] at h
  exact h.trans (wOI_self _ _ _)
theorem e_X6_refuse_0 {X : mX} {call : Nat → List mV → mG → mR} {g : mG} {x1 : Int32} : mEv X call 1 t_X6_refuse (mDrop t_X6_refuse 0) [some (mr 7 20), some (mi x1)] [] g = mEv X call 1 t_X6_refuse (mDrop t_X6_refuse 5) [some (mr 7 20), some (mi x1)] [] (mU g 7 (mP (g 7) 20 1 x1)) := (mEv_3 _ _ _ _).trans rfl
theorem e_X6_refuse_5 {X : mX} {call : Nat → List mV → mG → mR} {g : mG} {x1 : Int32} : mEv X call 1 t_X6_refuse (mDrop t_X6_refuse 5) [some (mr 7 20), some (mi x1)] [] g = some (some (mi (-1)), g) := (mEv_2 _ _ _ _).trans rfl
noncomputable def P_X6_refuse (c : mC) (x1 : Int32) : (Option (Int32 × mC)) := (some ((-1), (mP c 20 1 x1)))
theorem rr_X6_refuse (d : Nat) {X : mX} {g : mG} {x1 : Int32} {c : mC} : mCall mD X (d + 1) 152 [mr 7 20, mi x1] (mU g 7 c) = (wO (wW g 7)) (P_X6_refuse c x1) := by
  refine Eq.trans (mCall_eq (d := d + 0) rfl) ?_
  show mEv X (mCall mD X (d + 0)) 1 t_X6_refuse (mDrop t_X6_refuse 0) [some (mr 7 20), some (mi x1)] [] (mU g 7 c) = _
  refine Eq.trans (e_X6_refuse_0) ?_
  try simp only [mU_same, mU_mU]
  refine Eq.trans (e_X6_refuse_5) ?_
  try simp only [mU_same, mU_mU]
  all_goals rfl
theorem rr_X6_refuse_at (d : Nat) {X : mX} {g : mG} {x1 : Int32} : mCall mD X (d + 1) 152 [mr 7 20, mi x1] g = wO (wW g 7) (P_X6_refuse (g 7) x1) := by
  have h := rr_X6_refuse (X := X) d (g := g) (c := g 7) (x1 := x1)
  rw [mU_self] at h
  exact h
theorem e_X6_isSo_0 {X : mX} {call : Nat → List mV → mG → mR} {g : mG} {x1 : Int32} : mEv X call 2 t_X6_isSo (mDrop t_X6_isSo 0) [some (mr 7 20), some (mi x1)] [] g = mEv X call 2 t_X6_isSo (mDrop t_X6_isSo 5) [some (mr 7 20), some (mi x1)] [] (mU g 7 (mP (g 7) 20 1 x1)) := (mEv_3 _ _ _ _).trans rfl
theorem e_X6_isSo_5 {X : mX} {call : Nat → List mV → mG → mR} {g : mG} {x1 : Int32} : mEv X call 2 t_X6_isSo (mDrop t_X6_isSo 5) [some (mr 7 20), some (mi x1)] [] g = if x1 = 0 then mEv X call 2 t_X6_isSo (mDrop t_X6_isSo 9) [some (mr 7 20), some (mi x1)] [] g else mEv X call 2 t_X6_isSo (mDrop t_X6_isSo 13) [some (mr 7 20), some (mi x1)] [] g := (mEv_2 _ _ _ _).trans rfl
theorem e_X6_isSo_9 {X : mX} {call : Nat → List mV → mG → mR} {g : mG} {x1 : Int32} : mEv X call 2 t_X6_isSo (mDrop t_X6_isSo 9) [some (mr 7 20), some (mi x1)] [] g = mEv X call 2 t_X6_isSo (mDrop t_X6_isSo 14) [some (mr 7 20), some (mi x1)] [mi 1] g := (mEv_2 _ _ _ _).trans rfl
theorem e_X6_isSo_14 {X : mX} {call : Nat → List mV → mG → mR} {g : mG} {x1 s0 : Int32} : mEv X call 2 t_X6_isSo (mDrop t_X6_isSo 14) [some (mr 7 20), some (mi x1)] [mi s0] g = if (s0 : Int32) &&& 1 = s0 then some (some (mi s0), g) else none := (mEv_1 _ _ _ _).trans rfl
theorem e_X6_isSo_13 {X : mX} {call : Nat → List mV → mG → mR} {g : mG} {x1 : Int32} : mEv X call 2 t_X6_isSo (mDrop t_X6_isSo 13) [some (mr 7 20), some (mi x1)] [] g = mEv X call 2 t_X6_isSo (mDrop t_X6_isSo 14) [some (mr 7 20), some (mi x1)] [mi 0] g := (mEv_1 _ _ _ _).trans rfl
noncomputable def P_X6_isSo (c : mC) (x1 : Int32) : (Option (Int32 × mC)) := (if x1 = 0 then (some (1, (mP c 20 1 x1))) else (some (0, (mP c 20 1 x1))))
theorem rr_X6_isSo (d : Nat) {X : mX} {g : mG} {x1 : Int32} {c : mC} : mCall mD X (d + 1) 153 [mr 7 20, mi x1] (mU g 7 c) = (wO (wW g 7)) (P_X6_isSo c x1) := by
  refine Eq.trans (mCall_eq (d := d + 0) rfl) ?_
  show mEv X (mCall mD X (d + 0)) 2 t_X6_isSo (mDrop t_X6_isSo 0) [some (mr 7 20), some (mi x1)] [] (mU g 7 c) = _
  refine Eq.trans (e_X6_isSo_0) ?_
  try simp only [mU_same, mU_mU]
  refine Eq.trans (e_X6_isSo_5) ?_
  try simp only [mU_same, mU_mU]
  refine mw_ite (fun h1 => ?_) (fun h1 => ?_)
  · refine Eq.trans (e_X6_isSo_9) ?_
    try simp only [mU_same, mU_mU]
    refine Eq.trans (e_X6_isSo_14) ?_
    try simp only [mU_same, mU_mU]
    exact if_pos (by decide)
  · refine Eq.trans (e_X6_isSo_13) ?_
    try simp only [mU_same, mU_mU]
    refine Eq.trans (e_X6_isSo_14) ?_
    try simp only [mU_same, mU_mU]
    exact if_pos (by decide)
theorem rr_X6_isSo_at (d : Nat) {X : mX} {g : mG} {x1 : Int32} : mCall mD X (d + 1) 153 [mr 7 20, mi x1] g = wO (wW g 7) (P_X6_isSo (g 7) x1) := by
  have h := rr_X6_isSo (X := X) d (g := g) (c := g 7) (x1 := x1)
  rw [mU_self] at h
  exact h
theorem e_X6_gives_0 {X : mX} {call : Nat → List mV → mG → mR} {g : mG} {x1 : Int32} : mEv X call 1 t_X6_gives (mDrop t_X6_gives 0) [some (mr 7 20), some (mi x1)] [] g = mEv X call 1 t_X6_gives (mDrop t_X6_gives 5) [some (mr 7 20), some (mi x1)] [] (mU g 7 (mP (g 7) 20 1 0)) := (mEv_3 _ _ _ _).trans rfl
theorem e_X6_gives_5 {X : mX} {call : Nat → List mV → mG → mR} {g : mG} {x1 : Int32} : mEv X call 1 t_X6_gives (mDrop t_X6_gives 5) [some (mr 7 20), some (mi x1)] [] g = some (some (mi x1), g) := (mEv_2 _ _ _ _).trans rfl
noncomputable def P_X6_gives (c : mC) (x1 : Int32) : (Option (Int32 × mC)) := (some (x1, (mP c 20 1 0)))
theorem rr_X6_gives (d : Nat) {X : mX} {g : mG} {x1 : Int32} {c : mC} : mCall mD X (d + 1) 154 [mr 7 20, mi x1] (mU g 7 c) = (wO (wW g 7)) (P_X6_gives c x1) := by
  refine Eq.trans (mCall_eq (d := d + 0) rfl) ?_
  show mEv X (mCall mD X (d + 0)) 1 t_X6_gives (mDrop t_X6_gives 0) [some (mr 7 20), some (mi x1)] [] (mU g 7 c) = _
  refine Eq.trans (e_X6_gives_0) ?_
  try simp only [mU_same, mU_mU]
  refine Eq.trans (e_X6_gives_5) ?_
  try simp only [mU_same, mU_mU]
  all_goals rfl
theorem rr_X6_gives_at (d : Nat) {X : mX} {g : mG} {x1 : Int32} : mCall mD X (d + 1) 154 [mr 7 20, mi x1] g = wO (wW g 7) (P_X6_gives (g 7) x1) := by
  have h := rr_X6_gives (X := X) d (g := g) (c := g 7) (x1 := x1)
  rw [mU_self] at h
  exact h
theorem e_X6_isFrom_0 {X : mX} {call : Nat → List mV → mG → mR} {g : mG} {x0 x1 x2 : Int32} : mEv X call 2 t_X6_isFrom (mDrop t_X6_isFrom 0) [some (mi x0), some (mi x1), some (mi x2)] [] g = if x0 < x1 then mEv X call 2 t_X6_isFrom (mDrop t_X6_isFrom 14) [some (mi x0), some (mi x1), some (mi x2)] [] g else mEv X call 2 t_X6_isFrom (mDrop t_X6_isFrom 5) [some (mi x0), some (mi x1), some (mi x2)] [] g := (mEv_3 _ _ _ _).trans rfl
theorem e_X6_isFrom_14 {X : mX} {call : Nat → List mV → mG → mR} {g : mG} {x0 x1 x2 : Int32} : mEv X call 2 t_X6_isFrom (mDrop t_X6_isFrom 14) [some (mi x0), some (mi x1), some (mi x2)] [] g = mEv X call 2 t_X6_isFrom (mDrop t_X6_isFrom 15) [some (mi x0), some (mi x1), some (mi x2)] [mi 0] g := (mEv_1 _ _ _ _).trans rfl
theorem e_X6_isFrom_15 {X : mX} {call : Nat → List mV → mG → mR} {g : mG} {x0 x1 x2 s0 : Int32} : mEv X call 2 t_X6_isFrom (mDrop t_X6_isFrom 15) [some (mi x0), some (mi x1), some (mi x2)] [mi s0] g = if (s0 : Int32) &&& 1 = s0 then some (some (mi s0), g) else none := (mEv_1 _ _ _ _).trans rfl
noncomputable def J_X6_isFrom_14  : (Int32) := 0
theorem rj_X6_isFrom_14 (d : Nat) {X : mX} {g : mG} {x0 x1 x2 : Int32} : mEv X (mCall mD X (d + 0)) 2 t_X6_isFrom (mDrop t_X6_isFrom 14) [some (mi x0), some (mi x1), some (mi x2)] [] g = (wN g) (J_X6_isFrom_14 ) := by
  refine Eq.trans (e_X6_isFrom_14) ?_
  refine Eq.trans (e_X6_isFrom_15) ?_
  exact if_pos (by decide)
theorem e_X6_isFrom_5 {X : mX} {call : Nat → List mV → mG → mR} {g : mG} {x0 x1 x2 : Int32} : mEv X call 2 t_X6_isFrom (mDrop t_X6_isFrom 5) [some (mi x0), some (mi x1), some (mi x2)] [] g = if x2 < x0 then mEv X call 2 t_X6_isFrom (mDrop t_X6_isFrom 14) [some (mi x0), some (mi x1), some (mi x2)] [] g else mEv X call 2 t_X6_isFrom (mDrop t_X6_isFrom 10) [some (mi x0), some (mi x1), some (mi x2)] [] g := (mEv_3 _ _ _ _).trans rfl
theorem e_X6_isFrom_10 {X : mX} {call : Nat → List mV → mG → mR} {g : mG} {x0 x1 x2 : Int32} : mEv X call 2 t_X6_isFrom (mDrop t_X6_isFrom 10) [some (mi x0), some (mi x1), some (mi x2)] [] g = mEv X call 2 t_X6_isFrom (mDrop t_X6_isFrom 15) [some (mi x0), some (mi x1), some (mi x2)] [mi 1] g := (mEv_2 _ _ _ _).trans rfl
noncomputable def P_X6_isFrom (x0 : Int32) (x1 : Int32) (x2 : Int32) : (Int32) := (if x0 < x1 then (J_X6_isFrom_14 ) else (if x2 < x0 then (J_X6_isFrom_14 ) else 1))
theorem rr_X6_isFrom (d : Nat) {X : mX} {g : mG} {x0 x1 x2 : Int32} : mCall mD X (d + 1) 155 [mi x0, mi x1, mi x2] g = (wN g) (P_X6_isFrom x0 x1 x2) := by
  refine Eq.trans (mCall_eq (d := d + 0) rfl) ?_
  show mEv X (mCall mD X (d + 0)) 2 t_X6_isFrom (mDrop t_X6_isFrom 0) [some (mi x0), some (mi x1), some (mi x2)] [] g = _
  refine Eq.trans (e_X6_isFrom_0) ?_
  refine mw_ite (fun h2 => ?_) (fun h2 => ?_)
  · exact rj_X6_isFrom_14 d
  · refine Eq.trans (e_X6_isFrom_5) ?_
    refine mw_ite (fun h1 => ?_) (fun h1 => ?_)
    · exact rj_X6_isFrom_14 d
    · refine Eq.trans (e_X6_isFrom_10) ?_
      refine Eq.trans (e_X6_isFrom_15) ?_
      exact if_pos (by decide)
theorem e_X6_has_0 {X : mX} {call : Nat → List mV → mG → mR} {g : mG} {x0 x1 : Int32} : mEv X call 2 t_X6_has (mDrop t_X6_has 0) [some (mi x0), some (mi x1)] [] g = if ((x0 >>> (x1 &&& 31)) &&& 1) = 1 then mEv X call 2 t_X6_has (mDrop t_X6_has 9) [some (mi x0), some (mi x1)] [] g else mEv X call 2 t_X6_has (mDrop t_X6_has 13) [some (mi x0), some (mi x1)] [] g := (mEv_7 _ _ _ _).trans rfl
theorem e_X6_has_9 {X : mX} {call : Nat → List mV → mG → mR} {g : mG} {x0 x1 : Int32} : mEv X call 2 t_X6_has (mDrop t_X6_has 9) [some (mi x0), some (mi x1)] [] g = mEv X call 2 t_X6_has (mDrop t_X6_has 14) [some (mi x0), some (mi x1)] [mi 1] g := (mEv_2 _ _ _ _).trans rfl
theorem e_X6_has_14 {X : mX} {call : Nat → List mV → mG → mR} {g : mG} {x0 x1 s0 : Int32} : mEv X call 2 t_X6_has (mDrop t_X6_has 14) [some (mi x0), some (mi x1)] [mi s0] g = if (s0 : Int32) &&& 1 = s0 then some (some (mi s0), g) else none := (mEv_1 _ _ _ _).trans rfl
theorem e_X6_has_13 {X : mX} {call : Nat → List mV → mG → mR} {g : mG} {x0 x1 : Int32} : mEv X call 2 t_X6_has (mDrop t_X6_has 13) [some (mi x0), some (mi x1)] [] g = mEv X call 2 t_X6_has (mDrop t_X6_has 14) [some (mi x0), some (mi x1)] [mi 0] g := (mEv_1 _ _ _ _).trans rfl
noncomputable def P_X6_has (x0 : Int32) (x1 : Int32) : (Int32) := (if ((x0 >>> (x1 &&& 31)) &&& 1) = 1 then 1 else 0)
theorem rr_X6_has (d : Nat) {X : mX} {g : mG} {x0 x1 : Int32} : mCall mD X (d + 1) 156 [mi x0, mi x1] g = (wN g) (P_X6_has x0 x1) := by
  refine Eq.trans (mCall_eq (d := d + 0) rfl) ?_
  show mEv X (mCall mD X (d + 0)) 2 t_X6_has (mDrop t_X6_has 0) [some (mi x0), some (mi x1)] [] g = _
  refine Eq.trans (e_X6_has_0) ?_
  refine mw_ite (fun h1 => ?_) (fun h1 => ?_)
  · refine Eq.trans (e_X6_has_9) ?_
    refine Eq.trans (e_X6_has_14) ?_
    exact if_pos (by decide)
  · refine Eq.trans (e_X6_has_13) ?_
    refine Eq.trans (e_X6_has_14) ?_
    exact if_pos (by decide)
theorem e_X6_left_0 {X : mX} {call : Nat → List mV → mG → mR} {g : mG} {x0 x1 : Int32} : mEv X call 1 t_X6_left (mDrop t_X6_left 0) [some (mi x0), some (mi x1), none] [] g = if (x1 : Int32) = 0 then none else mEv X call 1 t_X6_left (mDrop t_X6_left 3) [some (mi x0), some (mi x1), none] [mi (x0 - x0 / x1 * x1)] g := (mEv_3 _ _ _ _).trans rfl
theorem e_X6_left_3 {X : mX} {call : Nat → List mV → mG → mR} {g : mG} {x0 x1 s0 : Int32} : mEv X call 1 t_X6_left (mDrop t_X6_left 3) [some (mi x0), some (mi x1), none] [mi s0] g = if 0 ≤ s0 then mEv X call 1 t_X6_left (mDrop t_X6_left 14) [some (mi x0), some (mi x1), some (mi s0)] [] g else mEv X call 1 t_X6_left (mDrop t_X6_left 8) [some (mi x0), some (mi x1), some (mi s0)] [] g := (mEv_3 _ _ _ _).trans rfl
theorem e_X6_left_14 {X : mX} {call : Nat → List mV → mG → mR} {g : mG} {x0 x1 x2 : Int32} : mEv X call 1 t_X6_left (mDrop t_X6_left 14) [some (mi x0), some (mi x1), some (mi x2)] [] g = mEv X call 1 t_X6_left (mDrop t_X6_left 15) [some (mi x0), some (mi x1), some (mi x2)] [mi x2] g := (mEv_1 _ _ _ _).trans rfl
theorem e_X6_left_15 {X : mX} {call : Nat → List mV → mG → mR} {g : mG} {x0 x1 x2 s0 : Int32} : mEv X call 1 t_X6_left (mDrop t_X6_left 15) [some (mi x0), some (mi x1), some (mi x2)] [mi s0] g = some (some (mi s0), g) := (mEv_1 _ _ _ _).trans rfl
theorem e_X6_left_8 {X : mX} {call : Nat → List mV → mG → mR} {g : mG} {x0 x1 x2 : Int32} : mEv X call 1 t_X6_left (mDrop t_X6_left 8) [some (mi x0), some (mi x1), some (mi x2)] [] g = mEv X call 1 t_X6_left (mDrop t_X6_left 15) [some (mi x0), some (mi x1), some (mi x2)] [mi (x2 + x1)] g := (mEv_4 _ _ _ _).trans rfl
noncomputable def P_X6_left (x0 : Int32) (x1 : Int32) : (Option (Int32)) := (if (x1 : Int32) = 0 then none else (if 0 ≤ (x0 - x0 / x1 * x1) then (some (x0 - x0 / x1 * x1)) else (some ((x0 - x0 / x1 * x1) + x1))))
theorem rr_X6_left (d : Nat) {X : mX} {g : mG} {x0 x1 : Int32} : mCall mD X (d + 1) 157 [mi x0, mi x1] g = (wO (wN g)) (P_X6_left x0 x1) := by
  refine Eq.trans (mCall_eq (d := d + 0) rfl) ?_
  show mEv X (mCall mD X (d + 0)) 1 t_X6_left (mDrop t_X6_left 0) [some (mi x0), some (mi x1), none] [] g = _
  refine Eq.trans (e_X6_left_0) ?_
  refine mw_ite (fun _ => rfl) (fun _ => ?_)
  refine Eq.trans (e_X6_left_3) ?_
  refine mw_ite (fun h1 => ?_) (fun h1 => ?_)
  · refine Eq.trans (e_X6_left_14) ?_
    refine Eq.trans (e_X6_left_15) ?_
    all_goals rfl
  · refine Eq.trans (e_X6_left_8) ?_
    refine Eq.trans (e_X6_left_15) ?_
    all_goals rfl
theorem e_X6_of_0 {X : mX} {call : Nat → List mV → mG → mR} {g : mG} {x1 : Int32} : mEv X call 1 t_X6_of (mDrop t_X6_of 0) [some (mr 7 20), some (mi x1)] [] g = if (x1 : Int32) < 0 ∨ 1440 ≤ (x1 : Int32).toNatClampNeg then none else mEv X call 1 t_X6_of (mDrop t_X6_of 6) [some (mr 7 20), some (mi x1)] [mi (g 7 21 (x1).toNatClampNeg)] g := (mEv_4 _ _ _ _).trans rfl
theorem e_X6_of_6 {X : mX} {call : Nat → List mV → mG → mR} {g : mG} {x1 s0 : Int32} : mEv X call 1 t_X6_of (mDrop t_X6_of 6) [some (mr 7 20), some (mi x1)] [mi s0] g = some (some (mi s0), g) := (mEv_1 _ _ _ _).trans rfl
noncomputable def P_X6_of (c : mC) (x1 : Int32) : (Option (Int32)) := (if (x1 : Int32) < 0 ∨ 1440 ≤ (x1 : Int32).toNatClampNeg then none else (some (c 21 (x1).toNatClampNeg)))
theorem rr_X6_of (d : Nat) {X : mX} {g : mG} {x1 : Int32} {c : mC} : mCall mD X (d + 1) 158 [mr 7 20, mi x1] (mU g 7 c) = (wO (wI g 7 c)) (P_X6_of c x1) := by
  refine Eq.trans (mCall_eq (d := d + 0) rfl) ?_
  show mEv X (mCall mD X (d + 0)) 1 t_X6_of (mDrop t_X6_of 0) [some (mr 7 20), some (mi x1)] [] (mU g 7 c) = _
  refine Eq.trans (e_X6_of_0) ?_
  try simp only [mU_same, mU_mU]
  refine mw_ite (fun _ => rfl) (fun _ => ?_)
  refine Eq.trans (e_X6_of_6) ?_
  try simp only [mU_same, mU_mU]
  all_goals rfl
theorem rr_X6_of_at (d : Nat) {X : mX} {g : mG} {x1 : Int32} : mCall mD X (d + 1) 158 [mr 7 20, mi x1] g = wO (wN g) (P_X6_of (g 7) x1) := by
  have h := rr_X6_of (X := X) d (g := g) (c := g 7) (x1 := x1)
  rw [mU_self] at h
  exact h.trans (wOI_self _ _ _)
theorem e_X6_puts_0 {X : mX} {call : Nat → List mV → mG → mR} {g : mG} {x1 x2 : Int32} : mEv X call 0 t_X6_puts (mDrop t_X6_puts 0) [some (mr 7 20), some (mi x1), some (mi x2)] [] g = if (x1 : Int32) < 0 ∨ 1440 ≤ (x1 : Int32).toNatClampNeg then none else mEv X call 0 t_X6_puts (mDrop t_X6_puts 7) [some (mr 7 20), some (mi x1), some (mi x2)] [] (mU g 7 (mP (g 7) 21 (x1).toNatClampNeg x2)) := (mEv_5 _ _ _ _).trans rfl
theorem e_X6_puts_7 {X : mX} {call : Nat → List mV → mG → mR} {g : mG} {x1 x2 : Int32} : mEv X call 0 t_X6_puts (mDrop t_X6_puts 7) [some (mr 7 20), some (mi x1), some (mi x2)] [] g = some (none, g) := (mEv_1 _ _ _ _).trans rfl
noncomputable def P_X6_puts (c : mC) (x1 : Int32) (x2 : Int32) : (Option (mC)) := (if (x1 : Int32) < 0 ∨ 1440 ≤ (x1 : Int32).toNatClampNeg then none else (some (mP c 21 (x1).toNatClampNeg x2)))
theorem rr_X6_puts (d : Nat) {X : mX} {g : mG} {x1 x2 : Int32} {c : mC} : mCall mD X (d + 1) 159 [mr 7 20, mi x1, mi x2] (mU g 7 c) = (wO (wV g 7)) (P_X6_puts c x1 x2) := by
  refine Eq.trans (mCall_eq (d := d + 0) rfl) ?_
  show mEv X (mCall mD X (d + 0)) 0 t_X6_puts (mDrop t_X6_puts 0) [some (mr 7 20), some (mi x1), some (mi x2)] [] (mU g 7 c) = _
  refine Eq.trans (e_X6_puts_0) ?_
  try simp only [mU_same, mU_mU]
  refine mw_ite (fun _ => rfl) (fun _ => ?_)
  refine Eq.trans (e_X6_puts_7) ?_
  try simp only [mU_same, mU_mU]
  all_goals rfl
theorem rr_X6_puts_at (d : Nat) {X : mX} {g : mG} {x1 x2 : Int32} : mCall mD X (d + 1) 159 [mr 7 20, mi x1, mi x2] g = wO (wV g 7) (P_X6_puts (g 7) x1 x2) := by
  have h := rr_X6_puts (X := X) d (g := g) (c := g 7) (x1 := x1) (x2 := x2)
  rw [mU_self] at h
  exact h
theorem e_X6_adds_0 {X : mX} {call : Nat → List mV → mG → mR} {g : mG} {x1 x2 : Int32} : mEv X call 0 t_X6_adds (mDrop t_X6_adds 0) [some (mr 7 20), some (mi x1), some (mi x2)] [] g = if (x1 : Int32) < 0 ∨ 1440 ≤ (x1 : Int32).toNatClampNeg then none else mEv X call 0 t_X6_adds (mDrop t_X6_adds 7) [some (mr 7 20), some (mi x1), some (mi x2)] [mi (g 7 21 (x1).toNatClampNeg), mi x1, mr 7 21] g := (mEv_5 _ _ _ _).trans rfl
theorem e_X6_adds_7 {X : mX} {call : Nat → List mV → mG → mR} {g : mG} {x1 x2 s1 s2 : Int32} : mEv X call 0 t_X6_adds (mDrop t_X6_adds 7) [some (mr 7 20), some (mi x1), some (mi x2)] [mi s2, mi s1, mr 7 21] g = if (s1 : Int32) < 0 ∨ 1440 ≤ (s1 : Int32).toNatClampNeg then none else mEv X call 0 t_X6_adds (mDrop t_X6_adds 10) [some (mr 7 20), some (mi x1), some (mi x2)] [] (mU g 7 (mP (g 7) 21 (s1).toNatClampNeg (s2 + x2))) := (mEv_3 _ _ _ _).trans rfl
theorem e_X6_adds_10 {X : mX} {call : Nat → List mV → mG → mR} {g : mG} {x1 x2 : Int32} : mEv X call 0 t_X6_adds (mDrop t_X6_adds 10) [some (mr 7 20), some (mi x1), some (mi x2)] [] g = some (none, g) := (mEv_1 _ _ _ _).trans rfl
noncomputable def P_X6_adds (c : mC) (x1 : Int32) (x2 : Int32) : (Option (mC)) := (if (x1 : Int32) < 0 ∨ 1440 ≤ (x1 : Int32).toNatClampNeg then none else (if (x1 : Int32) < 0 ∨ 1440 ≤ (x1 : Int32).toNatClampNeg then none else (some (mP c 21 (x1).toNatClampNeg ((c 21 (x1).toNatClampNeg) + x2)))))
theorem rr_X6_adds (d : Nat) {X : mX} {g : mG} {x1 x2 : Int32} {c : mC} : mCall mD X (d + 1) 160 [mr 7 20, mi x1, mi x2] (mU g 7 c) = (wO (wV g 7)) (P_X6_adds c x1 x2) := by
  refine Eq.trans (mCall_eq (d := d + 0) rfl) ?_
  show mEv X (mCall mD X (d + 0)) 0 t_X6_adds (mDrop t_X6_adds 0) [some (mr 7 20), some (mi x1), some (mi x2)] [] (mU g 7 c) = _
  refine Eq.trans (e_X6_adds_0) ?_
  try simp only [mU_same, mU_mU]
  refine mw_ite (fun _ => rfl) (fun _ => ?_)
  refine Eq.trans (e_X6_adds_7) ?_
  try simp only [mU_same, mU_mU]
  refine mw_ite (fun _ => rfl) (fun _ => ?_)
  refine Eq.trans (e_X6_adds_10) ?_
  try simp only [mU_same, mU_mU]
  all_goals rfl
theorem rr_X6_adds_at (d : Nat) {X : mX} {g : mG} {x1 x2 : Int32} : mCall mD X (d + 1) 160 [mr 7 20, mi x1, mi x2] g = wO (wV g 7) (P_X6_adds (g 7) x1 x2) := by
  have h := rr_X6_adds (X := X) d (g := g) (c := g 7) (x1 := x1) (x2 := x2)
  rw [mU_self] at h
  exact h
theorem e_X6_copies_0 {X : mX} {call : Nat → List mV → mG → mR} {g : mG} {x1 x2 : Int32} : mEv X call 0 t_X6_copies (mDrop t_X6_copies 0) [some (mr 7 20), some (mi x1), some (mi x2), none] [] g = mEv X call 0 t_X6_copies (mDrop t_X6_copies 2) [some (mr 7 20), some (mi x1), some (mi x2), some (mi 0)] [] g := (mEv_2 _ _ _ _).trans rfl
theorem e_X6_copies_2 {X : mX} {call : Nat → List mV → mG → mR} {g : mG} {x1 x2 x3 : Int32} : mEv X call 0 t_X6_copies (mDrop t_X6_copies 2) [some (mr 7 20), some (mi x1), some (mi x2), some (mi x3)] [] g = if 288 ≤ x3 then mEv X call 0 t_X6_copies (mDrop t_X6_copies 31) [some (mr 7 20), some (mi x1), some (mi x2), some (mi x3)] [] g else mEv X call 0 t_X6_copies (mDrop t_X6_copies 9) [some (mr 7 20), some (mi x1), some (mi x2), some (mi x3)] [] g := (mEv_3 _ _ _ _).trans rfl
theorem e_X6_copies_31 {X : mX} {call : Nat → List mV → mG → mR} {g : mG} {x1 x2 x3 : Int32} : mEv X call 0 t_X6_copies (mDrop t_X6_copies 31) [some (mr 7 20), some (mi x1), some (mi x2), some (mi x3)] [] g = some (none, g) := (mEv_1 _ _ _ _).trans rfl
theorem e_X6_copies_9 {X : mX} {call : Nat → List mV → mG → mR} {g : mG} {x1 x2 x3 : Int32} : mEv X call 0 t_X6_copies (mDrop t_X6_copies 9) [some (mr 7 20), some (mi x1), some (mi x2), some (mi x3)] [] g = if ((x1 + x3) : Int32) < 0 ∨ 1440 ≤ ((x1 + x3) : Int32).toNatClampNeg then none else mEv X call 0 t_X6_copies (mDrop t_X6_copies 24) [some (mr 7 20), some (mi x1), some (mi x2), some (mi x3)] [mi (g 7 21 ((x1 + x3)).toNatClampNeg), mi (x2 + x3), mr 7 21] g := (mEv_11 _ _ _ _).trans rfl
theorem e_X6_copies_24 {X : mX} {call : Nat → List mV → mG → mR} {g : mG} {x1 x2 x3 s1 s2 : Int32} : mEv X call 0 t_X6_copies (mDrop t_X6_copies 24) [some (mr 7 20), some (mi x1), some (mi x2), some (mi x3)] [mi s2, mi s1, mr 7 21] g = if (s1 : Int32) < 0 ∨ 1440 ≤ (s1 : Int32).toNatClampNeg then none else mEv X call 0 t_X6_copies (mDrop t_X6_copies 25) [some (mr 7 20), some (mi x1), some (mi x2), some (mi x3)] [] (mU g 7 (mP (g 7) 21 (s1).toNatClampNeg s2)) := (mEv_1 _ _ _ _).trans rfl
theorem e_X6_copies_25 {X : mX} {call : Nat → List mV → mG → mR} {g : mG} {x1 x2 x3 : Int32} : mEv X call 0 t_X6_copies (mDrop t_X6_copies 25) [some (mr 7 20), some (mi x1), some (mi x2), some (mi x3)] [] g = mEv X call 0 t_X6_copies (mDrop t_X6_copies 2) [some (mr 7 20), some (mi x1), some (mi x2), some (mi (x3 + 1))] [] g := (mEv_2 _ _ _ _).trans rfl
noncomputable def B_X6_copies_2 (x1 : Int32) (x2 : Int32) : (Int32 × mC) → (Int32 × mC) ⊕ (Option (mC)) := fun s => match s with | (x3, c) => (if 288 ≤ x3 then (.inr (some c)) else (if ((x1 + x3) : Int32) < 0 ∨ 1440 ≤ ((x1 + x3) : Int32).toNatClampNeg then (.inr none) else (if ((x2 + x3) : Int32) < 0 ∨ 1440 ≤ ((x2 + x3) : Int32).toNatClampNeg then (.inr none) else (.inl ((x3 + 1), (mP c 21 ((x2 + x3)).toNatClampNeg (c 21 ((x1 + x3)).toNatClampNeg)))))))
set_option maxRecDepth 100000 in
theorem tm_X6_copies_2 {x1 : Int32} {x2 : Int32} : mTm (B_X6_copies_2 x1 x2) := by
  refine ⟨fun s => match s with | (x3, c) => mMx x3, fun s s2 h => ?_⟩
  obtain ⟨x3, c⟩ := s
  simp only [B_X6_copies_2, mBd, mBo] at h
  (repeat' split at h) <;> first | (have h2 := Sum.inl.inj h; subst h2; dsimp only; first | exact mtm_max (by assumption) | exact mtm_lt (by assumption)) | (cases h; done)
theorem rl_X6_copies_2 (d : Nat) {X : mX} {g : mG} {x1 x2 x3 : Int32} {c : mC} : mEv X (mCall mD X (d + 0)) 0 t_X6_copies (mDrop t_X6_copies 2) [some (mr 7 20), some (mi x1), some (mi x2), some (mi x3)] [] (mU g 7 c) = (wO (wV g 7)) (mWh none (B_X6_copies_2 x1 x2) (x3, c)) := by
  refine mWh_ev (B := (B_X6_copies_2 x1 x2)) (ev := fun s : (Int32 × mC) => match s with | (x3, c) => mEv X (mCall mD X (d + 0)) 0 t_X6_copies (mDrop t_X6_copies 2) [some (mr 7 20), some (mi x1), some (mi x2), some (mi x3)] [] (mU g 7 c)) (w := (wO (wV g 7))) (tm_X6_copies_2) ?_ (x3, c)
  rintro ⟨x3, c⟩
  show mEv X (mCall mD X (d + 0)) 0 t_X6_copies (mDrop t_X6_copies 2) [some (mr 7 20), some (mi x1), some (mi x2), some (mi x3)] [] (mU g 7 c) = wB (fun s : (Int32 × mC) => match s with | (x3, c) => mEv X (mCall mD X (d + 0)) 0 t_X6_copies (mDrop t_X6_copies 2) [some (mr 7 20), some (mi x1), some (mi x2), some (mi x3)] [] (mU g 7 c)) (wO (wV g 7)) (B_X6_copies_2 x1 x2 (x3, c))
  refine Eq.trans (e_X6_copies_2) ?_
  try simp only [mU_same, mU_mU]
  refine mw_ite (fun h1 => ?_) (fun h1 => ?_)
  · refine mw_inr ?_
    refine Eq.trans (e_X6_copies_31) ?_
    try simp only [mU_same, mU_mU]
    all_goals rfl
  · refine Eq.trans (e_X6_copies_9) ?_
    try simp only [mU_same, mU_mU]
    refine mw_ite (fun _ => rfl) (fun _ => ?_)
    refine Eq.trans (e_X6_copies_24) ?_
    try simp only [mU_same, mU_mU]
    refine mw_ite (fun _ => rfl) (fun _ => ?_)
    refine Eq.trans (e_X6_copies_25) ?_
    try simp only [mU_same, mU_mU]
    exact mw_inl rfl
noncomputable def P_X6_copies (c : mC) (x1 : Int32) (x2 : Int32) : (Option (mC)) := (mWh none (B_X6_copies_2 x1 x2) (0, c))
theorem rr_X6_copies (d : Nat) {X : mX} {g : mG} {x1 x2 : Int32} {c : mC} : mCall mD X (d + 1) 161 [mr 7 20, mi x1, mi x2] (mU g 7 c) = (wO (wV g 7)) (P_X6_copies c x1 x2) := by
  refine Eq.trans (mCall_eq (d := d + 0) rfl) ?_
  show mEv X (mCall mD X (d + 0)) 0 t_X6_copies (mDrop t_X6_copies 0) [some (mr 7 20), some (mi x1), some (mi x2), none] [] (mU g 7 c) = _
  refine Eq.trans (e_X6_copies_0) ?_
  try simp only [mU_same, mU_mU]
  exact rl_X6_copies_2 d
theorem rr_X6_copies_at (d : Nat) {X : mX} {g : mG} {x1 x2 : Int32} : mCall mD X (d + 1) 161 [mr 7 20, mi x1, mi x2] g = wO (wV g 7) (P_X6_copies (g 7) x1 x2) := by
  have h := rr_X6_copies (X := X) d (g := g) (c := g 7) (x1 := x1) (x2 := x2)
  rw [mU_self] at h
  exact h
theorem e_X6_ring_0 {X : mX} {call : Nat → List mV → mG → mR} {g : mG} {x0 : Int32} : mEv X call 1 t_X6_ring (mDrop t_X6_ring 0) [some (mi x0)] [] g = some (some (mi (16 + (8 * x0))), g) := (mEv_6 _ _ _ _).trans rfl
noncomputable def P_X6_ring (x0 : Int32) : (Int32) := (16 + (8 * x0))
theorem rr_X6_ring (d : Nat) {X : mX} {g : mG} {x0 : Int32} : mCall mD X (d + 1) 162 [mi x0] g = (wN g) (P_X6_ring x0) := by
  refine Eq.trans (mCall_eq (d := d + 0) rfl) ?_
  show mEv X (mCall mD X (d + 0)) 1 t_X6_ring (mDrop t_X6_ring 0) [some (mi x0)] [] g = _
  refine Eq.trans (e_X6_ring_0) ?_
  all_goals rfl
theorem e_X6_ofRing_0 {X : mX} {call : Nat → List mV → mG → mR} {g : mG} {x1 x2 : Int32} : mEv X call 1 t_X6_ofRing (mDrop t_X6_ofRing 0) [some (mr 7 20), some (mi x1), some (mi x2)] [] g = mAns (mEv X call 1 t_X6_ofRing) (mDrop t_X6_ofRing 5) [some (mr 7 20), some (mi x1), some (mi x2)] [mr 7 20] (call 162 [mi x1] g) := (mEv_3 _ _ _ _).trans rfl
theorem e_X6_ofRing_5 {X : mX} {call : Nat → List mV → mG → mR} {g : mG} {x1 x2 s1 : Int32} : mEv X call 1 t_X6_ofRing (mDrop t_X6_ofRing 5) [some (mr 7 20), some (mi x1), some (mi x2)] [mi s1, mr 7 20] g = mAns (mEv X call 1 t_X6_ofRing) (mDrop t_X6_ofRing 10) [some (mr 7 20), some (mi x1), some (mi x2)] [] (call 158 [mr 7 20, mi (s1 + x2)] g) := (mEv_3 _ _ _ _).trans rfl
theorem e_X6_ofRing_10 {X : mX} {call : Nat → List mV → mG → mR} {g : mG} {x1 x2 s0 : Int32} : mEv X call 1 t_X6_ofRing (mDrop t_X6_ofRing 10) [some (mr 7 20), some (mi x1), some (mi x2)] [mi s0] g = some (some (mi s0), g) := (mEv_1 _ _ _ _).trans rfl
noncomputable def P_X6_ofRing (c : mC) (x1 : Int32) (x2 : Int32) : (Option (Int32)) := (mBd (α := Int32) (P_X6_ring x1) (fun v1 => (mBo (α := Int32) none (P_X6_of c (v1 + x2)) (fun v2 => (some v2)))))
theorem rr_X6_ofRing (d : Nat) {X : mX} {g : mG} {x1 x2 : Int32} {c : mC} : mCall mD X (d + 2) 163 [mr 7 20, mi x1, mi x2] (mU g 7 c) = (wO (wI g 7 c)) (P_X6_ofRing c x1 x2) := by
  refine Eq.trans (mCall_eq (d := d + 1) rfl) ?_
  show mEv X (mCall mD X (d + 1)) 1 t_X6_ofRing (mDrop t_X6_ofRing 0) [some (mr 7 20), some (mi x1), some (mi x2)] [] (mU g 7 c) = _
  refine Eq.trans (e_X6_ofRing_0) ?_
  try simp only [mU_same, mU_mU]
  refine mw_cI (rr_X6_ring d) (fun v1 => ?_)
  refine Eq.trans (e_X6_ofRing_5) ?_
  try simp only [mU_same, mU_mU]
  refine mw_oI ?_ (rr_X6_of d) (fun v2 => ?_)
  · rfl
  refine Eq.trans (e_X6_ofRing_10) ?_
  try simp only [mU_same, mU_mU]
  all_goals rfl
theorem rr_X6_ofRing_at (d : Nat) {X : mX} {g : mG} {x1 x2 : Int32} : mCall mD X (d + 2) 163 [mr 7 20, mi x1, mi x2] g = wO (wN g) (P_X6_ofRing (g 7) x1 x2) := by
  have h := rr_X6_ofRing (X := X) d (g := g) (c := g 7) (x1 := x1) (x2 := x2)
  rw [mU_self] at h
  exact h.trans (wOI_self _ _ _)
theorem e_X6_putsRing_0 {X : mX} {call : Nat → List mV → mG → mR} {g : mG} {x1 x2 x3 : Int32} : mEv X call 0 t_X6_putsRing (mDrop t_X6_putsRing 0) [some (mr 7 20), some (mi x1), some (mi x2), some (mi x3)] [] g = mAns (mEv X call 0 t_X6_putsRing) (mDrop t_X6_putsRing 5) [some (mr 7 20), some (mi x1), some (mi x2), some (mi x3)] [mr 7 20] (call 162 [mi x1] g) := (mEv_3 _ _ _ _).trans rfl
theorem e_X6_putsRing_5 {X : mX} {call : Nat → List mV → mG → mR} {g : mG} {x1 x2 x3 s1 : Int32} : mEv X call 0 t_X6_putsRing (mDrop t_X6_putsRing 5) [some (mr 7 20), some (mi x1), some (mi x2), some (mi x3)] [mi s1, mr 7 20] g = mAns (mEv X call 0 t_X6_putsRing) (mDrop t_X6_putsRing 11) [some (mr 7 20), some (mi x1), some (mi x2), some (mi x3)] [] (call 159 [mr 7 20, mi (s1 + x2), mi x3] g) := (mEv_4 _ _ _ _).trans rfl
theorem e_X6_putsRing_11 {X : mX} {call : Nat → List mV → mG → mR} {g : mG} {x1 x2 x3 : Int32} : mEv X call 0 t_X6_putsRing (mDrop t_X6_putsRing 11) [some (mr 7 20), some (mi x1), some (mi x2), some (mi x3)] [] g = some (none, g) := (mEv_1 _ _ _ _).trans rfl
noncomputable def P_X6_putsRing (c : mC) (x1 : Int32) (x2 : Int32) (x3 : Int32) : (Option (mC)) := (mBd (α := Int32) (P_X6_ring x1) (fun v1 => (mBo (α := mC) none (P_X6_puts c (v1 + x2) x3) (fun c2 => (some c2)))))
theorem rr_X6_putsRing (d : Nat) {X : mX} {g : mG} {x1 x2 x3 : Int32} {c : mC} : mCall mD X (d + 2) 164 [mr 7 20, mi x1, mi x2, mi x3] (mU g 7 c) = (wO (wV g 7)) (P_X6_putsRing c x1 x2 x3) := by
  refine Eq.trans (mCall_eq (d := d + 1) rfl) ?_
  show mEv X (mCall mD X (d + 1)) 0 t_X6_putsRing (mDrop t_X6_putsRing 0) [some (mr 7 20), some (mi x1), some (mi x2), some (mi x3)] [] (mU g 7 c) = _
  refine Eq.trans (e_X6_putsRing_0) ?_
  try simp only [mU_same, mU_mU]
  refine mw_cI (rr_X6_ring d) (fun v1 => ?_)
  refine Eq.trans (e_X6_putsRing_5) ?_
  try simp only [mU_same, mU_mU]
  refine mw_oV ?_ (rr_X6_puts d) (fun c2 => ?_)
  · rfl
  refine Eq.trans (e_X6_putsRing_11) ?_
  try simp only [mU_same, mU_mU]
  all_goals rfl
theorem rr_X6_putsRing_at (d : Nat) {X : mX} {g : mG} {x1 x2 x3 : Int32} : mCall mD X (d + 2) 164 [mr 7 20, mi x1, mi x2, mi x3] g = wO (wV g 7) (P_X6_putsRing (g 7) x1 x2 x3) := by
  have h := rr_X6_putsRing (X := X) d (g := g) (c := g 7) (x1 := x1) (x2 := x2) (x3 := x3)
  rw [mU_self] at h
  exact h
theorem e_X6_ofPhase_0 {X : mX} {call : Nat → List mV → mG → mR} {g : mG} {x1 x2 : Int32} : mEv X call 1 t_X6_ofPhase (mDrop t_X6_ofPhase 0) [some (mr 7 20), some (mi x1), some (mi x2)] [] g = mAns (mEv X call 1 t_X6_ofPhase) (mDrop t_X6_ofPhase 13) [some (mr 7 20), some (mi x1), some (mi x2)] [] (call 158 [mr 7 20, mi (((32 : Int32) + ((18 : Int32) * x1)) + x2)] g) := (mEv_9 _ _ _ _).trans rfl
theorem e_X6_ofPhase_13 {X : mX} {call : Nat → List mV → mG → mR} {g : mG} {x1 x2 s0 : Int32} : mEv X call 1 t_X6_ofPhase (mDrop t_X6_ofPhase 13) [some (mr 7 20), some (mi x1), some (mi x2)] [mi s0] g = some (some (mi s0), g) := (mEv_1 _ _ _ _).trans rfl
noncomputable def P_X6_ofPhase (c : mC) (x1 : Int32) (x2 : Int32) : (Option (Int32)) := (mBo (α := Int32) none (P_X6_of c (((32 : Int32) + ((18 : Int32) * x1)) + x2)) (fun v1 => (some v1)))
theorem rr_X6_ofPhase (d : Nat) {X : mX} {g : mG} {x1 x2 : Int32} {c : mC} : mCall mD X (d + 2) 165 [mr 7 20, mi x1, mi x2] (mU g 7 c) = (wO (wI g 7 c)) (P_X6_ofPhase c x1 x2) := by
  refine Eq.trans (mCall_eq (d := d + 1) rfl) ?_
  show mEv X (mCall mD X (d + 1)) 1 t_X6_ofPhase (mDrop t_X6_ofPhase 0) [some (mr 7 20), some (mi x1), some (mi x2)] [] (mU g 7 c) = _
  refine Eq.trans (e_X6_ofPhase_0) ?_
  try simp only [mU_same, mU_mU]
  refine mw_oI ?_ (rr_X6_of d) (fun v1 => ?_)
  · rfl
  refine Eq.trans (e_X6_ofPhase_13) ?_
  try simp only [mU_same, mU_mU]
  all_goals rfl
theorem rr_X6_ofPhase_at (d : Nat) {X : mX} {g : mG} {x1 x2 : Int32} : mCall mD X (d + 2) 165 [mr 7 20, mi x1, mi x2] g = wO (wN g) (P_X6_ofPhase (g 7) x1 x2) := by
  have h := rr_X6_ofPhase (X := X) d (g := g) (c := g 7) (x1 := x1) (x2 := x2)
  rw [mU_self] at h
  exact h.trans (wOI_self _ _ _)
theorem e_X6_putsPhase_0 {X : mX} {call : Nat → List mV → mG → mR} {g : mG} {x1 x2 x3 : Int32} : mEv X call 0 t_X6_putsPhase (mDrop t_X6_putsPhase 0) [some (mr 7 20), some (mi x1), some (mi x2), some (mi x3)] [] g = mAns (mEv X call 0 t_X6_putsPhase) (mDrop t_X6_putsPhase 14) [some (mr 7 20), some (mi x1), some (mi x2), some (mi x3)] [] (call 159 [mr 7 20, mi (((32 : Int32) + ((18 : Int32) * x1)) + x2), mi x3] g) := (mEv_10 _ _ _ _).trans rfl
theorem e_X6_putsPhase_14 {X : mX} {call : Nat → List mV → mG → mR} {g : mG} {x1 x2 x3 : Int32} : mEv X call 0 t_X6_putsPhase (mDrop t_X6_putsPhase 14) [some (mr 7 20), some (mi x1), some (mi x2), some (mi x3)] [] g = some (none, g) := (mEv_1 _ _ _ _).trans rfl
noncomputable def P_X6_putsPhase (c : mC) (x1 : Int32) (x2 : Int32) (x3 : Int32) : (Option (mC)) := (mBo (α := mC) none (P_X6_puts c (((32 : Int32) + ((18 : Int32) * x1)) + x2) x3) (fun c1 => (some c1)))
theorem rr_X6_putsPhase (d : Nat) {X : mX} {g : mG} {x1 x2 x3 : Int32} {c : mC} : mCall mD X (d + 2) 166 [mr 7 20, mi x1, mi x2, mi x3] (mU g 7 c) = (wO (wV g 7)) (P_X6_putsPhase c x1 x2 x3) := by
  refine Eq.trans (mCall_eq (d := d + 1) rfl) ?_
  show mEv X (mCall mD X (d + 1)) 0 t_X6_putsPhase (mDrop t_X6_putsPhase 0) [some (mr 7 20), some (mi x1), some (mi x2), some (mi x3)] [] (mU g 7 c) = _
  refine Eq.trans (e_X6_putsPhase_0) ?_
  try simp only [mU_same, mU_mU]
  refine mw_oV ?_ (rr_X6_puts d) (fun c1 => ?_)
  · rfl
  refine Eq.trans (e_X6_putsPhase_14) ?_
  try simp only [mU_same, mU_mU]
  all_goals rfl
theorem rr_X6_putsPhase_at (d : Nat) {X : mX} {g : mG} {x1 x2 x3 : Int32} : mCall mD X (d + 2) 166 [mr 7 20, mi x1, mi x2, mi x3] g = wO (wV g 7) (P_X6_putsPhase (g 7) x1 x2 x3) := by
  have h := rr_X6_putsPhase (X := X) d (g := g) (c := g 7) (x1 := x1) (x2 := x2) (x3 := x3)
  rw [mU_self] at h
  exact h
theorem e_X6_mark_0 {X : mX} {call : Nat → List mV → mG → mR} {g : mG} {x1 x2 : Int32} : mEv X call 1 t_X6_mark (mDrop t_X6_mark 0) [some (mr 7 20), some (mi x1), some (mi x2)] [] g = mAns (mEv X call 1 t_X6_mark) (mDrop t_X6_mark 8) [some (mr 7 20), some (mi x1), some (mi x2)] [] (call 165 [mr 7 20, mi x1, mi ((2 : Int32) + x2)] g) := (mEv_6 _ _ _ _).trans rfl
theorem e_X6_mark_8 {X : mX} {call : Nat → List mV → mG → mR} {g : mG} {x1 x2 s0 : Int32} : mEv X call 1 t_X6_mark (mDrop t_X6_mark 8) [some (mr 7 20), some (mi x1), some (mi x2)] [mi s0] g = some (some (mi s0), g) := (mEv_1 _ _ _ _).trans rfl
noncomputable def P_X6_mark (c : mC) (x1 : Int32) (x2 : Int32) : (Option (Int32)) := (mBo (α := Int32) none (P_X6_ofPhase c x1 ((2 : Int32) + x2)) (fun v1 => (some v1)))
theorem rr_X6_mark (d : Nat) {X : mX} {g : mG} {x1 x2 : Int32} {c : mC} : mCall mD X (d + 3) 167 [mr 7 20, mi x1, mi x2] (mU g 7 c) = (wO (wI g 7 c)) (P_X6_mark c x1 x2) := by
  refine Eq.trans (mCall_eq (d := d + 2) rfl) ?_
  show mEv X (mCall mD X (d + 2)) 1 t_X6_mark (mDrop t_X6_mark 0) [some (mr 7 20), some (mi x1), some (mi x2)] [] (mU g 7 c) = _
  refine Eq.trans (e_X6_mark_0) ?_
  try simp only [mU_same, mU_mU]
  refine mw_oI ?_ (rr_X6_ofPhase d) (fun v1 => ?_)
  · rfl
  refine Eq.trans (e_X6_mark_8) ?_
  try simp only [mU_same, mU_mU]
  all_goals rfl
theorem rr_X6_mark_at (d : Nat) {X : mX} {g : mG} {x1 x2 : Int32} : mCall mD X (d + 3) 167 [mr 7 20, mi x1, mi x2] g = wO (wN g) (P_X6_mark (g 7) x1 x2) := by
  have h := rr_X6_mark (X := X) d (g := g) (c := g 7) (x1 := x1) (x2 := x2)
  rw [mU_self] at h
  exact h.trans (wOI_self _ _ _)
theorem e_X6_isPhase_0 {X : mX} {call : Nat → List mV → mG → mR} {g : mG} {x1 : Int32} : mEv X call 2 t_X6_isPhase (mDrop t_X6_isPhase 0) [some (mr 7 20), some (mi x1)] [] g = if x1 < 0 then mEv X call 2 t_X6_isPhase (mDrop t_X6_isPhase 17) [some (mr 7 20), some (mi x1)] [] g else mEv X call 2 t_X6_isPhase (mDrop t_X6_isPhase 4) [some (mr 7 20), some (mi x1)] [] g := (mEv_2 _ _ _ _).trans rfl
theorem e_X6_isPhase_17 {X : mX} {call : Nat → List mV → mG → mR} {g : mG} {x1 : Int32} : mEv X call 2 t_X6_isPhase (mDrop t_X6_isPhase 17) [some (mr 7 20), some (mi x1)] [] g = mEv X call 2 t_X6_isPhase (mDrop t_X6_isPhase 18) [some (mr 7 20), some (mi x1)] [mi 0] g := (mEv_1 _ _ _ _).trans rfl
theorem e_X6_isPhase_18 {X : mX} {call : Nat → List mV → mG → mR} {g : mG} {x1 s0 : Int32} : mEv X call 2 t_X6_isPhase (mDrop t_X6_isPhase 18) [some (mr 7 20), some (mi x1)] [mi s0] g = if (s0 : Int32) &&& 1 = s0 then some (some (mi s0), g) else none := (mEv_1 _ _ _ _).trans rfl
noncomputable def J_X6_isPhase_17 (c : mC) : (Option (Int32)) := (some 0)
theorem rj_X6_isPhase_17 (d : Nat) {X : mX} {g : mG} {x1 : Int32} {c : mC} : mEv X (mCall mD X (d + 1)) 2 t_X6_isPhase (mDrop t_X6_isPhase 17) [some (mr 7 20), some (mi x1)] [] (mU g 7 c) = (wO (wI g 7 c)) (J_X6_isPhase_17 c) := by
  refine Eq.trans (e_X6_isPhase_17) ?_
  try simp only [mU_same, mU_mU]
  refine Eq.trans (e_X6_isPhase_18) ?_
  try simp only [mU_same, mU_mU]
  exact if_pos (by decide)
theorem e_X6_isPhase_4 {X : mX} {call : Nat → List mV → mG → mR} {g : mG} {x1 : Int32} : mEv X call 2 t_X6_isPhase (mDrop t_X6_isPhase 4) [some (mr 7 20), some (mi x1)] [] g = mAns (mEv X call 2 t_X6_isPhase) (mDrop t_X6_isPhase 10) [some (mr 7 20), some (mi x1)] [mi x1] (call 158 [mr 7 20, mi 0] g) := (mEv_4 _ _ _ _).trans rfl
theorem e_X6_isPhase_10 {X : mX} {call : Nat → List mV → mG → mR} {g : mG} {x1 s0 s1 : Int32} : mEv X call 2 t_X6_isPhase (mDrop t_X6_isPhase 10) [some (mr 7 20), some (mi x1)] [mi s1, mi s0] g = if s1 ≤ s0 then mEv X call 2 t_X6_isPhase (mDrop t_X6_isPhase 17) [some (mr 7 20), some (mi x1)] [] g else mEv X call 2 t_X6_isPhase (mDrop t_X6_isPhase 13) [some (mr 7 20), some (mi x1)] [] g := (mEv_1 _ _ _ _).trans rfl
theorem e_X6_isPhase_13 {X : mX} {call : Nat → List mV → mG → mR} {g : mG} {x1 : Int32} : mEv X call 2 t_X6_isPhase (mDrop t_X6_isPhase 13) [some (mr 7 20), some (mi x1)] [] g = mEv X call 2 t_X6_isPhase (mDrop t_X6_isPhase 18) [some (mr 7 20), some (mi x1)] [mi 1] g := (mEv_2 _ _ _ _).trans rfl
noncomputable def P_X6_isPhase (c : mC) (x1 : Int32) : (Option (Int32)) := (if x1 < 0 then (J_X6_isPhase_17 c) else (mBo (α := Int32) none (P_X6_of c 0) (fun v1 => (if v1 ≤ x1 then (J_X6_isPhase_17 c) else (some 1)))))
theorem rr_X6_isPhase (d : Nat) {X : mX} {g : mG} {x1 : Int32} {c : mC} : mCall mD X (d + 2) 168 [mr 7 20, mi x1] (mU g 7 c) = (wO (wI g 7 c)) (P_X6_isPhase c x1) := by
  refine Eq.trans (mCall_eq (d := d + 1) rfl) ?_
  show mEv X (mCall mD X (d + 1)) 2 t_X6_isPhase (mDrop t_X6_isPhase 0) [some (mr 7 20), some (mi x1)] [] (mU g 7 c) = _
  refine Eq.trans (e_X6_isPhase_0) ?_
  try simp only [mU_same, mU_mU]
  refine mw_ite (fun h3 => ?_) (fun h3 => ?_)
  · exact rj_X6_isPhase_17 d
  · refine Eq.trans (e_X6_isPhase_4) ?_
    try simp only [mU_same, mU_mU]
    refine mw_oI ?_ (rr_X6_of d) (fun v1 => ?_)
    · rfl
    refine Eq.trans (e_X6_isPhase_10) ?_
    try simp only [mU_same, mU_mU]
    refine mw_ite (fun h2 => ?_) (fun h2 => ?_)
    · exact rj_X6_isPhase_17 d
    · refine Eq.trans (e_X6_isPhase_13) ?_
      try simp only [mU_same, mU_mU]
      refine Eq.trans (e_X6_isPhase_18) ?_
      try simp only [mU_same, mU_mU]
      exact if_pos (by decide)
theorem rr_X6_isPhase_at (d : Nat) {X : mX} {g : mG} {x1 : Int32} : mCall mD X (d + 2) 168 [mr 7 20, mi x1] g = wO (wN g) (P_X6_isPhase (g 7) x1) := by
  have h := rr_X6_isPhase (X := X) d (g := g) (c := g 7) (x1 := x1)
  rw [mU_self] at h
  exact h.trans (wOI_self _ _ _)
theorem e_X6_begins_0 {X : mX} {call : Nat → List mV → mG → mR} {g : mG} : mEv X call 0 t_X6_begins (mDrop t_X6_begins 0) [some (mr 7 20), none] [] g = mEv X call 0 t_X6_begins (mDrop t_X6_begins 2) [some (mr 7 20), some (mi 0)] [] g := (mEv_2 _ _ _ _).trans rfl
theorem e_X6_begins_2 {X : mX} {call : Nat → List mV → mG → mR} {g : mG} {x1 : Int32} : mEv X call 0 t_X6_begins (mDrop t_X6_begins 2) [some (mr 7 20), some (mi x1)] [] g = if 288 ≤ x1 then mEv X call 0 t_X6_begins (mDrop t_X6_begins 21) [some (mr 7 20), some (mi x1)] [] g else mEv X call 0 t_X6_begins (mDrop t_X6_begins 9) [some (mr 7 20), some (mi x1)] [] g := (mEv_3 _ _ _ _).trans rfl
theorem e_X6_begins_21 {X : mX} {call : Nat → List mV → mG → mR} {g : mG} {x1 : Int32} : mEv X call 0 t_X6_begins (mDrop t_X6_begins 21) [some (mr 7 20), some (mi x1)] [] g = mAns (mEv X call 0 t_X6_begins) (mDrop t_X6_begins 28) [some (mr 7 20), some (mi x1)] [] (call 159 [mr 7 20, mi 7, mi (-1)] g) := (mEv_4 _ _ _ _).trans rfl
theorem e_X6_begins_28 {X : mX} {call : Nat → List mV → mG → mR} {g : mG} {x1 : Int32} : mEv X call 0 t_X6_begins (mDrop t_X6_begins 28) [some (mr 7 20), some (mi x1)] [] g = some (none, g) := (mEv_1 _ _ _ _).trans rfl
theorem e_X6_begins_9 {X : mX} {call : Nat → List mV → mG → mR} {g : mG} {x1 : Int32} : mEv X call 0 t_X6_begins (mDrop t_X6_begins 9) [some (mr 7 20), some (mi x1)] [] g = mAns (mEv X call 0 t_X6_begins) (mDrop t_X6_begins 15) [some (mr 7 20), some (mi x1)] [] (call 159 [mr 7 20, mi x1, mi 0] g) := (mEv_4 _ _ _ _).trans rfl
theorem e_X6_begins_15 {X : mX} {call : Nat → List mV → mG → mR} {g : mG} {x1 : Int32} : mEv X call 0 t_X6_begins (mDrop t_X6_begins 15) [some (mr 7 20), some (mi x1)] [] g = mEv X call 0 t_X6_begins (mDrop t_X6_begins 2) [some (mr 7 20), some (mi (x1 + 1))] [] g := (mEv_2 _ _ _ _).trans rfl
noncomputable def B_X6_begins_2  : (Int32 × mC) → (Int32 × mC) ⊕ (Option (mC)) := fun s => match s with | (x1, c) => (if 288 ≤ x1 then (.inr (mBo (α := mC) none (P_X6_puts c 7 (-1)) (fun c1 => (some c1)))) else (mBo (α := mC) (.inr none) (P_X6_puts c x1 0) (fun c2 => (.inl ((x1 + 1), c2)))))
set_option maxRecDepth 100000 in
theorem tm_X6_begins_2  : mTm (B_X6_begins_2 ) := by
  refine ⟨fun s => match s with | (x1, c) => mMx x1, fun s s2 h => ?_⟩
  obtain ⟨x1, c⟩ := s
  simp only [B_X6_begins_2, mBd, mBo] at h
  (repeat' split at h) <;> first | (have h2 := Sum.inl.inj h; subst h2; dsimp only; first | exact mtm_max (by assumption) | exact mtm_lt (by assumption)) | (cases h; done)
theorem rl_X6_begins_2 (d : Nat) {X : mX} {g : mG} {x1 : Int32} {c : mC} : mEv X (mCall mD X (d + 1)) 0 t_X6_begins (mDrop t_X6_begins 2) [some (mr 7 20), some (mi x1)] [] (mU g 7 c) = (wO (wV g 7)) (mWh none B_X6_begins_2 (x1, c)) := by
  refine mWh_ev (B := B_X6_begins_2) (ev := fun s : (Int32 × mC) => match s with | (x1, c) => mEv X (mCall mD X (d + 1)) 0 t_X6_begins (mDrop t_X6_begins 2) [some (mr 7 20), some (mi x1)] [] (mU g 7 c)) (w := (wO (wV g 7))) (tm_X6_begins_2) ?_ (x1, c)
  rintro ⟨x1, c⟩
  show mEv X (mCall mD X (d + 1)) 0 t_X6_begins (mDrop t_X6_begins 2) [some (mr 7 20), some (mi x1)] [] (mU g 7 c) = wB (fun s : (Int32 × mC) => match s with | (x1, c) => mEv X (mCall mD X (d + 1)) 0 t_X6_begins (mDrop t_X6_begins 2) [some (mr 7 20), some (mi x1)] [] (mU g 7 c)) (wO (wV g 7)) (B_X6_begins_2  (x1, c))
  refine Eq.trans (e_X6_begins_2) ?_
  try simp only [mU_same, mU_mU]
  refine mw_ite (fun h3 => ?_) (fun h3 => ?_)
  · refine mw_inr ?_
    refine Eq.trans (e_X6_begins_21) ?_
    try simp only [mU_same, mU_mU]
    refine mw_oV ?_ (rr_X6_puts d) (fun c1 => ?_)
    · rfl
    refine Eq.trans (e_X6_begins_28) ?_
    try simp only [mU_same, mU_mU]
    all_goals rfl
  · refine Eq.trans (e_X6_begins_9) ?_
    try simp only [mU_same, mU_mU]
    refine mw_oV ?_ (rr_X6_puts d) (fun c2 => ?_)
    · rfl
    refine Eq.trans (e_X6_begins_15) ?_
    try simp only [mU_same, mU_mU]
    exact mw_inl rfl
noncomputable def P_X6_begins (c : mC) : (Option (mC)) := (mWh none B_X6_begins_2 (0, c))
theorem rr_X6_begins (d : Nat) {X : mX} {g : mG} {c : mC} : mCall mD X (d + 2) 169 [mr 7 20] (mU g 7 c) = (wO (wV g 7)) (P_X6_begins c) := by
  refine Eq.trans (mCall_eq (d := d + 1) rfl) ?_
  show mEv X (mCall mD X (d + 1)) 0 t_X6_begins (mDrop t_X6_begins 0) [some (mr 7 20), none] [] (mU g 7 c) = _
  refine Eq.trans (e_X6_begins_0) ?_
  try simp only [mU_same, mU_mU]
  exact rl_X6_begins_2 d
theorem rr_X6_begins_at (d : Nat) {X : mX} {g : mG} : mCall mD X (d + 2) 169 [mr 7 20] g = wO (wV g 7) (P_X6_begins (g 7)) := by
  have h := rr_X6_begins (X := X) d (g := g) (c := g 7)
  rw [mU_self] at h
  exact h
theorem e_X6_areFoes_0 {X : mX} {call : Nat → List mV → mG → mR} {g : mG} {x1 x2 : Int32} : mEv X call 2 t_X6_areFoes (mDrop t_X6_areFoes 0) [some (mr 7 20), some (mi x1), some (mi x2)] [] g = if x1 = x2 then mEv X call 2 t_X6_areFoes (mDrop t_X6_areFoes 39) [some (mr 7 20), some (mi x1), some (mi x2)] [] g else mEv X call 2 t_X6_areFoes (mDrop t_X6_areFoes 5) [some (mr 7 20), some (mi x1), some (mi x2)] [] g := (mEv_3 _ _ _ _).trans rfl
theorem e_X6_areFoes_39 {X : mX} {call : Nat → List mV → mG → mR} {g : mG} {x1 x2 : Int32} : mEv X call 2 t_X6_areFoes (mDrop t_X6_areFoes 39) [some (mr 7 20), some (mi x1), some (mi x2)] [] g = mEv X call 2 t_X6_areFoes (mDrop t_X6_areFoes 40) [some (mr 7 20), some (mi x1), some (mi x2)] [mi 0] g := (mEv_1 _ _ _ _).trans rfl
theorem e_X6_areFoes_40 {X : mX} {call : Nat → List mV → mG → mR} {g : mG} {x1 x2 s0 : Int32} : mEv X call 2 t_X6_areFoes (mDrop t_X6_areFoes 40) [some (mr 7 20), some (mi x1), some (mi x2)] [mi s0] g = if (s0 : Int32) &&& 1 = s0 then some (some (mi s0), g) else none := (mEv_1 _ _ _ _).trans rfl
noncomputable def J_X6_areFoes_39 (c : mC) : (Option (Int32)) := (some 0)
theorem rj_X6_areFoes_39 (d : Nat) {X : mX} {g : mG} {x1 x2 : Int32} {c : mC} : mEv X (mCall mD X (d + 2)) 2 t_X6_areFoes (mDrop t_X6_areFoes 39) [some (mr 7 20), some (mi x1), some (mi x2)] [] (mU g 7 c) = (wO (wI g 7 c)) (J_X6_areFoes_39 c) := by
  refine Eq.trans (e_X6_areFoes_39) ?_
  try simp only [mU_same, mU_mU]
  refine Eq.trans (e_X6_areFoes_40) ?_
  try simp only [mU_same, mU_mU]
  exact if_pos (by decide)
theorem e_X6_areFoes_5 {X : mX} {call : Nat → List mV → mG → mR} {g : mG} {x1 x2 : Int32} : mEv X call 2 t_X6_areFoes (mDrop t_X6_areFoes 5) [some (mr 7 20), some (mi x1), some (mi x2)] [] g = mAns (mEv X call 2 t_X6_areFoes) (mDrop t_X6_areFoes 11) [some (mr 7 20), some (mi x1), some (mi x2)] [] (call 165 [mr 7 20, mi x1, mi 0] g) := (mEv_4 _ _ _ _).trans rfl
theorem e_X6_areFoes_11 {X : mX} {call : Nat → List mV → mG → mR} {g : mG} {x1 x2 s0 : Int32} : mEv X call 2 t_X6_areFoes (mDrop t_X6_areFoes 11) [some (mr 7 20), some (mi x1), some (mi x2)] [mi s0] g = mAns (mEv X call 2 t_X6_areFoes) (mDrop t_X6_areFoes 17) [some (mr 7 20), some (mi x1), some (mi x2)] [mi s0] (call 165 [mr 7 20, mi x2, mi 0] g) := (mEv_4 _ _ _ _).trans rfl
theorem e_X6_areFoes_17 {X : mX} {call : Nat → List mV → mG → mR} {g : mG} {x1 x2 s0 s1 : Int32} : mEv X call 2 t_X6_areFoes (mDrop t_X6_areFoes 17) [some (mr 7 20), some (mi x1), some (mi x2)] [mi s1, mi s0] g = if s0 = s1 then mEv X call 2 t_X6_areFoes (mDrop t_X6_areFoes 35) [some (mr 7 20), some (mi x1), some (mi x2)] [] g else mEv X call 2 t_X6_areFoes (mDrop t_X6_areFoes 20) [some (mr 7 20), some (mi x1), some (mi x2)] [] g := (mEv_1 _ _ _ _).trans rfl
theorem e_X6_areFoes_35 {X : mX} {call : Nat → List mV → mG → mR} {g : mG} {x1 x2 : Int32} : mEv X call 2 t_X6_areFoes (mDrop t_X6_areFoes 35) [some (mr 7 20), some (mi x1), some (mi x2)] [] g = mEv X call 2 t_X6_areFoes (mDrop t_X6_areFoes 40) [some (mr 7 20), some (mi x1), some (mi x2)] [mi 1] g := (mEv_2 _ _ _ _).trans rfl
noncomputable def J_X6_areFoes_35 (c : mC) : (Option (Int32)) := (some 1)
theorem rj_X6_areFoes_35 (d : Nat) {X : mX} {g : mG} {x1 x2 : Int32} {c : mC} : mEv X (mCall mD X (d + 2)) 2 t_X6_areFoes (mDrop t_X6_areFoes 35) [some (mr 7 20), some (mi x1), some (mi x2)] [] (mU g 7 c) = (wO (wI g 7 c)) (J_X6_areFoes_35 c) := by
  refine Eq.trans (e_X6_areFoes_35) ?_
  try simp only [mU_same, mU_mU]
  refine Eq.trans (e_X6_areFoes_40) ?_
  try simp only [mU_same, mU_mU]
  exact if_pos (by decide)
theorem e_X6_areFoes_20 {X : mX} {call : Nat → List mV → mG → mR} {g : mG} {x1 x2 : Int32} : mEv X call 2 t_X6_areFoes (mDrop t_X6_areFoes 20) [some (mr 7 20), some (mi x1), some (mi x2)] [] g = mAns (mEv X call 2 t_X6_areFoes) (mDrop t_X6_areFoes 26) [some (mr 7 20), some (mi x1), some (mi x2)] [] (call 165 [mr 7 20, mi x1, mi 1] g) := (mEv_4 _ _ _ _).trans rfl
theorem e_X6_areFoes_26 {X : mX} {call : Nat → List mV → mG → mR} {g : mG} {x1 x2 s0 : Int32} : mEv X call 2 t_X6_areFoes (mDrop t_X6_areFoes 26) [some (mr 7 20), some (mi x1), some (mi x2)] [mi s0] g = mAns (mEv X call 2 t_X6_areFoes) (mDrop t_X6_areFoes 32) [some (mr 7 20), some (mi x1), some (mi x2)] [mi s0] (call 165 [mr 7 20, mi x2, mi 1] g) := (mEv_4 _ _ _ _).trans rfl
theorem e_X6_areFoes_32 {X : mX} {call : Nat → List mV → mG → mR} {g : mG} {x1 x2 s0 s1 : Int32} : mEv X call 2 t_X6_areFoes (mDrop t_X6_areFoes 32) [some (mr 7 20), some (mi x1), some (mi x2)] [mi s1, mi s0] g = if s0 = s1 then mEv X call 2 t_X6_areFoes (mDrop t_X6_areFoes 39) [some (mr 7 20), some (mi x1), some (mi x2)] [] g else mEv X call 2 t_X6_areFoes (mDrop t_X6_areFoes 35) [some (mr 7 20), some (mi x1), some (mi x2)] [] g := (mEv_1 _ _ _ _).trans rfl
noncomputable def P_X6_areFoes (c : mC) (x1 : Int32) (x2 : Int32) : (Option (Int32)) := (if x1 = x2 then (J_X6_areFoes_39 c) else (mBo (α := Int32) none (P_X6_ofPhase c x1 0) (fun v1 => (mBo (α := Int32) none (P_X6_ofPhase c x2 0) (fun v2 => (if v1 = v2 then (J_X6_areFoes_35 c) else (mBo (α := Int32) none (P_X6_ofPhase c x1 1) (fun v3 => (mBo (α := Int32) none (P_X6_ofPhase c x2 1) (fun v4 => (if v3 = v4 then (J_X6_areFoes_39 c) else (J_X6_areFoes_35 c))))))))))))
theorem rr_X6_areFoes (d : Nat) {X : mX} {g : mG} {x1 x2 : Int32} {c : mC} : mCall mD X (d + 3) 170 [mr 7 20, mi x1, mi x2] (mU g 7 c) = (wO (wI g 7 c)) (P_X6_areFoes c x1 x2) := by
  refine Eq.trans (mCall_eq (d := d + 2) rfl) ?_
  show mEv X (mCall mD X (d + 2)) 2 t_X6_areFoes (mDrop t_X6_areFoes 0) [some (mr 7 20), some (mi x1), some (mi x2)] [] (mU g 7 c) = _
  refine Eq.trans (e_X6_areFoes_0) ?_
  try simp only [mU_same, mU_mU]
  refine mw_ite (fun h7 => ?_) (fun h7 => ?_)
  · exact rj_X6_areFoes_39 d
  · refine Eq.trans (e_X6_areFoes_5) ?_
    try simp only [mU_same, mU_mU]
    refine mw_oI ?_ (rr_X6_ofPhase d) (fun v1 => ?_)
    · rfl
    refine Eq.trans (e_X6_areFoes_11) ?_
    try simp only [mU_same, mU_mU]
    refine mw_oI ?_ (rr_X6_ofPhase d) (fun v2 => ?_)
    · rfl
    refine Eq.trans (e_X6_areFoes_17) ?_
    try simp only [mU_same, mU_mU]
    refine mw_ite (fun h6 => ?_) (fun h6 => ?_)
    · exact rj_X6_areFoes_35 d
    · refine Eq.trans (e_X6_areFoes_20) ?_
      try simp only [mU_same, mU_mU]
      refine mw_oI ?_ (rr_X6_ofPhase d) (fun v3 => ?_)
      · rfl
      refine Eq.trans (e_X6_areFoes_26) ?_
      try simp only [mU_same, mU_mU]
      refine mw_oI ?_ (rr_X6_ofPhase d) (fun v4 => ?_)
      · rfl
      refine Eq.trans (e_X6_areFoes_32) ?_
      try simp only [mU_same, mU_mU]
      refine mw_ite (fun h5 => ?_) (fun h5 => ?_)
      · exact rj_X6_areFoes_39 d
      · exact rj_X6_areFoes_35 d
theorem rr_X6_areFoes_at (d : Nat) {X : mX} {g : mG} {x1 x2 : Int32} : mCall mD X (d + 3) 170 [mr 7 20, mi x1, mi x2] g = wO (wN g) (P_X6_areFoes (g 7) x1 x2) := by
  have h := rr_X6_areFoes (X := X) d (g := g) (c := g 7) (x1 := x1) (x2 := x2)
  rw [mU_self] at h
  exact h.trans (wOI_self _ _ _)
theorem e_X6_foesOf_0 {X : mX} {call : Nat → List mV → mG → mR} {g : mG} {x1 : Int32} : mEv X call 1 t_X6_foesOf (mDrop t_X6_foesOf 0) [some (mr 7 20), some (mi x1), none, none] [] g = mEv X call 1 t_X6_foesOf (mDrop t_X6_foesOf 4) [some (mr 7 20), some (mi x1), some (mi 0), some (mi 0)] [] g := (mEv_4 _ _ _ _).trans rfl
theorem e_X6_foesOf_4 {X : mX} {call : Nat → List mV → mG → mR} {g : mG} {x1 x2 x3 : Int32} : mEv X call 1 t_X6_foesOf (mDrop t_X6_foesOf 4) [some (mr 7 20), some (mi x1), some (mi x2), some (mi x3)] [] g = mAns (mEv X call 1 t_X6_foesOf) (mDrop t_X6_foesOf 10) [some (mr 7 20), some (mi x1), some (mi x2), some (mi x3)] [mi x3] (call 158 [mr 7 20, mi 0] g) := (mEv_4 _ _ _ _).trans rfl
theorem e_X6_foesOf_10 {X : mX} {call : Nat → List mV → mG → mR} {g : mG} {x1 x2 x3 s0 s1 : Int32} : mEv X call 1 t_X6_foesOf (mDrop t_X6_foesOf 10) [some (mr 7 20), some (mi x1), some (mi x2), some (mi x3)] [mi s1, mi s0] g = if s1 ≤ s0 then mEv X call 1 t_X6_foesOf (mDrop t_X6_foesOf 38) [some (mr 7 20), some (mi x1), some (mi x2), some (mi x3)] [] g else mEv X call 1 t_X6_foesOf (mDrop t_X6_foesOf 13) [some (mr 7 20), some (mi x1), some (mi x2), some (mi x3)] [] g := (mEv_1 _ _ _ _).trans rfl
theorem e_X6_foesOf_38 {X : mX} {call : Nat → List mV → mG → mR} {g : mG} {x1 x2 x3 : Int32} : mEv X call 1 t_X6_foesOf (mDrop t_X6_foesOf 38) [some (mr 7 20), some (mi x1), some (mi x2), some (mi x3)] [] g = some (some (mi x2), g) := (mEv_2 _ _ _ _).trans rfl
theorem e_X6_foesOf_13 {X : mX} {call : Nat → List mV → mG → mR} {g : mG} {x1 x2 x3 : Int32} : mEv X call 1 t_X6_foesOf (mDrop t_X6_foesOf 13) [some (mr 7 20), some (mi x1), some (mi x2), some (mi x3)] [] g = mAns (mEv X call 1 t_X6_foesOf) (mDrop t_X6_foesOf 20) [some (mr 7 20), some (mi x1), some (mi x2), some (mi x3)] [mi x2] (call 170 [mr 7 20, mi x1, mi x3] g) := (mEv_5 _ _ _ _).trans rfl
theorem e_X6_foesOf_20 {X : mX} {call : Nat → List mV → mG → mR} {g : mG} {x1 x2 x3 s0 s1 : Int32} : mEv X call 1 t_X6_foesOf (mDrop t_X6_foesOf 20) [some (mr 7 20), some (mi x1), some (mi x2), some (mi x3)] [mi s1, mi s0] g = if s1 = 0 then mEv X call 1 t_X6_foesOf (mDrop t_X6_foesOf 29) [some (mr 7 20), some (mi x1), some (mi x2), some (mi x3)] [mi s0] g else mEv X call 1 t_X6_foesOf (mDrop t_X6_foesOf 23) [some (mr 7 20), some (mi x1), some (mi x2), some (mi x3)] [mi s0] g := (mEv_1 _ _ _ _).trans rfl
theorem e_X6_foesOf_29 {X : mX} {call : Nat → List mV → mG → mR} {g : mG} {x1 x2 x3 s0 : Int32} : mEv X call 1 t_X6_foesOf (mDrop t_X6_foesOf 29) [some (mr 7 20), some (mi x1), some (mi x2), some (mi x3)] [mi s0] g = mEv X call 1 t_X6_foesOf (mDrop t_X6_foesOf 30) [some (mr 7 20), some (mi x1), some (mi x2), some (mi x3)] [mi 0, mi s0] g := (mEv_1 _ _ _ _).trans rfl
theorem e_X6_foesOf_30 {X : mX} {call : Nat → List mV → mG → mR} {g : mG} {x1 x2 x3 s0 s1 : Int32} : mEv X call 1 t_X6_foesOf (mDrop t_X6_foesOf 30) [some (mr 7 20), some (mi x1), some (mi x2), some (mi x3)] [mi s1, mi s0] g = mEv X call 1 t_X6_foesOf (mDrop t_X6_foesOf 4) [some (mr 7 20), some (mi x1), some (mi (s0 ||| s1)), some (mi (x3 + 1))] [] g := (mEv_4 _ _ _ _).trans rfl
noncomputable def J_X6_foesOf_30 (c : mC) (x1 : Int32) (x3 : Int32) (s0 : Int32) (s1 : Int32) : ((Int32 × Int32) ⊕ (Option (Int32))) := (.inl ((s0 ||| s1), (x3 + 1)))
theorem rj_X6_foesOf_30 (d : Nat) {X : mX} {g : mG} {x1 x2 x3 s0 s1 : Int32} {c : mC} : mEv X (mCall mD X (d + 3)) 1 t_X6_foesOf (mDrop t_X6_foesOf 30) [some (mr 7 20), some (mi x1), some (mi x2), some (mi x3)] [mi s1, mi s0] (mU g 7 c) = (wB (fun s : (Int32 × Int32) => match s with | (x2, x3) => mEv X (mCall mD X (d + 3)) 1 t_X6_foesOf (mDrop t_X6_foesOf 4) [some (mr 7 20), some (mi x1), some (mi x2), some (mi x3)] [] (mU g 7 c)) (wO (wI g 7 c))) (J_X6_foesOf_30 c x1 x3 s0 s1) := by
  refine Eq.trans (e_X6_foesOf_30) ?_
  try simp only [mU_same, mU_mU]
  exact mw_inl rfl
theorem e_X6_foesOf_23 {X : mX} {call : Nat → List mV → mG → mR} {g : mG} {x1 x2 x3 s0 : Int32} : mEv X call 1 t_X6_foesOf (mDrop t_X6_foesOf 23) [some (mr 7 20), some (mi x1), some (mi x2), some (mi x3)] [mi s0] g = mEv X call 1 t_X6_foesOf (mDrop t_X6_foesOf 30) [some (mr 7 20), some (mi x1), some (mi x2), some (mi x3)] [mi ((1 : Int32) <<< (x3 &&& 31)), mi s0] g := (mEv_4 _ _ _ _).trans rfl
noncomputable def B_X6_foesOf_4 (c : mC) (x1 : Int32) : (Int32 × Int32) → (Int32 × Int32) ⊕ (Option (Int32)) := fun s => match s with | (x2, x3) => (mBo (α := Int32) (.inr none) (P_X6_of c 0) (fun v1 => (if v1 ≤ x3 then (.inr (some x2)) else (mBo (α := Int32) (.inr none) (P_X6_areFoes c x1 x3) (fun v2 => (if v2 = 0 then (J_X6_foesOf_30 c x1 x3 x2 0) else (J_X6_foesOf_30 c x1 x3 x2 ((1 : Int32) <<< (x3 &&& 31)))))))))
set_option maxRecDepth 100000 in
theorem tm_X6_foesOf_4 {c : mC} {x1 : Int32} : mTm (B_X6_foesOf_4 c x1) := by
  refine ⟨fun s => match s with | (x2, x3) => mMx x3, fun s s2 h => ?_⟩
  obtain ⟨x2, x3⟩ := s
  simp only [B_X6_foesOf_4, J_X6_foesOf_30, mBd, mBo] at h
  (repeat' split at h) <;> first | (have h2 := Sum.inl.inj h; subst h2; dsimp only; first | exact mtm_max (by assumption) | exact mtm_lt (by assumption)) | (cases h; done)
theorem rl_X6_foesOf_4 (d : Nat) {X : mX} {g : mG} {x1 x2 x3 : Int32} {c : mC} : mEv X (mCall mD X (d + 3)) 1 t_X6_foesOf (mDrop t_X6_foesOf 4) [some (mr 7 20), some (mi x1), some (mi x2), some (mi x3)] [] (mU g 7 c) = (wO (wI g 7 c)) (mWh none (B_X6_foesOf_4 c x1) (x2, x3)) := by
  refine mWh_ev (B := (B_X6_foesOf_4 c x1)) (ev := fun s : (Int32 × Int32) => match s with | (x2, x3) => mEv X (mCall mD X (d + 3)) 1 t_X6_foesOf (mDrop t_X6_foesOf 4) [some (mr 7 20), some (mi x1), some (mi x2), some (mi x3)] [] (mU g 7 c)) (w := (wO (wI g 7 c))) (tm_X6_foesOf_4) ?_ (x2, x3)
  rintro ⟨x2, x3⟩
  show mEv X (mCall mD X (d + 3)) 1 t_X6_foesOf (mDrop t_X6_foesOf 4) [some (mr 7 20), some (mi x1), some (mi x2), some (mi x3)] [] (mU g 7 c) = wB (fun s : (Int32 × Int32) => match s with | (x2, x3) => mEv X (mCall mD X (d + 3)) 1 t_X6_foesOf (mDrop t_X6_foesOf 4) [some (mr 7 20), some (mi x1), some (mi x2), some (mi x3)] [] (mU g 7 c)) (wO (wI g 7 c)) (mBo (α := Int32) (.inr none) (P_X6_of c 0) (fun v1 => (if v1 ≤ x3 then (.inr (some x2)) else (mBo (α := Int32) (.inr none) (P_X6_areFoes c x1 x3) (fun v2 => (if v2 = 0 then (J_X6_foesOf_30 c x1 x3 x2 0) else (J_X6_foesOf_30 c x1 x3 x2 ((1 : Int32) <<< (x3 &&& 31)))))))))
  refine Eq.trans (e_X6_foesOf_4) ?_
  try simp only [mU_same, mU_mU]
  refine mw_oI ?_ (rr_X6_of (d + 2)) (fun v1 => ?_)
  · rfl
  refine Eq.trans (e_X6_foesOf_10) ?_
  try simp only [mU_same, mU_mU]
  refine mw_ite (fun h4 => ?_) (fun h4 => ?_)
  · refine mw_inr ?_
    refine Eq.trans (e_X6_foesOf_38) ?_
    try simp only [mU_same, mU_mU]
    all_goals rfl
  · refine Eq.trans (e_X6_foesOf_13) ?_
    try simp only [mU_same, mU_mU]
    refine mw_oZ ?_ (rr_X6_areFoes d) rfl (fun v2 hv2 => ?_)
    · rfl
    refine Eq.trans (e_X6_foesOf_20) ?_
    try simp only [mU_same, mU_mU]
    refine mw_ite (fun h3 => ?_) (fun h3 => ?_)
    · refine Eq.trans (e_X6_foesOf_29) ?_
      try simp only [mU_same, mU_mU]
      exact rj_X6_foesOf_30 d
    · refine Eq.trans (e_X6_foesOf_23) ?_
      try simp only [mU_same, mU_mU]
      exact rj_X6_foesOf_30 d
noncomputable def P_X6_foesOf (c : mC) (x1 : Int32) : (Option (Int32)) := (mWh none (B_X6_foesOf_4 c x1) (0, 0))
theorem rr_X6_foesOf (d : Nat) {X : mX} {g : mG} {x1 : Int32} {c : mC} : mCall mD X (d + 4) 171 [mr 7 20, mi x1] (mU g 7 c) = (wO (wI g 7 c)) (P_X6_foesOf c x1) := by
  refine Eq.trans (mCall_eq (d := d + 3) rfl) ?_
  show mEv X (mCall mD X (d + 3)) 1 t_X6_foesOf (mDrop t_X6_foesOf 0) [some (mr 7 20), some (mi x1), none, none] [] (mU g 7 c) = _
  refine Eq.trans (e_X6_foesOf_0) ?_
  try simp only [mU_same, mU_mU]
  exact rl_X6_foesOf_4 d
theorem rr_X6_foesOf_at (d : Nat) {X : mX} {g : mG} {x1 : Int32} : mCall mD X (d + 4) 171 [mr 7 20, mi x1] g = wO (wN g) (P_X6_foesOf (g 7) x1) := by
  have h := rr_X6_foesOf (X := X) d (g := g) (c := g 7) (x1 := x1)
  rw [mU_self] at h
  exact h.trans (wOI_self _ _ _)
theorem e_X6_isPeace_0 {X : mX} {call : Nat → List mV → mG → mR} {g : mG} {x1 : Int32} : mEv X call 2 t_X6_isPeace (mDrop t_X6_isPeace 0) [some (mr 7 20), some (mi x1), none] [] g = mEv X call 2 t_X6_isPeace (mDrop t_X6_isPeace 2) [some (mr 7 20), some (mi x1), some (mi 0)] [] g := (mEv_2 _ _ _ _).trans rfl
theorem e_X6_isPeace_2 {X : mX} {call : Nat → List mV → mG → mR} {g : mG} {x1 x2 : Int32} : mEv X call 2 t_X6_isPeace (mDrop t_X6_isPeace 2) [some (mr 7 20), some (mi x1), some (mi x2)] [] g = mAns (mEv X call 2 t_X6_isPeace) (mDrop t_X6_isPeace 8) [some (mr 7 20), some (mi x1), some (mi x2)] [mi x2] (call 158 [mr 7 20, mi 0] g) := (mEv_4 _ _ _ _).trans rfl
theorem e_X6_isPeace_8 {X : mX} {call : Nat → List mV → mG → mR} {g : mG} {x1 x2 s0 s1 : Int32} : mEv X call 2 t_X6_isPeace (mDrop t_X6_isPeace 8) [some (mr 7 20), some (mi x1), some (mi x2)] [mi s1, mi s0] g = if s1 ≤ s0 then mEv X call 2 t_X6_isPeace (mDrop t_X6_isPeace 37) [some (mr 7 20), some (mi x1), some (mi x2)] [] g else mEv X call 2 t_X6_isPeace (mDrop t_X6_isPeace 11) [some (mr 7 20), some (mi x1), some (mi x2)] [] g := (mEv_1 _ _ _ _).trans rfl
theorem e_X6_isPeace_37 {X : mX} {call : Nat → List mV → mG → mR} {g : mG} {x1 x2 : Int32} : mEv X call 2 t_X6_isPeace (mDrop t_X6_isPeace 37) [some (mr 7 20), some (mi x1), some (mi x2)] [] g = if (1 : Int32) &&& 1 = 1 then some (some (mi 1), g) else none := (mEv_2 _ _ _ _).trans rfl
theorem e_X6_isPeace_11 {X : mX} {call : Nat → List mV → mG → mR} {g : mG} {x1 x2 : Int32} : mEv X call 2 t_X6_isPeace (mDrop t_X6_isPeace 11) [some (mr 7 20), some (mi x1), some (mi x2)] [] g = mAns (mEv X call 2 t_X6_isPeace) (mDrop t_X6_isPeace 16) [some (mr 7 20), some (mi x1), some (mi x2)] [] (call 156 [mi x1, mi x2] g) := (mEv_3 _ _ _ _).trans rfl
theorem e_X6_isPeace_16 {X : mX} {call : Nat → List mV → mG → mR} {g : mG} {x1 x2 s0 : Int32} : mEv X call 2 t_X6_isPeace (mDrop t_X6_isPeace 16) [some (mr 7 20), some (mi x1), some (mi x2)] [mi s0] g = if s0 = 0 then mEv X call 2 t_X6_isPeace (mDrop t_X6_isPeace 31) [some (mr 7 20), some (mi x1), some (mi x2)] [] g else mEv X call 2 t_X6_isPeace (mDrop t_X6_isPeace 19) [some (mr 7 20), some (mi x1), some (mi x2)] [] g := (mEv_1 _ _ _ _).trans rfl
theorem e_X6_isPeace_31 {X : mX} {call : Nat → List mV → mG → mR} {g : mG} {x1 x2 : Int32} : mEv X call 2 t_X6_isPeace (mDrop t_X6_isPeace 31) [some (mr 7 20), some (mi x1), some (mi x2)] [] g = mEv X call 2 t_X6_isPeace (mDrop t_X6_isPeace 2) [some (mr 7 20), some (mi x1), some (mi (x2 + 1))] [] g := (mEv_2 _ _ _ _).trans rfl
noncomputable def J_X6_isPeace_31 (c : mC) (x1 : Int32) (x2 : Int32) : ((Int32) ⊕ (Option (Int32))) := (.inl (x2 + 1))
theorem rj_X6_isPeace_31 (d : Nat) {X : mX} {g : mG} {x1 x2 : Int32} {c : mC} : mEv X (mCall mD X (d + 4)) 2 t_X6_isPeace (mDrop t_X6_isPeace 31) [some (mr 7 20), some (mi x1), some (mi x2)] [] (mU g 7 c) = (wB (fun x2 : (Int32) => mEv X (mCall mD X (d + 4)) 2 t_X6_isPeace (mDrop t_X6_isPeace 2) [some (mr 7 20), some (mi x1), some (mi x2)] [] (mU g 7 c)) (wO (wI g 7 c))) (J_X6_isPeace_31 c x1 x2) := by
  refine Eq.trans (e_X6_isPeace_31) ?_
  try simp only [mU_same, mU_mU]
  exact mw_inl rfl
theorem e_X6_isPeace_19 {X : mX} {call : Nat → List mV → mG → mR} {g : mG} {x1 x2 : Int32} : mEv X call 2 t_X6_isPeace (mDrop t_X6_isPeace 19) [some (mr 7 20), some (mi x1), some (mi x2)] [] g = mAns (mEv X call 2 t_X6_isPeace) (mDrop t_X6_isPeace 24) [some (mr 7 20), some (mi x1), some (mi x2)] [] (call 171 [mr 7 20, mi x2] g) := (mEv_3 _ _ _ _).trans rfl
theorem e_X6_isPeace_24 {X : mX} {call : Nat → List mV → mG → mR} {g : mG} {x1 x2 s0 : Int32} : mEv X call 2 t_X6_isPeace (mDrop t_X6_isPeace 24) [some (mr 7 20), some (mi x1), some (mi x2)] [mi s0] g = if (s0 &&& x1) = 0 then mEv X call 2 t_X6_isPeace (mDrop t_X6_isPeace 31) [some (mr 7 20), some (mi x1), some (mi x2)] [] g else mEv X call 2 t_X6_isPeace (mDrop t_X6_isPeace 29) [some (mr 7 20), some (mi x1), some (mi x2)] [] g := (mEv_3 _ _ _ _).trans rfl
theorem e_X6_isPeace_29 {X : mX} {call : Nat → List mV → mG → mR} {g : mG} {x1 x2 : Int32} : mEv X call 2 t_X6_isPeace (mDrop t_X6_isPeace 29) [some (mr 7 20), some (mi x1), some (mi x2)] [] g = if (0 : Int32) &&& 1 = 0 then some (some (mi 0), g) else none := (mEv_2 _ _ _ _).trans rfl
noncomputable def B_X6_isPeace_2 (c : mC) (x1 : Int32) : (Int32) → (Int32) ⊕ (Option (Int32)) := fun x2 => (mBo (α := Int32) (.inr none) (P_X6_of c 0) (fun v1 => (if v1 ≤ x2 then (.inr (some 1)) else (mBd (α := Int32) (P_X6_has x1 x2) (fun v2 => (if v2 = 0 then (J_X6_isPeace_31 c x1 x2) else (mBo (α := Int32) (.inr none) (P_X6_foesOf c x2) (fun v3 => (if (v3 &&& x1) = 0 then (J_X6_isPeace_31 c x1 x2) else (.inr (some 0)))))))))))
set_option maxRecDepth 100000 in
theorem tm_X6_isPeace_2 {c : mC} {x1 : Int32} : mTm (B_X6_isPeace_2 c x1) := by
  refine ⟨fun x2 => mMx x2, fun s s2 h => ?_⟩
  skip
  simp only [B_X6_isPeace_2, J_X6_isPeace_31, mBd, mBo] at h
  (repeat' split at h) <;> first | (have h2 := Sum.inl.inj h; subst h2; dsimp only; first | exact mtm_max (by assumption) | exact mtm_lt (by assumption)) | (cases h; done)
theorem rl_X6_isPeace_2 (d : Nat) {X : mX} {g : mG} {x1 x2 : Int32} {c : mC} : mEv X (mCall mD X (d + 4)) 2 t_X6_isPeace (mDrop t_X6_isPeace 2) [some (mr 7 20), some (mi x1), some (mi x2)] [] (mU g 7 c) = (wO (wI g 7 c)) (mWh none (B_X6_isPeace_2 c x1) x2) := by
  refine mWh_ev (B := (B_X6_isPeace_2 c x1)) (ev := fun x2 : (Int32) => mEv X (mCall mD X (d + 4)) 2 t_X6_isPeace (mDrop t_X6_isPeace 2) [some (mr 7 20), some (mi x1), some (mi x2)] [] (mU g 7 c)) (w := (wO (wI g 7 c))) (tm_X6_isPeace_2) ?_ x2
  intro x2
  show mEv X (mCall mD X (d + 4)) 2 t_X6_isPeace (mDrop t_X6_isPeace 2) [some (mr 7 20), some (mi x1), some (mi x2)] [] (mU g 7 c) = wB (fun x2 : (Int32) => mEv X (mCall mD X (d + 4)) 2 t_X6_isPeace (mDrop t_X6_isPeace 2) [some (mr 7 20), some (mi x1), some (mi x2)] [] (mU g 7 c)) (wO (wI g 7 c)) (mBo (α := Int32) (.inr none) (P_X6_of c 0) (fun v1 => (if v1 ≤ x2 then (.inr (some 1)) else (mBd (α := Int32) (P_X6_has x1 x2) (fun v2 => (if v2 = 0 then (J_X6_isPeace_31 c x1 x2) else (mBo (α := Int32) (.inr none) (P_X6_foesOf c x2) (fun v3 => (if (v3 &&& x1) = 0 then (J_X6_isPeace_31 c x1 x2) else (.inr (some 0)))))))))))
  refine Eq.trans (e_X6_isPeace_2) ?_
  try simp only [mU_same, mU_mU]
  refine mw_oI ?_ (rr_X6_of (d + 3)) (fun v1 => ?_)
  · rfl
  refine Eq.trans (e_X6_isPeace_8) ?_
  try simp only [mU_same, mU_mU]
  refine mw_ite (fun h6 => ?_) (fun h6 => ?_)
  · refine mw_inr ?_
    refine Eq.trans (e_X6_isPeace_37) ?_
    try simp only [mU_same, mU_mU]
    exact if_pos (by decide)
  · refine Eq.trans (e_X6_isPeace_11) ?_
    try simp only [mU_same, mU_mU]
    refine mw_cZ (rr_X6_has (d + 3)) rfl (fun v2 hv2 => ?_)
    refine Eq.trans (e_X6_isPeace_16) ?_
    try simp only [mU_same, mU_mU]
    refine mw_ite (fun h5 => ?_) (fun h5 => ?_)
    · exact rj_X6_isPeace_31 d
    · refine Eq.trans (e_X6_isPeace_19) ?_
      try simp only [mU_same, mU_mU]
      refine mw_oI ?_ (rr_X6_foesOf d) (fun v3 => ?_)
      · rfl
      refine Eq.trans (e_X6_isPeace_24) ?_
      try simp only [mU_same, mU_mU]
      refine mw_ite (fun h4 => ?_) (fun h4 => ?_)
      · exact rj_X6_isPeace_31 d
      · refine mw_inr ?_
        refine Eq.trans (e_X6_isPeace_29) ?_
        try simp only [mU_same, mU_mU]
        exact if_pos (by decide)
noncomputable def P_X6_isPeace (c : mC) (x1 : Int32) : (Option (Int32)) := (mWh none (B_X6_isPeace_2 c x1) 0)
theorem rr_X6_isPeace (d : Nat) {X : mX} {g : mG} {x1 : Int32} {c : mC} : mCall mD X (d + 5) 172 [mr 7 20, mi x1] (mU g 7 c) = (wO (wI g 7 c)) (P_X6_isPeace c x1) := by
  refine Eq.trans (mCall_eq (d := d + 4) rfl) ?_
  show mEv X (mCall mD X (d + 4)) 2 t_X6_isPeace (mDrop t_X6_isPeace 0) [some (mr 7 20), some (mi x1), none] [] (mU g 7 c) = _
  refine Eq.trans (e_X6_isPeace_0) ?_
  try simp only [mU_same, mU_mU]
  exact rl_X6_isPeace_2 d
theorem rr_X6_isPeace_at (d : Nat) {X : mX} {g : mG} {x1 : Int32} : mCall mD X (d + 5) 172 [mr 7 20, mi x1] g = wO (wN g) (P_X6_isPeace (g 7) x1) := by
  have h := rr_X6_isPeace (X := X) d (g := g) (c := g 7) (x1 := x1)
  rw [mU_self] at h
  exact h.trans (wOI_self _ _ _)
theorem e_X6_isCalled_0 {X : mX} {call : Nat → List mV → mG → mR} {g : mG} {x1 : Int32} : mEv X call 2 t_X6_isCalled (mDrop t_X6_isCalled 0) [some (mr 7 20), some (mi x1)] [] g = mAns (mEv X call 2 t_X6_isCalled) (mDrop t_X6_isCalled 7) [some (mr 7 20), some (mi x1)] [] (call 165 [mr 7 20, mi x1, mi 13] g) := (mEv_4 _ _ _ _).trans rfl
theorem e_X6_isCalled_7 {X : mX} {call : Nat → List mV → mG → mR} {g : mG} {x1 s0 : Int32} : mEv X call 2 t_X6_isCalled (mDrop t_X6_isCalled 7) [some (mr 7 20), some (mi x1)] [mi s0] g = if s0 = 1 then mEv X call 2 t_X6_isCalled (mDrop t_X6_isCalled 31) [some (mr 7 20), some (mi x1)] [] g else mEv X call 2 t_X6_isCalled (mDrop t_X6_isCalled 11) [some (mr 7 20), some (mi x1)] [] g := (mEv_2 _ _ _ _).trans rfl
theorem e_X6_isCalled_31 {X : mX} {call : Nat → List mV → mG → mR} {g : mG} {x1 : Int32} : mEv X call 2 t_X6_isCalled (mDrop t_X6_isCalled 31) [some (mr 7 20), some (mi x1)] [] g = mEv X call 2 t_X6_isCalled (mDrop t_X6_isCalled 36) [some (mr 7 20), some (mi x1)] [mi 1] g := (mEv_2 _ _ _ _).trans rfl
theorem e_X6_isCalled_36 {X : mX} {call : Nat → List mV → mG → mR} {g : mG} {x1 s0 : Int32} : mEv X call 2 t_X6_isCalled (mDrop t_X6_isCalled 36) [some (mr 7 20), some (mi x1)] [mi s0] g = if (s0 : Int32) &&& 1 = s0 then some (some (mi s0), g) else none := (mEv_1 _ _ _ _).trans rfl
noncomputable def J_X6_isCalled_31 (c : mC) : (Option (Int32)) := (some 1)
theorem rj_X6_isCalled_31 (d : Nat) {X : mX} {g : mG} {x1 : Int32} {c : mC} : mEv X (mCall mD X (d + 3)) 2 t_X6_isCalled (mDrop t_X6_isCalled 31) [some (mr 7 20), some (mi x1)] [] (mU g 7 c) = (wO (wI g 7 c)) (J_X6_isCalled_31 c) := by
  refine Eq.trans (e_X6_isCalled_31) ?_
  try simp only [mU_same, mU_mU]
  refine Eq.trans (e_X6_isCalled_36) ?_
  try simp only [mU_same, mU_mU]
  exact if_pos (by decide)
theorem e_X6_isCalled_11 {X : mX} {call : Nat → List mV → mG → mR} {g : mG} {x1 : Int32} : mEv X call 2 t_X6_isCalled (mDrop t_X6_isCalled 11) [some (mr 7 20), some (mi x1)] [] g = mAns (mEv X call 2 t_X6_isCalled) (mDrop t_X6_isCalled 18) [some (mr 7 20), some (mi x1)] [] (call 165 [mr 7 20, mi x1, mi 12] g) := (mEv_4 _ _ _ _).trans rfl
theorem e_X6_isCalled_18 {X : mX} {call : Nat → List mV → mG → mR} {g : mG} {x1 s0 : Int32} : mEv X call 2 t_X6_isCalled (mDrop t_X6_isCalled 18) [some (mr 7 20), some (mi x1)] [mi s0] g = if 0 < s0 then mEv X call 2 t_X6_isCalled (mDrop t_X6_isCalled 31) [some (mr 7 20), some (mi x1)] [] g else mEv X call 2 t_X6_isCalled (mDrop t_X6_isCalled 21) [some (mr 7 20), some (mi x1)] [] g := (mEv_1 _ _ _ _).trans rfl
theorem e_X6_isCalled_21 {X : mX} {call : Nat → List mV → mG → mR} {g : mG} {x1 : Int32} : mEv X call 2 t_X6_isCalled (mDrop t_X6_isCalled 21) [some (mr 7 20), some (mi x1)] [] g = mAns (mEv X call 2 t_X6_isCalled) (mDrop t_X6_isCalled 28) [some (mr 7 20), some (mi x1)] [] (call 167 [mr 7 20, mi x1, mi 7] g) := (mEv_4 _ _ _ _).trans rfl
theorem e_X6_isCalled_28 {X : mX} {call : Nat → List mV → mG → mR} {g : mG} {x1 s0 : Int32} : mEv X call 2 t_X6_isCalled (mDrop t_X6_isCalled 28) [some (mr 7 20), some (mi x1)] [mi s0] g = if s0 = 0 then mEv X call 2 t_X6_isCalled (mDrop t_X6_isCalled 35) [some (mr 7 20), some (mi x1)] [] g else mEv X call 2 t_X6_isCalled (mDrop t_X6_isCalled 31) [some (mr 7 20), some (mi x1)] [] g := (mEv_1 _ _ _ _).trans rfl
theorem e_X6_isCalled_35 {X : mX} {call : Nat → List mV → mG → mR} {g : mG} {x1 : Int32} : mEv X call 2 t_X6_isCalled (mDrop t_X6_isCalled 35) [some (mr 7 20), some (mi x1)] [] g = mEv X call 2 t_X6_isCalled (mDrop t_X6_isCalled 36) [some (mr 7 20), some (mi x1)] [mi 0] g := (mEv_1 _ _ _ _).trans rfl
noncomputable def P_X6_isCalled (c : mC) (x1 : Int32) : (Option (Int32)) := (mBo (α := Int32) none (P_X6_ofPhase c x1 13) (fun v1 => (if v1 = 1 then (J_X6_isCalled_31 c) else (mBo (α := Int32) none (P_X6_ofPhase c x1 12) (fun v2 => (if 0 < v2 then (J_X6_isCalled_31 c) else (mBo (α := Int32) none (P_X6_mark c x1 7) (fun v3 => (if v3 = 0 then (some 0) else (J_X6_isCalled_31 c))))))))))
theorem rr_X6_isCalled (d : Nat) {X : mX} {g : mG} {x1 : Int32} {c : mC} : mCall mD X (d + 4) 176 [mr 7 20, mi x1] (mU g 7 c) = (wO (wI g 7 c)) (P_X6_isCalled c x1) := by
  refine Eq.trans (mCall_eq (d := d + 3) rfl) ?_
  show mEv X (mCall mD X (d + 3)) 2 t_X6_isCalled (mDrop t_X6_isCalled 0) [some (mr 7 20), some (mi x1)] [] (mU g 7 c) = _
  refine Eq.trans (e_X6_isCalled_0) ?_
  try simp only [mU_same, mU_mU]
  refine mw_oI ?_ (rr_X6_ofPhase (d + 1)) (fun v1 => ?_)
  · rfl
  refine Eq.trans (e_X6_isCalled_7) ?_
  try simp only [mU_same, mU_mU]
  refine mw_ite (fun h6 => ?_) (fun h6 => ?_)
  · exact rj_X6_isCalled_31 d
  · refine Eq.trans (e_X6_isCalled_11) ?_
    try simp only [mU_same, mU_mU]
    refine mw_oI ?_ (rr_X6_ofPhase (d + 1)) (fun v2 => ?_)
    · rfl
    refine Eq.trans (e_X6_isCalled_18) ?_
    try simp only [mU_same, mU_mU]
    refine mw_ite (fun h5 => ?_) (fun h5 => ?_)
    · exact rj_X6_isCalled_31 d
    · refine Eq.trans (e_X6_isCalled_21) ?_
      try simp only [mU_same, mU_mU]
      refine mw_oI ?_ (rr_X6_mark d) (fun v3 => ?_)
      · rfl
      refine Eq.trans (e_X6_isCalled_28) ?_
      try simp only [mU_same, mU_mU]
      refine mw_ite (fun h4 => ?_) (fun h4 => ?_)
      · refine Eq.trans (e_X6_isCalled_35) ?_
        try simp only [mU_same, mU_mU]
        refine Eq.trans (e_X6_isCalled_36) ?_
        try simp only [mU_same, mU_mU]
        exact if_pos (by decide)
      · exact rj_X6_isCalled_31 d
theorem rr_X6_isCalled_at (d : Nat) {X : mX} {g : mG} {x1 : Int32} : mCall mD X (d + 4) 176 [mr 7 20, mi x1] g = wO (wN g) (P_X6_isCalled (g 7) x1) := by
  have h := rr_X6_isCalled (X := X) d (g := g) (c := g 7) (x1 := x1)
  rw [mU_self] at h
  exact h.trans (wOI_self _ _ _)
theorem e_X6_isOnFoot_0 {X : mX} {call : Nat → List mV → mG → mR} {g : mG} {x1 : Int32} : mEv X call 2 t_X6_isOnFoot (mDrop t_X6_isOnFoot 0) [some (mr 7 20), some (mi x1)] [] g = mAns (mEv X call 2 t_X6_isOnFoot) (mDrop t_X6_isOnFoot 6) [some (mr 7 20), some (mi x1)] [] (call 167 [mr 7 20, mi x1, mi 5] g) := (mEv_4 _ _ _ _).trans rfl
theorem e_X6_isOnFoot_6 {X : mX} {call : Nat → List mV → mG → mR} {g : mG} {x1 s0 : Int32} : mEv X call 2 t_X6_isOnFoot (mDrop t_X6_isOnFoot 6) [some (mr 7 20), some (mi x1)] [mi s0] g = if s0 ≤ 0 then mEv X call 2 t_X6_isOnFoot (mDrop t_X6_isOnFoot 35) [some (mr 7 20), some (mi x1)] [] g else mEv X call 2 t_X6_isOnFoot (mDrop t_X6_isOnFoot 9) [some (mr 7 20), some (mi x1)] [] g := (mEv_1 _ _ _ _).trans rfl
theorem e_X6_isOnFoot_35 {X : mX} {call : Nat → List mV → mG → mR} {g : mG} {x1 : Int32} : mEv X call 2 t_X6_isOnFoot (mDrop t_X6_isOnFoot 35) [some (mr 7 20), some (mi x1)] [] g = mEv X call 2 t_X6_isOnFoot (mDrop t_X6_isOnFoot 36) [some (mr 7 20), some (mi x1)] [mi 0] g := (mEv_1 _ _ _ _).trans rfl
theorem e_X6_isOnFoot_36 {X : mX} {call : Nat → List mV → mG → mR} {g : mG} {x1 s0 : Int32} : mEv X call 2 t_X6_isOnFoot (mDrop t_X6_isOnFoot 36) [some (mr 7 20), some (mi x1)] [mi s0] g = if (s0 : Int32) &&& 1 = s0 then some (some (mi s0), g) else none := (mEv_1 _ _ _ _).trans rfl
noncomputable def J_X6_isOnFoot_35 (c : mC) : (Option (Int32)) := (some 0)
theorem rj_X6_isOnFoot_35 (d : Nat) {X : mX} {g : mG} {x1 : Int32} {c : mC} : mEv X (mCall mD X (d + 3)) 2 t_X6_isOnFoot (mDrop t_X6_isOnFoot 35) [some (mr 7 20), some (mi x1)] [] (mU g 7 c) = (wO (wI g 7 c)) (J_X6_isOnFoot_35 c) := by
  refine Eq.trans (e_X6_isOnFoot_35) ?_
  try simp only [mU_same, mU_mU]
  refine Eq.trans (e_X6_isOnFoot_36) ?_
  try simp only [mU_same, mU_mU]
  exact if_pos (by decide)
theorem e_X6_isOnFoot_9 {X : mX} {call : Nat → List mV → mG → mR} {g : mG} {x1 : Int32} : mEv X call 2 t_X6_isOnFoot (mDrop t_X6_isOnFoot 9) [some (mr 7 20), some (mi x1)] [] g = mAns (mEv X call 2 t_X6_isOnFoot) (mDrop t_X6_isOnFoot 16) [some (mr 7 20), some (mi x1)] [] (call 165 [mr 7 20, mi x1, mi 14] g) := (mEv_4 _ _ _ _).trans rfl
theorem e_X6_isOnFoot_16 {X : mX} {call : Nat → List mV → mG → mR} {g : mG} {x1 s0 : Int32} : mEv X call 2 t_X6_isOnFoot (mDrop t_X6_isOnFoot 16) [some (mr 7 20), some (mi x1)] [mi s0] g = if s0 = 1 then mEv X call 2 t_X6_isOnFoot (mDrop t_X6_isOnFoot 31) [some (mr 7 20), some (mi x1)] [] g else mEv X call 2 t_X6_isOnFoot (mDrop t_X6_isOnFoot 20) [some (mr 7 20), some (mi x1)] [] g := (mEv_2 _ _ _ _).trans rfl
theorem e_X6_isOnFoot_31 {X : mX} {call : Nat → List mV → mG → mR} {g : mG} {x1 : Int32} : mEv X call 2 t_X6_isOnFoot (mDrop t_X6_isOnFoot 31) [some (mr 7 20), some (mi x1)] [] g = mEv X call 2 t_X6_isOnFoot (mDrop t_X6_isOnFoot 36) [some (mr 7 20), some (mi x1)] [mi 1] g := (mEv_2 _ _ _ _).trans rfl
noncomputable def J_X6_isOnFoot_31 (c : mC) : (Option (Int32)) := (some 1)
theorem rj_X6_isOnFoot_31 (d : Nat) {X : mX} {g : mG} {x1 : Int32} {c : mC} : mEv X (mCall mD X (d + 3)) 2 t_X6_isOnFoot (mDrop t_X6_isOnFoot 31) [some (mr 7 20), some (mi x1)] [] (mU g 7 c) = (wO (wI g 7 c)) (J_X6_isOnFoot_31 c) := by
  refine Eq.trans (e_X6_isOnFoot_31) ?_
  try simp only [mU_same, mU_mU]
  refine Eq.trans (e_X6_isOnFoot_36) ?_
  try simp only [mU_same, mU_mU]
  exact if_pos (by decide)
theorem e_X6_isOnFoot_20 {X : mX} {call : Nat → List mV → mG → mR} {g : mG} {x1 : Int32} : mEv X call 2 t_X6_isOnFoot (mDrop t_X6_isOnFoot 20) [some (mr 7 20), some (mi x1)] [] g = mAns (mEv X call 2 t_X6_isOnFoot) (mDrop t_X6_isOnFoot 27) [some (mr 7 20), some (mi x1)] [] (call 167 [mr 7 20, mi x1, mi 7] g) := (mEv_4 _ _ _ _).trans rfl
theorem e_X6_isOnFoot_27 {X : mX} {call : Nat → List mV → mG → mR} {g : mG} {x1 s0 : Int32} : mEv X call 2 t_X6_isOnFoot (mDrop t_X6_isOnFoot 27) [some (mr 7 20), some (mi x1)] [mi s0] g = if s0 = 3 then mEv X call 2 t_X6_isOnFoot (mDrop t_X6_isOnFoot 31) [some (mr 7 20), some (mi x1)] [] g else mEv X call 2 t_X6_isOnFoot (mDrop t_X6_isOnFoot 35) [some (mr 7 20), some (mi x1)] [] g := (mEv_2 _ _ _ _).trans rfl
noncomputable def P_X6_isOnFoot (c : mC) (x1 : Int32) : (Option (Int32)) := (mBo (α := Int32) none (P_X6_mark c x1 5) (fun v1 => (if v1 ≤ 0 then (J_X6_isOnFoot_35 c) else (mBo (α := Int32) none (P_X6_ofPhase c x1 14) (fun v2 => (if v2 = 1 then (J_X6_isOnFoot_31 c) else (mBo (α := Int32) none (P_X6_mark c x1 7) (fun v3 => (if v3 = 3 then (J_X6_isOnFoot_31 c) else (J_X6_isOnFoot_35 c))))))))))
theorem rr_X6_isOnFoot (d : Nat) {X : mX} {g : mG} {x1 : Int32} {c : mC} : mCall mD X (d + 4) 177 [mr 7 20, mi x1] (mU g 7 c) = (wO (wI g 7 c)) (P_X6_isOnFoot c x1) := by
  refine Eq.trans (mCall_eq (d := d + 3) rfl) ?_
  show mEv X (mCall mD X (d + 3)) 2 t_X6_isOnFoot (mDrop t_X6_isOnFoot 0) [some (mr 7 20), some (mi x1)] [] (mU g 7 c) = _
  refine Eq.trans (e_X6_isOnFoot_0) ?_
  try simp only [mU_same, mU_mU]
  refine mw_oI ?_ (rr_X6_mark d) (fun v1 => ?_)
  · rfl
  refine Eq.trans (e_X6_isOnFoot_6) ?_
  try simp only [mU_same, mU_mU]
  refine mw_ite (fun h6 => ?_) (fun h6 => ?_)
  · exact rj_X6_isOnFoot_35 d
  · refine Eq.trans (e_X6_isOnFoot_9) ?_
    try simp only [mU_same, mU_mU]
    refine mw_oI ?_ (rr_X6_ofPhase (d + 1)) (fun v2 => ?_)
    · rfl
    refine Eq.trans (e_X6_isOnFoot_16) ?_
    try simp only [mU_same, mU_mU]
    refine mw_ite (fun h5 => ?_) (fun h5 => ?_)
    · exact rj_X6_isOnFoot_31 d
    · refine Eq.trans (e_X6_isOnFoot_20) ?_
      try simp only [mU_same, mU_mU]
      refine mw_oI ?_ (rr_X6_mark d) (fun v3 => ?_)
      · rfl
      refine Eq.trans (e_X6_isOnFoot_27) ?_
      try simp only [mU_same, mU_mU]
      refine mw_ite (fun h4 => ?_) (fun h4 => ?_)
      · exact rj_X6_isOnFoot_31 d
      · exact rj_X6_isOnFoot_35 d
theorem rr_X6_isOnFoot_at (d : Nat) {X : mX} {g : mG} {x1 : Int32} : mCall mD X (d + 4) 177 [mr 7 20, mi x1] g = wO (wN g) (P_X6_isOnFoot (g 7) x1) := by
  have h := rr_X6_isOnFoot (X := X) d (g := g) (c := g 7) (x1 := x1)
  rw [mU_self] at h
  exact h.trans (wOI_self _ _ _)
theorem e_X6_isAsked_0 {X : mX} {call : Nat → List mV → mG → mR} {g : mG} {x1 : Int32} : mEv X call 2 t_X6_isAsked (mDrop t_X6_isAsked 0) [some (mr 7 20), some (mi x1)] [] g = mAns (mEv X call 2 t_X6_isAsked) (mDrop t_X6_isAsked 5) [some (mr 7 20), some (mi x1)] [] (call 176 [mr 7 20, mi x1] g) := (mEv_3 _ _ _ _).trans rfl
theorem e_X6_isAsked_5 {X : mX} {call : Nat → List mV → mG → mR} {g : mG} {x1 s0 : Int32} : mEv X call 2 t_X6_isAsked (mDrop t_X6_isAsked 5) [some (mr 7 20), some (mi x1)] [mi s0] g = if s0 = 0 then mEv X call 2 t_X6_isAsked (mDrop t_X6_isAsked 8) [some (mr 7 20), some (mi x1)] [] g else mEv X call 2 t_X6_isAsked (mDrop t_X6_isAsked 16) [some (mr 7 20), some (mi x1)] [] g := (mEv_1 _ _ _ _).trans rfl
theorem e_X6_isAsked_8 {X : mX} {call : Nat → List mV → mG → mR} {g : mG} {x1 : Int32} : mEv X call 2 t_X6_isAsked (mDrop t_X6_isAsked 8) [some (mr 7 20), some (mi x1)] [] g = mAns (mEv X call 2 t_X6_isAsked) (mDrop t_X6_isAsked 13) [some (mr 7 20), some (mi x1)] [] (call 177 [mr 7 20, mi x1] g) := (mEv_3 _ _ _ _).trans rfl
theorem e_X6_isAsked_13 {X : mX} {call : Nat → List mV → mG → mR} {g : mG} {x1 s0 : Int32} : mEv X call 2 t_X6_isAsked (mDrop t_X6_isAsked 13) [some (mr 7 20), some (mi x1)] [mi s0] g = if s0 = 0 then mEv X call 2 t_X6_isAsked (mDrop t_X6_isAsked 20) [some (mr 7 20), some (mi x1)] [] g else mEv X call 2 t_X6_isAsked (mDrop t_X6_isAsked 16) [some (mr 7 20), some (mi x1)] [] g := (mEv_1 _ _ _ _).trans rfl
theorem e_X6_isAsked_20 {X : mX} {call : Nat → List mV → mG → mR} {g : mG} {x1 : Int32} : mEv X call 2 t_X6_isAsked (mDrop t_X6_isAsked 20) [some (mr 7 20), some (mi x1)] [] g = mEv X call 2 t_X6_isAsked (mDrop t_X6_isAsked 21) [some (mr 7 20), some (mi x1)] [mi 0] g := (mEv_1 _ _ _ _).trans rfl
theorem e_X6_isAsked_21 {X : mX} {call : Nat → List mV → mG → mR} {g : mG} {x1 s0 : Int32} : mEv X call 2 t_X6_isAsked (mDrop t_X6_isAsked 21) [some (mr 7 20), some (mi x1)] [mi s0] g = if (s0 : Int32) &&& 1 = s0 then some (some (mi s0), g) else none := (mEv_1 _ _ _ _).trans rfl
theorem e_X6_isAsked_16 {X : mX} {call : Nat → List mV → mG → mR} {g : mG} {x1 : Int32} : mEv X call 2 t_X6_isAsked (mDrop t_X6_isAsked 16) [some (mr 7 20), some (mi x1)] [] g = mEv X call 2 t_X6_isAsked (mDrop t_X6_isAsked 21) [some (mr 7 20), some (mi x1)] [mi 1] g := (mEv_2 _ _ _ _).trans rfl
noncomputable def J_X6_isAsked_16 (c : mC) : (Option (Int32)) := (some 1)
theorem rj_X6_isAsked_16 (d : Nat) {X : mX} {g : mG} {x1 : Int32} {c : mC} : mEv X (mCall mD X (d + 4)) 2 t_X6_isAsked (mDrop t_X6_isAsked 16) [some (mr 7 20), some (mi x1)] [] (mU g 7 c) = (wO (wI g 7 c)) (J_X6_isAsked_16 c) := by
  refine Eq.trans (e_X6_isAsked_16) ?_
  try simp only [mU_same, mU_mU]
  refine Eq.trans (e_X6_isAsked_21) ?_
  try simp only [mU_same, mU_mU]
  exact if_pos (by decide)
noncomputable def P_X6_isAsked (c : mC) (x1 : Int32) : (Option (Int32)) := (mBo (α := Int32) none (P_X6_isCalled c x1) (fun v1 => (if v1 = 0 then (mBo (α := Int32) none (P_X6_isOnFoot c x1) (fun v2 => (if v2 = 0 then (some 0) else (J_X6_isAsked_16 c)))) else (J_X6_isAsked_16 c))))
theorem rr_X6_isAsked (d : Nat) {X : mX} {g : mG} {x1 : Int32} {c : mC} : mCall mD X (d + 5) 178 [mr 7 20, mi x1] (mU g 7 c) = (wO (wI g 7 c)) (P_X6_isAsked c x1) := by
  refine Eq.trans (mCall_eq (d := d + 4) rfl) ?_
  show mEv X (mCall mD X (d + 4)) 2 t_X6_isAsked (mDrop t_X6_isAsked 0) [some (mr 7 20), some (mi x1)] [] (mU g 7 c) = _
  refine Eq.trans (e_X6_isAsked_0) ?_
  try simp only [mU_same, mU_mU]
  refine mw_oZ ?_ (rr_X6_isCalled d) rfl (fun v1 hv1 => ?_)
  · rfl
  refine Eq.trans (e_X6_isAsked_5) ?_
  try simp only [mU_same, mU_mU]
  refine mw_ite (fun h4 => ?_) (fun h4 => ?_)
  · refine Eq.trans (e_X6_isAsked_8) ?_
    try simp only [mU_same, mU_mU]
    refine mw_oZ ?_ (rr_X6_isOnFoot d) rfl (fun v2 hv2 => ?_)
    · rfl
    refine Eq.trans (e_X6_isAsked_13) ?_
    try simp only [mU_same, mU_mU]
    refine mw_ite (fun h3 => ?_) (fun h3 => ?_)
    · refine Eq.trans (e_X6_isAsked_20) ?_
      try simp only [mU_same, mU_mU]
      refine Eq.trans (e_X6_isAsked_21) ?_
      try simp only [mU_same, mU_mU]
      exact if_pos (by decide)
    · exact rj_X6_isAsked_16 d
  · exact rj_X6_isAsked_16 d
theorem rr_X6_isAsked_at (d : Nat) {X : mX} {g : mG} {x1 : Int32} : mCall mD X (d + 5) 178 [mr 7 20, mi x1] g = wO (wN g) (P_X6_isAsked (g 7) x1) := by
  have h := rr_X6_isAsked (X := X) d (g := g) (c := g 7) (x1 := x1)
  rw [mU_self] at h
  exact h.trans (wOI_self _ _ _)
theorem e_X6_firstOf_0 {X : mX} {call : Nat → List mV → mG → mR} {g : mG} {x1 x2 x3 x4 : Int32} : mEv X call 1 t_X6_firstOf (mDrop t_X6_firstOf 0) [some (mr 7 20), some (mi x1), some (mi x2), some (mi x3), some (mi x4), none] [] g = mEv X call 1 t_X6_firstOf (mDrop t_X6_firstOf 5) [some (mr 7 20), some (mi x1), some (mi x2), some (mi x3), some (mi x4), some (mi (x3 + 1))] [] g := (mEv_4 _ _ _ _).trans rfl
theorem e_X6_firstOf_5 {X : mX} {call : Nat → List mV → mG → mR} {g : mG} {x1 x2 x3 x4 x5 : Int32} : mEv X call 1 t_X6_firstOf (mDrop t_X6_firstOf 5) [some (mr 7 20), some (mi x1), some (mi x2), some (mi x3), some (mi x4), some (mi x5)] [] g = mAns (mEv X call 1 t_X6_firstOf) (mDrop t_X6_firstOf 12) [some (mr 7 20), some (mi x1), some (mi x2), some (mi x3), some (mi x4), some (mi x5)] [mi x5] (call 158 [mr 7 20, mi 0] g) := (mEv_4 _ _ _ _).trans rfl
theorem e_X6_firstOf_12 {X : mX} {call : Nat → List mV → mG → mR} {g : mG} {x1 x2 x3 x4 x5 s0 s1 : Int32} : mEv X call 1 t_X6_firstOf (mDrop t_X6_firstOf 12) [some (mr 7 20), some (mi x1), some (mi x2), some (mi x3), some (mi x4), some (mi x5)] [mi s1, mi s0] g = if s1 ≤ s0 then mEv X call 1 t_X6_firstOf (mDrop t_X6_firstOf 60) [some (mr 7 20), some (mi x1), some (mi x2), some (mi x3), some (mi x4), some (mi x5)] [] g else mEv X call 1 t_X6_firstOf (mDrop t_X6_firstOf 15) [some (mr 7 20), some (mi x1), some (mi x2), some (mi x3), some (mi x4), some (mi x5)] [] g := (mEv_1 _ _ _ _).trans rfl
theorem e_X6_firstOf_60 {X : mX} {call : Nat → List mV → mG → mR} {g : mG} {x1 x2 x3 x4 x5 : Int32} : mEv X call 1 t_X6_firstOf (mDrop t_X6_firstOf 60) [some (mr 7 20), some (mi x1), some (mi x2), some (mi x3), some (mi x4), some (mi x5)] [] g = some (some (mi (-1)), g) := (mEv_2 _ _ _ _).trans rfl
theorem e_X6_firstOf_15 {X : mX} {call : Nat → List mV → mG → mR} {g : mG} {x1 x2 x3 x4 x5 : Int32} : mEv X call 1 t_X6_firstOf (mDrop t_X6_firstOf 15) [some (mr 7 20), some (mi x1), some (mi x2), some (mi x3), some (mi x4), some (mi x5)] [] g = mAns (mEv X call 1 t_X6_firstOf) (mDrop t_X6_firstOf 22) [some (mr 7 20), some (mi x1), some (mi x2), some (mi x3), some (mi x4), some (mi x5)] [] (call 165 [mr 7 20, mi x5, mi 0] g) := (mEv_4 _ _ _ _).trans rfl
theorem e_X6_firstOf_22 {X : mX} {call : Nat → List mV → mG → mR} {g : mG} {x1 x2 x3 x4 x5 s0 : Int32} : mEv X call 1 t_X6_firstOf (mDrop t_X6_firstOf 22) [some (mr 7 20), some (mi x1), some (mi x2), some (mi x3), some (mi x4), some (mi x5)] [mi s0] g = if s0 = x1 then mEv X call 1 t_X6_firstOf (mDrop t_X6_firstOf 26) [some (mr 7 20), some (mi x1), some (mi x2), some (mi x3), some (mi x4), some (mi x5)] [] g else mEv X call 1 t_X6_firstOf (mDrop t_X6_firstOf 54) [some (mr 7 20), some (mi x1), some (mi x2), some (mi x3), some (mi x4), some (mi x5)] [] g := (mEv_2 _ _ _ _).trans rfl
theorem e_X6_firstOf_26 {X : mX} {call : Nat → List mV → mG → mR} {g : mG} {x1 x2 x3 x4 x5 : Int32} : mEv X call 1 t_X6_firstOf (mDrop t_X6_firstOf 26) [some (mr 7 20), some (mi x1), some (mi x2), some (mi x3), some (mi x4), some (mi x5)] [] g = mAns (mEv X call 1 t_X6_firstOf) (mDrop t_X6_firstOf 33) [some (mr 7 20), some (mi x1), some (mi x2), some (mi x3), some (mi x4), some (mi x5)] [] (call 165 [mr 7 20, mi x5, mi 1] g) := (mEv_4 _ _ _ _).trans rfl
theorem e_X6_firstOf_33 {X : mX} {call : Nat → List mV → mG → mR} {g : mG} {x1 x2 x3 x4 x5 s0 : Int32} : mEv X call 1 t_X6_firstOf (mDrop t_X6_firstOf 33) [some (mr 7 20), some (mi x1), some (mi x2), some (mi x3), some (mi x4), some (mi x5)] [mi s0] g = if s0 = x2 then mEv X call 1 t_X6_firstOf (mDrop t_X6_firstOf 37) [some (mr 7 20), some (mi x1), some (mi x2), some (mi x3), some (mi x4), some (mi x5)] [] g else mEv X call 1 t_X6_firstOf (mDrop t_X6_firstOf 54) [some (mr 7 20), some (mi x1), some (mi x2), some (mi x3), some (mi x4), some (mi x5)] [] g := (mEv_2 _ _ _ _).trans rfl
theorem e_X6_firstOf_37 {X : mX} {call : Nat → List mV → mG → mR} {g : mG} {x1 x2 x3 x4 x5 : Int32} : mEv X call 1 t_X6_firstOf (mDrop t_X6_firstOf 37) [some (mr 7 20), some (mi x1), some (mi x2), some (mi x3), some (mi x4), some (mi x5)] [] g = if x4 = 0 then mEv X call 1 t_X6_firstOf (mDrop t_X6_firstOf 51) [some (mr 7 20), some (mi x1), some (mi x2), some (mi x3), some (mi x4), some (mi x5)] [] g else mEv X call 1 t_X6_firstOf (mDrop t_X6_firstOf 42) [some (mr 7 20), some (mi x1), some (mi x2), some (mi x3), some (mi x4), some (mi x5)] [] g := (mEv_2 _ _ _ _).trans rfl
theorem e_X6_firstOf_51 {X : mX} {call : Nat → List mV → mG → mR} {g : mG} {x1 x2 x3 x4 x5 : Int32} : mEv X call 1 t_X6_firstOf (mDrop t_X6_firstOf 51) [some (mr 7 20), some (mi x1), some (mi x2), some (mi x3), some (mi x4), some (mi x5)] [] g = some (some (mi x5), g) := (mEv_2 _ _ _ _).trans rfl
noncomputable def J_X6_firstOf_51 (c : mC) (x5 : Int32) : (Option (Int32)) := (some x5)
theorem rj_X6_firstOf_51 (d : Nat) {X : mX} {g : mG} {x1 x2 x3 x4 x5 : Int32} {c : mC} : mEv X (mCall mD X (d + 5)) 1 t_X6_firstOf (mDrop t_X6_firstOf 51) [some (mr 7 20), some (mi x1), some (mi x2), some (mi x3), some (mi x4), some (mi x5)] [] (mU g 7 c) = (wO (wI g 7 c)) (J_X6_firstOf_51 c x5) := by
  refine Eq.trans (e_X6_firstOf_51) ?_
  try simp only [mU_same, mU_mU]
  all_goals rfl
theorem e_X6_firstOf_42 {X : mX} {call : Nat → List mV → mG → mR} {g : mG} {x1 x2 x3 x4 x5 : Int32} : mEv X call 1 t_X6_firstOf (mDrop t_X6_firstOf 42) [some (mr 7 20), some (mi x1), some (mi x2), some (mi x3), some (mi x4), some (mi x5)] [] g = mAns (mEv X call 1 t_X6_firstOf) (mDrop t_X6_firstOf 48) [some (mr 7 20), some (mi x1), some (mi x2), some (mi x3), some (mi x4), some (mi x5)] [] (call 178 [mr 7 20, mi x5] g) := (mEv_3 _ _ _ _).trans rfl
theorem e_X6_firstOf_48 {X : mX} {call : Nat → List mV → mG → mR} {g : mG} {x1 x2 x3 x4 x5 s0 : Int32} : mEv X call 1 t_X6_firstOf (mDrop t_X6_firstOf 48) [some (mr 7 20), some (mi x1), some (mi x2), some (mi x3), some (mi x4), some (mi x5)] [mi s0] g = if s0 = 0 then mEv X call 1 t_X6_firstOf (mDrop t_X6_firstOf 54) [some (mr 7 20), some (mi x1), some (mi x2), some (mi x3), some (mi x4), some (mi x5)] [] g else mEv X call 1 t_X6_firstOf (mDrop t_X6_firstOf 51) [some (mr 7 20), some (mi x1), some (mi x2), some (mi x3), some (mi x4), some (mi x5)] [] g := (mEv_1 _ _ _ _).trans rfl
theorem e_X6_firstOf_54 {X : mX} {call : Nat → List mV → mG → mR} {g : mG} {x1 x2 x3 x4 x5 : Int32} : mEv X call 1 t_X6_firstOf (mDrop t_X6_firstOf 54) [some (mr 7 20), some (mi x1), some (mi x2), some (mi x3), some (mi x4), some (mi x5)] [] g = mEv X call 1 t_X6_firstOf (mDrop t_X6_firstOf 5) [some (mr 7 20), some (mi x1), some (mi x2), some (mi x3), some (mi x4), some (mi (x5 + 1))] [] g := (mEv_2 _ _ _ _).trans rfl
noncomputable def J_X6_firstOf_54 (c : mC) (x1 : Int32) (x2 : Int32) (x4 : Int32) (x5 : Int32) : ((Int32) ⊕ (Option (Int32))) := (.inl (x5 + 1))
theorem rj_X6_firstOf_54 (d : Nat) {X : mX} {g : mG} {x1 x2 x3 x4 x5 : Int32} {c : mC} : mEv X (mCall mD X (d + 5)) 1 t_X6_firstOf (mDrop t_X6_firstOf 54) [some (mr 7 20), some (mi x1), some (mi x2), some (mi x3), some (mi x4), some (mi x5)] [] (mU g 7 c) = (wB (fun x5 : (Int32) => mEv X (mCall mD X (d + 5)) 1 t_X6_firstOf (mDrop t_X6_firstOf 5) [some (mr 7 20), some (mi x1), some (mi x2), some (mi x3), some (mi x4), some (mi x5)] [] (mU g 7 c)) (wO (wI g 7 c))) (J_X6_firstOf_54 c x1 x2 x4 x5) := by
  refine Eq.trans (e_X6_firstOf_54) ?_
  try simp only [mU_same, mU_mU]
  exact mw_inl rfl
noncomputable def B_X6_firstOf_5 (c : mC) (x1 : Int32) (x2 : Int32) (x4 : Int32) : (Int32) → (Int32) ⊕ (Option (Int32)) := fun x5 => (mBo (α := Int32) (.inr none) (P_X6_of c 0) (fun v1 => (if v1 ≤ x5 then (.inr (some (-1))) else (mBo (α := Int32) (.inr none) (P_X6_ofPhase c x5 0) (fun v2 => (if v2 = x1 then (mBo (α := Int32) (.inr none) (P_X6_ofPhase c x5 1) (fun v3 => (if v3 = x2 then (if x4 = 0 then (.inr (J_X6_firstOf_51 c x5)) else (mBo (α := Int32) (.inr none) (P_X6_isAsked c x5) (fun v4 => (if v4 = 0 then (J_X6_firstOf_54 c x1 x2 x4 x5) else (.inr (J_X6_firstOf_51 c x5)))))) else (J_X6_firstOf_54 c x1 x2 x4 x5)))) else (J_X6_firstOf_54 c x1 x2 x4 x5)))))))
set_option maxRecDepth 100000 in
theorem tm_X6_firstOf_5 {c : mC} {x1 : Int32} {x2 : Int32} {x4 : Int32} : mTm (B_X6_firstOf_5 c x1 x2 x4) := by
  refine ⟨fun x5 => mMx x5, fun s s2 h => ?_⟩
  skip
  simp only [B_X6_firstOf_5, J_X6_firstOf_54, mBd, mBo] at h
  (repeat' split at h) <;> first | (have h2 := Sum.inl.inj h; subst h2; dsimp only; first | exact mtm_max (by assumption) | exact mtm_lt (by assumption)) | (cases h; done)
theorem rl_X6_firstOf_5 (d : Nat) {X : mX} {g : mG} {x1 x2 x3 x4 x5 : Int32} {c : mC} : mEv X (mCall mD X (d + 5)) 1 t_X6_firstOf (mDrop t_X6_firstOf 5) [some (mr 7 20), some (mi x1), some (mi x2), some (mi x3), some (mi x4), some (mi x5)] [] (mU g 7 c) = (wO (wI g 7 c)) (mWh none (B_X6_firstOf_5 c x1 x2 x4) x5) := by
  refine mWh_ev (B := (B_X6_firstOf_5 c x1 x2 x4)) (ev := fun x5 : (Int32) => mEv X (mCall mD X (d + 5)) 1 t_X6_firstOf (mDrop t_X6_firstOf 5) [some (mr 7 20), some (mi x1), some (mi x2), some (mi x3), some (mi x4), some (mi x5)] [] (mU g 7 c)) (w := (wO (wI g 7 c))) (tm_X6_firstOf_5) ?_ x5
  intro x5
  show mEv X (mCall mD X (d + 5)) 1 t_X6_firstOf (mDrop t_X6_firstOf 5) [some (mr 7 20), some (mi x1), some (mi x2), some (mi x3), some (mi x4), some (mi x5)] [] (mU g 7 c) = wB (fun x5 : (Int32) => mEv X (mCall mD X (d + 5)) 1 t_X6_firstOf (mDrop t_X6_firstOf 5) [some (mr 7 20), some (mi x1), some (mi x2), some (mi x3), some (mi x4), some (mi x5)] [] (mU g 7 c)) (wO (wI g 7 c)) (mBo (α := Int32) (.inr none) (P_X6_of c 0) (fun v1 => (if v1 ≤ x5 then (.inr (some (-1))) else (mBo (α := Int32) (.inr none) (P_X6_ofPhase c x5 0) (fun v2 => (if v2 = x1 then (mBo (α := Int32) (.inr none) (P_X6_ofPhase c x5 1) (fun v3 => (if v3 = x2 then (if x4 = 0 then (.inr (J_X6_firstOf_51 c x5)) else (mBo (α := Int32) (.inr none) (P_X6_isAsked c x5) (fun v4 => (if v4 = 0 then (J_X6_firstOf_54 c x1 x2 x4 x5) else (.inr (J_X6_firstOf_51 c x5)))))) else (J_X6_firstOf_54 c x1 x2 x4 x5)))) else (J_X6_firstOf_54 c x1 x2 x4 x5)))))))
  refine Eq.trans (e_X6_firstOf_5) ?_
  try simp only [mU_same, mU_mU]
  refine mw_oI ?_ (rr_X6_of (d + 4)) (fun v1 => ?_)
  · rfl
  refine Eq.trans (e_X6_firstOf_12) ?_
  try simp only [mU_same, mU_mU]
  refine mw_ite (fun h9 => ?_) (fun h9 => ?_)
  · refine mw_inr ?_
    refine Eq.trans (e_X6_firstOf_60) ?_
    try simp only [mU_same, mU_mU]
    all_goals rfl
  · refine Eq.trans (e_X6_firstOf_15) ?_
    try simp only [mU_same, mU_mU]
    refine mw_oI ?_ (rr_X6_ofPhase (d + 3)) (fun v2 => ?_)
    · rfl
    refine Eq.trans (e_X6_firstOf_22) ?_
    try simp only [mU_same, mU_mU]
    refine mw_ite (fun h8 => ?_) (fun h8 => ?_)
    · refine Eq.trans (e_X6_firstOf_26) ?_
      try simp only [mU_same, mU_mU]
      refine mw_oI ?_ (rr_X6_ofPhase (d + 3)) (fun v3 => ?_)
      · rfl
      refine Eq.trans (e_X6_firstOf_33) ?_
      try simp only [mU_same, mU_mU]
      refine mw_ite (fun h7 => ?_) (fun h7 => ?_)
      · refine Eq.trans (e_X6_firstOf_37) ?_
        try simp only [mU_same, mU_mU]
        refine mw_ite (fun h6 => ?_) (fun h6 => ?_)
        · refine mw_inr ?_
          exact rj_X6_firstOf_51 d
        · refine Eq.trans (e_X6_firstOf_42) ?_
          try simp only [mU_same, mU_mU]
          refine mw_oZ ?_ (rr_X6_isAsked d) rfl (fun v4 hv4 => ?_)
          · rfl
          refine Eq.trans (e_X6_firstOf_48) ?_
          try simp only [mU_same, mU_mU]
          refine mw_ite (fun h5 => ?_) (fun h5 => ?_)
          · exact rj_X6_firstOf_54 d
          · refine mw_inr ?_
            exact rj_X6_firstOf_51 d
      · exact rj_X6_firstOf_54 d
    · exact rj_X6_firstOf_54 d
noncomputable def P_X6_firstOf (c : mC) (x1 : Int32) (x2 : Int32) (x3 : Int32) (x4 : Int32) : (Option (Int32)) := (mWh none (B_X6_firstOf_5 c x1 x2 x4) (x3 + 1))
theorem rr_X6_firstOf (d : Nat) {X : mX} {g : mG} {x1 x2 x3 x4 : Int32} {c : mC} : mCall mD X (d + 6) 173 [mr 7 20, mi x1, mi x2, mi x3, mi x4] (mU g 7 c) = (wO (wI g 7 c)) (P_X6_firstOf c x1 x2 x3 x4) := by
  refine Eq.trans (mCall_eq (d := d + 5) rfl) ?_
  show mEv X (mCall mD X (d + 5)) 1 t_X6_firstOf (mDrop t_X6_firstOf 0) [some (mr 7 20), some (mi x1), some (mi x2), some (mi x3), some (mi x4), none] [] (mU g 7 c) = _
  refine Eq.trans (e_X6_firstOf_0) ?_
  try simp only [mU_same, mU_mU]
  exact rl_X6_firstOf_5 d
theorem rr_X6_firstOf_at (d : Nat) {X : mX} {g : mG} {x1 x2 x3 x4 : Int32} : mCall mD X (d + 6) 173 [mr 7 20, mi x1, mi x2, mi x3, mi x4] g = wO (wN g) (P_X6_firstOf (g 7) x1 x2 x3 x4) := by
  have h := rr_X6_firstOf (X := X) d (g := g) (c := g 7) (x1 := x1) (x2 := x2) (x3 := x3) (x4 := x4)
  rw [mU_self] at h
  exact h.trans (wOI_self _ _ _)
theorem e_X6_clearsRing_0 {X : mX} {call : Nat → List mV → mG → mR} {g : mG} {x1 : Int32} : mEv X call 0 t_X6_clearsRing (mDrop t_X6_clearsRing 0) [some (mr 7 20), some (mi x1), none] [] g = mEv X call 0 t_X6_clearsRing (mDrop t_X6_clearsRing 2) [some (mr 7 20), some (mi x1), some (mi 0)] [] g := (mEv_2 _ _ _ _).trans rfl
theorem e_X6_clearsRing_2 {X : mX} {call : Nat → List mV → mG → mR} {g : mG} {x1 x2 : Int32} : mEv X call 0 t_X6_clearsRing (mDrop t_X6_clearsRing 2) [some (mr 7 20), some (mi x1), some (mi x2)] [] g = if 8 ≤ x2 then mEv X call 0 t_X6_clearsRing (mDrop t_X6_clearsRing 21) [some (mr 7 20), some (mi x1), some (mi x2)] [] g else mEv X call 0 t_X6_clearsRing (mDrop t_X6_clearsRing 8) [some (mr 7 20), some (mi x1), some (mi x2)] [] g := (mEv_3 _ _ _ _).trans rfl
theorem e_X6_clearsRing_21 {X : mX} {call : Nat → List mV → mG → mR} {g : mG} {x1 x2 : Int32} : mEv X call 0 t_X6_clearsRing (mDrop t_X6_clearsRing 21) [some (mr 7 20), some (mi x1), some (mi x2)] [] g = mAns (mEv X call 0 t_X6_clearsRing) (mDrop t_X6_clearsRing 28) [some (mr 7 20), some (mi x1), some (mi x2)] [] (call 164 [mr 7 20, mi x1, mi 0, mi (-1)] g) := (mEv_5 _ _ _ _).trans rfl
theorem e_X6_clearsRing_28 {X : mX} {call : Nat → List mV → mG → mR} {g : mG} {x1 x2 : Int32} : mEv X call 0 t_X6_clearsRing (mDrop t_X6_clearsRing 28) [some (mr 7 20), some (mi x1), some (mi x2)] [] g = mAns (mEv X call 0 t_X6_clearsRing) (mDrop t_X6_clearsRing 35) [some (mr 7 20), some (mi x1), some (mi x2)] [] (call 164 [mr 7 20, mi x1, mi 1, mi 3] g) := (mEv_5 _ _ _ _).trans rfl
theorem e_X6_clearsRing_35 {X : mX} {call : Nat → List mV → mG → mR} {g : mG} {x1 x2 : Int32} : mEv X call 0 t_X6_clearsRing (mDrop t_X6_clearsRing 35) [some (mr 7 20), some (mi x1), some (mi x2)] [] g = mAns (mEv X call 0 t_X6_clearsRing) (mDrop t_X6_clearsRing 42) [some (mr 7 20), some (mi x1), some (mi x2)] [] (call 164 [mr 7 20, mi x1, mi 3, mi (-1)] g) := (mEv_5 _ _ _ _).trans rfl
theorem e_X6_clearsRing_42 {X : mX} {call : Nat → List mV → mG → mR} {g : mG} {x1 x2 : Int32} : mEv X call 0 t_X6_clearsRing (mDrop t_X6_clearsRing 42) [some (mr 7 20), some (mi x1), some (mi x2)] [] g = some (none, g) := (mEv_1 _ _ _ _).trans rfl
theorem e_X6_clearsRing_8 {X : mX} {call : Nat → List mV → mG → mR} {g : mG} {x1 x2 : Int32} : mEv X call 0 t_X6_clearsRing (mDrop t_X6_clearsRing 8) [some (mr 7 20), some (mi x1), some (mi x2)] [] g = mAns (mEv X call 0 t_X6_clearsRing) (mDrop t_X6_clearsRing 15) [some (mr 7 20), some (mi x1), some (mi x2)] [] (call 164 [mr 7 20, mi x1, mi x2, mi 0] g) := (mEv_5 _ _ _ _).trans rfl
theorem e_X6_clearsRing_15 {X : mX} {call : Nat → List mV → mG → mR} {g : mG} {x1 x2 : Int32} : mEv X call 0 t_X6_clearsRing (mDrop t_X6_clearsRing 15) [some (mr 7 20), some (mi x1), some (mi x2)] [] g = mEv X call 0 t_X6_clearsRing (mDrop t_X6_clearsRing 2) [some (mr 7 20), some (mi x1), some (mi (x2 + 1))] [] g := (mEv_2 _ _ _ _).trans rfl
noncomputable def B_X6_clearsRing_2 (x1 : Int32) : (Int32 × mC) → (Int32 × mC) ⊕ (Option (mC)) := fun s => match s with | (x2, c) => (if 8 ≤ x2 then (.inr (mBo (α := mC) none (P_X6_putsRing c x1 0 (-1)) (fun c1 => (mBo (α := mC) none (P_X6_putsRing c1 x1 1 3) (fun c2 => (mBo (α := mC) none (P_X6_putsRing c2 x1 3 (-1)) (fun c3 => (some c3)))))))) else (mBo (α := mC) (.inr none) (P_X6_putsRing c x1 x2 0) (fun c4 => (.inl ((x2 + 1), c4)))))
set_option maxRecDepth 100000 in
theorem tm_X6_clearsRing_2 {x1 : Int32} : mTm (B_X6_clearsRing_2 x1) := by
  refine ⟨fun s => match s with | (x2, c) => mMx x2, fun s s2 h => ?_⟩
  obtain ⟨x2, c⟩ := s
  simp only [B_X6_clearsRing_2, mBd, mBo] at h
  (repeat' split at h) <;> first | (have h2 := Sum.inl.inj h; subst h2; dsimp only; first | exact mtm_max (by assumption) | exact mtm_lt (by assumption)) | (cases h; done)
theorem rl_X6_clearsRing_2 (d : Nat) {X : mX} {g : mG} {x1 x2 : Int32} {c : mC} : mEv X (mCall mD X (d + 2)) 0 t_X6_clearsRing (mDrop t_X6_clearsRing 2) [some (mr 7 20), some (mi x1), some (mi x2)] [] (mU g 7 c) = (wO (wV g 7)) (mWh none (B_X6_clearsRing_2 x1) (x2, c)) := by
  refine mWh_ev (B := (B_X6_clearsRing_2 x1)) (ev := fun s : (Int32 × mC) => match s with | (x2, c) => mEv X (mCall mD X (d + 2)) 0 t_X6_clearsRing (mDrop t_X6_clearsRing 2) [some (mr 7 20), some (mi x1), some (mi x2)] [] (mU g 7 c)) (w := (wO (wV g 7))) (tm_X6_clearsRing_2) ?_ (x2, c)
  rintro ⟨x2, c⟩
  show mEv X (mCall mD X (d + 2)) 0 t_X6_clearsRing (mDrop t_X6_clearsRing 2) [some (mr 7 20), some (mi x1), some (mi x2)] [] (mU g 7 c) = wB (fun s : (Int32 × mC) => match s with | (x2, c) => mEv X (mCall mD X (d + 2)) 0 t_X6_clearsRing (mDrop t_X6_clearsRing 2) [some (mr 7 20), some (mi x1), some (mi x2)] [] (mU g 7 c)) (wO (wV g 7)) (B_X6_clearsRing_2 x1 (x2, c))
  refine Eq.trans (e_X6_clearsRing_2) ?_
  try simp only [mU_same, mU_mU]
  refine mw_ite (fun h5 => ?_) (fun h5 => ?_)
  · refine mw_inr ?_
    refine Eq.trans (e_X6_clearsRing_21) ?_
    try simp only [mU_same, mU_mU]
    refine mw_oV ?_ (rr_X6_putsRing d) (fun c1 => ?_)
    · rfl
    refine Eq.trans (e_X6_clearsRing_28) ?_
    try simp only [mU_same, mU_mU]
    refine mw_oV ?_ (rr_X6_putsRing d) (fun c2 => ?_)
    · rfl
    refine Eq.trans (e_X6_clearsRing_35) ?_
    try simp only [mU_same, mU_mU]
    refine mw_oV ?_ (rr_X6_putsRing d) (fun c3 => ?_)
    · rfl
    refine Eq.trans (e_X6_clearsRing_42) ?_
    try simp only [mU_same, mU_mU]
    all_goals rfl
  · refine Eq.trans (e_X6_clearsRing_8) ?_
    try simp only [mU_same, mU_mU]
    refine mw_oV ?_ (rr_X6_putsRing d) (fun c4 => ?_)
    · rfl
    refine Eq.trans (e_X6_clearsRing_15) ?_
    try simp only [mU_same, mU_mU]
    exact mw_inl rfl
noncomputable def P_X6_clearsRing (c : mC) (x1 : Int32) : (Option (mC)) := (mWh none (B_X6_clearsRing_2 x1) (0, c))
theorem rr_X6_clearsRing (d : Nat) {X : mX} {g : mG} {x1 : Int32} {c : mC} : mCall mD X (d + 3) 175 [mr 7 20, mi x1] (mU g 7 c) = (wO (wV g 7)) (P_X6_clearsRing c x1) := by
  refine Eq.trans (mCall_eq (d := d + 2) rfl) ?_
  show mEv X (mCall mD X (d + 2)) 0 t_X6_clearsRing (mDrop t_X6_clearsRing 0) [some (mr 7 20), some (mi x1), none] [] (mU g 7 c) = _
  refine Eq.trans (e_X6_clearsRing_0) ?_
  try simp only [mU_same, mU_mU]
  exact rl_X6_clearsRing_2 d
theorem rr_X6_clearsRing_at (d : Nat) {X : mX} {g : mG} {x1 : Int32} : mCall mD X (d + 3) 175 [mr 7 20, mi x1] g = wO (wV g 7) (P_X6_clearsRing (g 7) x1) := by
  have h := rr_X6_clearsRing (X := X) d (g := g) (c := g 7) (x1 := x1)
  rw [mU_self] at h
  exact h
theorem e_X6_starts_0 {X : mX} {call : Nat → List mV → mG → mR} {g : mG} : mEv X call 0 t_X6_starts (mDrop t_X6_starts 0) [some (mr 7 20), none, none] [] g = mEv X call 0 t_X6_starts (mDrop t_X6_starts 4) [some (mr 7 20), some (mi (-1)), some (mi 0)] [] g := (mEv_4 _ _ _ _).trans rfl
theorem e_X6_starts_4 {X : mX} {call : Nat → List mV → mG → mR} {g : mG} {x1 x2 : Int32} : mEv X call 0 t_X6_starts (mDrop t_X6_starts 4) [some (mr 7 20), some (mi x1), some (mi x2)] [] g = if 2 ≤ x2 then mEv X call 0 t_X6_starts (mDrop t_X6_starts 29) [some (mr 7 20), some (mi x1), some (mi x2)] [] g else mEv X call 0 t_X6_starts (mDrop t_X6_starts 9) [some (mr 7 20), some (mi x1), some (mi x2)] [] g := (mEv_3 _ _ _ _).trans rfl
theorem e_X6_starts_29 {X : mX} {call : Nat → List mV → mG → mR} {g : mG} {x1 x2 : Int32} : mEv X call 0 t_X6_starts (mDrop t_X6_starts 29) [some (mr 7 20), some (mi x1), some (mi x2)] [] g = mEv X call 0 t_X6_starts (mDrop t_X6_starts 31) [some (mr 7 20), some (mi x1), some (mi 0)] [] g := (mEv_2 _ _ _ _).trans rfl
theorem e_X6_starts_31 {X : mX} {call : Nat → List mV → mG → mR} {g : mG} {x1 x2 : Int32} : mEv X call 0 t_X6_starts (mDrop t_X6_starts 31) [some (mr 7 20), some (mi x1), some (mi x2)] [] g = if 2 ≤ x2 then mEv X call 0 t_X6_starts (mDrop t_X6_starts 70) [some (mr 7 20), some (mi x1), some (mi x2)] [] g else mEv X call 0 t_X6_starts (mDrop t_X6_starts 36) [some (mr 7 20), some (mi x1), some (mi x2)] [] g := (mEv_3 _ _ _ _).trans rfl
theorem e_X6_starts_70 {X : mX} {call : Nat → List mV → mG → mR} {g : mG} {x1 x2 : Int32} : mEv X call 0 t_X6_starts (mDrop t_X6_starts 70) [some (mr 7 20), some (mi x1), some (mi x2)] [] g = some (none, g) := (mEv_1 _ _ _ _).trans rfl
theorem e_X6_starts_36 {X : mX} {call : Nat → List mV → mG → mR} {g : mG} {x1 x2 : Int32} : mEv X call 0 t_X6_starts (mDrop t_X6_starts 36) [some (mr 7 20), some (mi x1), some (mi x2)] [] g = mAns (mEv X call 0 t_X6_starts) (mDrop t_X6_starts 41) [some (mr 7 20), some (mi x1), some (mi x2)] [] (call 175 [mr 7 20, mi x2] g) := (mEv_3 _ _ _ _).trans rfl
theorem e_X6_starts_41 {X : mX} {call : Nat → List mV → mG → mR} {g : mG} {x1 x2 : Int32} : mEv X call 0 t_X6_starts (mDrop t_X6_starts 41) [some (mr 7 20), some (mi x1), some (mi x2)] [] g = if x1 = (-1) then mEv X call 0 t_X6_starts (mDrop t_X6_starts 51) [some (mr 7 20), some (mi x1), some (mi x2)] [mi x2, mr 7 20, mi 3, mi x2, mr 7 20] g else mEv X call 0 t_X6_starts (mDrop t_X6_starts 55) [some (mr 7 20), some (mi x1), some (mi x2)] [mi x2, mr 7 20, mi 3, mi x2, mr 7 20] g := (mEv_8 _ _ _ _).trans rfl
theorem e_X6_starts_51 {X : mX} {call : Nat → List mV → mG → mR} {g : mG} {x1 x2 s1 s2 s4 : Int32} : mEv X call 0 t_X6_starts (mDrop t_X6_starts 51) [some (mr 7 20), some (mi x1), some (mi x2)] [mi s4, mr 7 20, mi s2, mi s1, mr 7 20] g = mEv X call 0 t_X6_starts (mDrop t_X6_starts 56) [some (mr 7 20), some (mi x1), some (mi x2)] [mi 1, mi s4, mr 7 20, mi s2, mi s1, mr 7 20] g := (mEv_2 _ _ _ _).trans rfl
theorem e_X6_starts_56 {X : mX} {call : Nat → List mV → mG → mR} {g : mG} {x1 x2 s1 s2 s4 s5 : Int32} : mEv X call 0 t_X6_starts (mDrop t_X6_starts 56) [some (mr 7 20), some (mi x1), some (mi x2)] [mi s5, mi s4, mr 7 20, mi s2, mi s1, mr 7 20] g = mAns (mEv X call 0 t_X6_starts) (mDrop t_X6_starts 61) [some (mr 7 20), some (mi x1), some (mi x2)] [mi s2, mi s1, mr 7 20] (call 173 [mr 7 20, mi s4, mi s5, mi (-1), mi 0] g) := (mEv_3 _ _ _ _).trans rfl
theorem e_X6_starts_61 {X : mX} {call : Nat → List mV → mG → mR} {g : mG} {x1 x2 s1 s2 s3 : Int32} : mEv X call 0 t_X6_starts (mDrop t_X6_starts 61) [some (mr 7 20), some (mi x1), some (mi x2)] [mi s3, mi s2, mi s1, mr 7 20] g = mAns (mEv X call 0 t_X6_starts) (mDrop t_X6_starts 64) [some (mr 7 20), some (mi x1), some (mi x2)] [] (call 164 [mr 7 20, mi s1, mi s2, mi s3] g) := (mEv_1 _ _ _ _).trans rfl
theorem e_X6_starts_64 {X : mX} {call : Nat → List mV → mG → mR} {g : mG} {x1 x2 : Int32} : mEv X call 0 t_X6_starts (mDrop t_X6_starts 64) [some (mr 7 20), some (mi x1), some (mi x2)] [] g = mEv X call 0 t_X6_starts (mDrop t_X6_starts 31) [some (mr 7 20), some (mi x1), some (mi (x2 + 1))] [] g := (mEv_2 _ _ _ _).trans rfl
noncomputable def J_X6_starts_56 (c : mC) (x1 : Int32) (x2 : Int32) (s1 : Int32) (s2 : Int32) (s4 : Int32) (s5 : Int32) : ((Int32 × mC) ⊕ (Option (mC))) := (mBo (α := Int32) (.inr none) (P_X6_firstOf c s4 s5 (-1) 0) (fun v1 => (mBo (α := mC) (.inr none) (P_X6_putsRing c s1 s2 v1) (fun c2 => (.inl ((x2 + 1), c2))))))
theorem rj_X6_starts_56 (d : Nat) {X : mX} {g : mG} {x1 x2 s1 s2 s4 s5 : Int32} {c : mC} : mEv X (mCall mD X (d + 6)) 0 t_X6_starts (mDrop t_X6_starts 56) [some (mr 7 20), some (mi x1), some (mi x2)] [mi s5, mi s4, mr 7 20, mi s2, mi s1, mr 7 20] (mU g 7 c) = (wB (fun s : (Int32 × mC) => match s with | (x2, c) => mEv X (mCall mD X (d + 6)) 0 t_X6_starts (mDrop t_X6_starts 31) [some (mr 7 20), some (mi x1), some (mi x2)] [] (mU g 7 c)) (wO (wV g 7))) (J_X6_starts_56 c x1 x2 s1 s2 s4 s5) := by
  refine Eq.trans (e_X6_starts_56) ?_
  try simp only [mU_same, mU_mU]
  refine mw_oI ?_ (rr_X6_firstOf d) (fun v1 => ?_)
  · rfl
  refine Eq.trans (e_X6_starts_61) ?_
  try simp only [mU_same, mU_mU]
  refine mw_oV ?_ (rr_X6_putsRing (d + 4)) (fun c2 => ?_)
  · rfl
  refine Eq.trans (e_X6_starts_64) ?_
  try simp only [mU_same, mU_mU]
  exact mw_inl rfl
theorem e_X6_starts_55 {X : mX} {call : Nat → List mV → mG → mR} {g : mG} {x1 x2 s1 s2 s4 : Int32} : mEv X call 0 t_X6_starts (mDrop t_X6_starts 55) [some (mr 7 20), some (mi x1), some (mi x2)] [mi s4, mr 7 20, mi s2, mi s1, mr 7 20] g = mEv X call 0 t_X6_starts (mDrop t_X6_starts 56) [some (mr 7 20), some (mi x1), some (mi x2)] [mi 0, mi s4, mr 7 20, mi s2, mi s1, mr 7 20] g := (mEv_1 _ _ _ _).trans rfl
noncomputable def B_X6_starts_31 (x1 : Int32) : (Int32 × mC) → (Int32 × mC) ⊕ (Option (mC)) := fun s => match s with | (x2, c) => (if 2 ≤ x2 then (.inr (some c)) else (mBo (α := mC) (.inr none) (P_X6_clearsRing c x2) (fun c1 => (if x1 = (-1) then (J_X6_starts_56 c1 x1 x2 x2 3 x2 1) else (J_X6_starts_56 c1 x1 x2 x2 3 x2 0)))))
set_option maxRecDepth 100000 in
theorem tm_X6_starts_31 {x1 : Int32} : mTm (B_X6_starts_31 x1) := by
  refine ⟨fun s => match s with | (x2, c) => mMx x2, fun s s2 h => ?_⟩
  obtain ⟨x2, c⟩ := s
  simp only [B_X6_starts_31, J_X6_starts_56, mBd, mBo] at h
  (repeat' split at h) <;> first | (have h2 := Sum.inl.inj h; subst h2; dsimp only; first | exact mtm_max (by assumption) | exact mtm_lt (by assumption)) | (cases h; done)
theorem rl_X6_starts_31 (d : Nat) {X : mX} {g : mG} {x1 x2 : Int32} {c : mC} : mEv X (mCall mD X (d + 6)) 0 t_X6_starts (mDrop t_X6_starts 31) [some (mr 7 20), some (mi x1), some (mi x2)] [] (mU g 7 c) = (wO (wV g 7)) (mWh none (B_X6_starts_31 x1) (x2, c)) := by
  refine mWh_ev (B := (B_X6_starts_31 x1)) (ev := fun s : (Int32 × mC) => match s with | (x2, c) => mEv X (mCall mD X (d + 6)) 0 t_X6_starts (mDrop t_X6_starts 31) [some (mr 7 20), some (mi x1), some (mi x2)] [] (mU g 7 c)) (w := (wO (wV g 7))) (tm_X6_starts_31) ?_ (x2, c)
  rintro ⟨x2, c⟩
  show mEv X (mCall mD X (d + 6)) 0 t_X6_starts (mDrop t_X6_starts 31) [some (mr 7 20), some (mi x1), some (mi x2)] [] (mU g 7 c) = wB (fun s : (Int32 × mC) => match s with | (x2, c) => mEv X (mCall mD X (d + 6)) 0 t_X6_starts (mDrop t_X6_starts 31) [some (mr 7 20), some (mi x1), some (mi x2)] [] (mU g 7 c)) (wO (wV g 7)) (B_X6_starts_31 x1 (x2, c))
  refine Eq.trans (e_X6_starts_31) ?_
  try simp only [mU_same, mU_mU]
  refine mw_ite (fun h3 => ?_) (fun h3 => ?_)
  · refine mw_inr ?_
    refine Eq.trans (e_X6_starts_70) ?_
    try simp only [mU_same, mU_mU]
    all_goals rfl
  · refine Eq.trans (e_X6_starts_36) ?_
    try simp only [mU_same, mU_mU]
    refine mw_oV ?_ (rr_X6_clearsRing (d + 3)) (fun c1 => ?_)
    · rfl
    refine Eq.trans (e_X6_starts_41) ?_
    try simp only [mU_same, mU_mU]
    refine mw_ite (fun h2 => ?_) (fun h2 => ?_)
    · refine Eq.trans (e_X6_starts_51) ?_
      try simp only [mU_same, mU_mU]
      exact rj_X6_starts_56 d
    · refine Eq.trans (e_X6_starts_55) ?_
      try simp only [mU_same, mU_mU]
      exact rj_X6_starts_56 d
noncomputable def J_X6_starts_29 (c : mC) (x1 : Int32) : (Option (mC)) := (mWh none (B_X6_starts_31 x1) (0, c))
theorem rj_X6_starts_29 (d : Nat) {X : mX} {g : mG} {x1 x2 : Int32} {c : mC} : mEv X (mCall mD X (d + 6)) 0 t_X6_starts (mDrop t_X6_starts 29) [some (mr 7 20), some (mi x1), some (mi x2)] [] (mU g 7 c) = (wO (wV g 7)) (J_X6_starts_29 c x1) := by
  refine Eq.trans (e_X6_starts_29) ?_
  try simp only [mU_same, mU_mU]
  exact rl_X6_starts_31 d
theorem e_X6_starts_9 {X : mX} {call : Nat → List mV → mG → mR} {g : mG} {x1 x2 : Int32} : mEv X call 0 t_X6_starts (mDrop t_X6_starts 9) [some (mr 7 20), some (mi x1), some (mi x2)] [] g = if x1 = (-1) then mEv X call 0 t_X6_starts (mDrop t_X6_starts 14) [some (mr 7 20), some (mi x1), some (mi x2)] [] g else mEv X call 0 t_X6_starts (mDrop t_X6_starts 29) [some (mr 7 20), some (mi x1), some (mi x2)] [] g := (mEv_3 _ _ _ _).trans rfl
theorem e_X6_starts_14 {X : mX} {call : Nat → List mV → mG → mR} {g : mG} {x1 x2 : Int32} : mEv X call 0 t_X6_starts (mDrop t_X6_starts 14) [some (mr 7 20), some (mi x1), some (mi x2)] [] g = mAns (mEv X call 0 t_X6_starts) (mDrop t_X6_starts 22) [some (mr 7 20), some (mi x1), some (mi x2)] [] (call 173 [mr 7 20, mi x2, mi 0, mi (-1), mi 0] g) := (mEv_6 _ _ _ _).trans rfl
theorem e_X6_starts_22 {X : mX} {call : Nat → List mV → mG → mR} {g : mG} {x1 x2 s0 : Int32} : mEv X call 0 t_X6_starts (mDrop t_X6_starts 22) [some (mr 7 20), some (mi x1), some (mi x2)] [mi s0] g = mEv X call 0 t_X6_starts (mDrop t_X6_starts 4) [some (mr 7 20), some (mi s0), some (mi (x2 + 1))] [] g := (mEv_3 _ _ _ _).trans rfl
noncomputable def B_X6_starts_4 (c : mC) : (Int32 × Int32) → (Int32 × Int32) ⊕ (Option (mC)) := fun s => match s with | (x1, x2) => (if 2 ≤ x2 then (.inr (J_X6_starts_29 c x1)) else (if x1 = (-1) then (mBo (α := Int32) (.inr none) (P_X6_firstOf c x2 0 (-1) 0) (fun v1 => (.inl (v1, (x2 + 1))))) else (.inr (J_X6_starts_29 c x1))))
set_option maxRecDepth 100000 in
theorem tm_X6_starts_4 {c : mC} : mTm (B_X6_starts_4 c) := by
  refine ⟨fun s => match s with | (x1, x2) => mMx x2, fun s s2 h => ?_⟩
  obtain ⟨x1, x2⟩ := s
  simp only [B_X6_starts_4, mBd, mBo] at h
  (repeat' split at h) <;> first | (have h2 := Sum.inl.inj h; subst h2; dsimp only; first | exact mtm_max (by assumption) | exact mtm_lt (by assumption)) | (cases h; done)
theorem rl_X6_starts_4 (d : Nat) {X : mX} {g : mG} {x1 x2 : Int32} {c : mC} : mEv X (mCall mD X (d + 6)) 0 t_X6_starts (mDrop t_X6_starts 4) [some (mr 7 20), some (mi x1), some (mi x2)] [] (mU g 7 c) = (wO (wV g 7)) (mWh none (B_X6_starts_4 c) (x1, x2)) := by
  refine mWh_ev (B := (B_X6_starts_4 c)) (ev := fun s : (Int32 × Int32) => match s with | (x1, x2) => mEv X (mCall mD X (d + 6)) 0 t_X6_starts (mDrop t_X6_starts 4) [some (mr 7 20), some (mi x1), some (mi x2)] [] (mU g 7 c)) (w := (wO (wV g 7))) (tm_X6_starts_4) ?_ (x1, x2)
  rintro ⟨x1, x2⟩
  show mEv X (mCall mD X (d + 6)) 0 t_X6_starts (mDrop t_X6_starts 4) [some (mr 7 20), some (mi x1), some (mi x2)] [] (mU g 7 c) = wB (fun s : (Int32 × Int32) => match s with | (x1, x2) => mEv X (mCall mD X (d + 6)) 0 t_X6_starts (mDrop t_X6_starts 4) [some (mr 7 20), some (mi x1), some (mi x2)] [] (mU g 7 c)) (wO (wV g 7)) (B_X6_starts_4 c (x1, x2))
  refine Eq.trans (e_X6_starts_4) ?_
  try simp only [mU_same, mU_mU]
  refine mw_ite (fun h3 => ?_) (fun h3 => ?_)
  · refine mw_inr ?_
    exact rj_X6_starts_29 d
  · refine Eq.trans (e_X6_starts_9) ?_
    try simp only [mU_same, mU_mU]
    refine mw_ite (fun h2 => ?_) (fun h2 => ?_)
    · refine Eq.trans (e_X6_starts_14) ?_
      try simp only [mU_same, mU_mU]
      refine mw_oI ?_ (rr_X6_firstOf d) (fun v1 => ?_)
      · rfl
      refine Eq.trans (e_X6_starts_22) ?_
      try simp only [mU_same, mU_mU]
      exact mw_inl rfl
    · refine mw_inr ?_
      exact rj_X6_starts_29 d
noncomputable def P_X6_starts (c : mC) : (Option (mC)) := (mWh none (B_X6_starts_4 c) ((-1), 0))
theorem rr_X6_starts (d : Nat) {X : mX} {g : mG} {c : mC} : mCall mD X (d + 7) 174 [mr 7 20] (mU g 7 c) = (wO (wV g 7)) (P_X6_starts c) := by
  refine Eq.trans (mCall_eq (d := d + 6) rfl) ?_
  show mEv X (mCall mD X (d + 6)) 0 t_X6_starts (mDrop t_X6_starts 0) [some (mr 7 20), none, none] [] (mU g 7 c) = _
  refine Eq.trans (e_X6_starts_0) ?_
  try simp only [mU_same, mU_mU]
  exact rl_X6_starts_4 d
theorem rr_X6_starts_at (d : Nat) {X : mX} {g : mG} : mCall mD X (d + 7) 174 [mr 7 20] g = wO (wV g 7) (P_X6_starts (g 7)) := by
  have h := rr_X6_starts (X := X) d (g := g) (c := g 7)
  rw [mU_self] at h
  exact h
theorem e_X6_isFoeAsked_0 {X : mX} {call : Nat → List mV → mG → mR} {g : mG} {x1 : Int32} : mEv X call 2 t_X6_isFoeAsked (mDrop t_X6_isFoeAsked 0) [some (mr 7 20), some (mi x1), none] [] g = mEv X call 2 t_X6_isFoeAsked (mDrop t_X6_isFoeAsked 2) [some (mr 7 20), some (mi x1), some (mi 0)] [] g := (mEv_2 _ _ _ _).trans rfl
theorem e_X6_isFoeAsked_2 {X : mX} {call : Nat → List mV → mG → mR} {g : mG} {x1 x2 : Int32} : mEv X call 2 t_X6_isFoeAsked (mDrop t_X6_isFoeAsked 2) [some (mr 7 20), some (mi x1), some (mi x2)] [] g = mAns (mEv X call 2 t_X6_isFoeAsked) (mDrop t_X6_isFoeAsked 8) [some (mr 7 20), some (mi x1), some (mi x2)] [mi x2] (call 158 [mr 7 20, mi 0] g) := (mEv_4 _ _ _ _).trans rfl
theorem e_X6_isFoeAsked_8 {X : mX} {call : Nat → List mV → mG → mR} {g : mG} {x1 x2 s0 s1 : Int32} : mEv X call 2 t_X6_isFoeAsked (mDrop t_X6_isFoeAsked 8) [some (mr 7 20), some (mi x1), some (mi x2)] [mi s1, mi s0] g = if s1 ≤ s0 then mEv X call 2 t_X6_isFoeAsked (mDrop t_X6_isFoeAsked 36) [some (mr 7 20), some (mi x1), some (mi x2)] [] g else mEv X call 2 t_X6_isFoeAsked (mDrop t_X6_isFoeAsked 11) [some (mr 7 20), some (mi x1), some (mi x2)] [] g := (mEv_1 _ _ _ _).trans rfl
theorem e_X6_isFoeAsked_36 {X : mX} {call : Nat → List mV → mG → mR} {g : mG} {x1 x2 : Int32} : mEv X call 2 t_X6_isFoeAsked (mDrop t_X6_isFoeAsked 36) [some (mr 7 20), some (mi x1), some (mi x2)] [] g = if (0 : Int32) &&& 1 = 0 then some (some (mi 0), g) else none := (mEv_2 _ _ _ _).trans rfl
theorem e_X6_isFoeAsked_11 {X : mX} {call : Nat → List mV → mG → mR} {g : mG} {x1 x2 : Int32} : mEv X call 2 t_X6_isFoeAsked (mDrop t_X6_isFoeAsked 11) [some (mr 7 20), some (mi x1), some (mi x2)] [] g = mAns (mEv X call 2 t_X6_isFoeAsked) (mDrop t_X6_isFoeAsked 17) [some (mr 7 20), some (mi x1), some (mi x2)] [] (call 170 [mr 7 20, mi x1, mi x2] g) := (mEv_4 _ _ _ _).trans rfl
theorem e_X6_isFoeAsked_17 {X : mX} {call : Nat → List mV → mG → mR} {g : mG} {x1 x2 s0 : Int32} : mEv X call 2 t_X6_isFoeAsked (mDrop t_X6_isFoeAsked 17) [some (mr 7 20), some (mi x1), some (mi x2)] [mi s0] g = if s0 = 0 then mEv X call 2 t_X6_isFoeAsked (mDrop t_X6_isFoeAsked 30) [some (mr 7 20), some (mi x1), some (mi x2)] [] g else mEv X call 2 t_X6_isFoeAsked (mDrop t_X6_isFoeAsked 20) [some (mr 7 20), some (mi x1), some (mi x2)] [] g := (mEv_1 _ _ _ _).trans rfl
theorem e_X6_isFoeAsked_30 {X : mX} {call : Nat → List mV → mG → mR} {g : mG} {x1 x2 : Int32} : mEv X call 2 t_X6_isFoeAsked (mDrop t_X6_isFoeAsked 30) [some (mr 7 20), some (mi x1), some (mi x2)] [] g = mEv X call 2 t_X6_isFoeAsked (mDrop t_X6_isFoeAsked 2) [some (mr 7 20), some (mi x1), some (mi (x2 + 1))] [] g := (mEv_2 _ _ _ _).trans rfl
noncomputable def J_X6_isFoeAsked_30 (c : mC) (x1 : Int32) (x2 : Int32) : ((Int32) ⊕ (Option (Int32))) := (.inl (x2 + 1))
theorem rj_X6_isFoeAsked_30 (d : Nat) {X : mX} {g : mG} {x1 x2 : Int32} {c : mC} : mEv X (mCall mD X (d + 5)) 2 t_X6_isFoeAsked (mDrop t_X6_isFoeAsked 30) [some (mr 7 20), some (mi x1), some (mi x2)] [] (mU g 7 c) = (wB (fun x2 : (Int32) => mEv X (mCall mD X (d + 5)) 2 t_X6_isFoeAsked (mDrop t_X6_isFoeAsked 2) [some (mr 7 20), some (mi x1), some (mi x2)] [] (mU g 7 c)) (wO (wI g 7 c))) (J_X6_isFoeAsked_30 c x1 x2) := by
  refine Eq.trans (e_X6_isFoeAsked_30) ?_
  try simp only [mU_same, mU_mU]
  exact mw_inl rfl
theorem e_X6_isFoeAsked_20 {X : mX} {call : Nat → List mV → mG → mR} {g : mG} {x1 x2 : Int32} : mEv X call 2 t_X6_isFoeAsked (mDrop t_X6_isFoeAsked 20) [some (mr 7 20), some (mi x1), some (mi x2)] [] g = mAns (mEv X call 2 t_X6_isFoeAsked) (mDrop t_X6_isFoeAsked 25) [some (mr 7 20), some (mi x1), some (mi x2)] [] (call 178 [mr 7 20, mi x2] g) := (mEv_3 _ _ _ _).trans rfl
theorem e_X6_isFoeAsked_25 {X : mX} {call : Nat → List mV → mG → mR} {g : mG} {x1 x2 s0 : Int32} : mEv X call 2 t_X6_isFoeAsked (mDrop t_X6_isFoeAsked 25) [some (mr 7 20), some (mi x1), some (mi x2)] [mi s0] g = if s0 = 0 then mEv X call 2 t_X6_isFoeAsked (mDrop t_X6_isFoeAsked 30) [some (mr 7 20), some (mi x1), some (mi x2)] [] g else mEv X call 2 t_X6_isFoeAsked (mDrop t_X6_isFoeAsked 28) [some (mr 7 20), some (mi x1), some (mi x2)] [] g := (mEv_1 _ _ _ _).trans rfl
theorem e_X6_isFoeAsked_28 {X : mX} {call : Nat → List mV → mG → mR} {g : mG} {x1 x2 : Int32} : mEv X call 2 t_X6_isFoeAsked (mDrop t_X6_isFoeAsked 28) [some (mr 7 20), some (mi x1), some (mi x2)] [] g = if (1 : Int32) &&& 1 = 1 then some (some (mi 1), g) else none := (mEv_2 _ _ _ _).trans rfl
noncomputable def B_X6_isFoeAsked_2 (c : mC) (x1 : Int32) : (Int32) → (Int32) ⊕ (Option (Int32)) := fun x2 => (mBo (α := Int32) (.inr none) (P_X6_of c 0) (fun v1 => (if v1 ≤ x2 then (.inr (some 0)) else (mBo (α := Int32) (.inr none) (P_X6_areFoes c x1 x2) (fun v2 => (if v2 = 0 then (J_X6_isFoeAsked_30 c x1 x2) else (mBo (α := Int32) (.inr none) (P_X6_isAsked c x2) (fun v3 => (if v3 = 0 then (J_X6_isFoeAsked_30 c x1 x2) else (.inr (some 1)))))))))))
set_option maxRecDepth 100000 in
theorem tm_X6_isFoeAsked_2 {c : mC} {x1 : Int32} : mTm (B_X6_isFoeAsked_2 c x1) := by
  refine ⟨fun x2 => mMx x2, fun s s2 h => ?_⟩
  skip
  simp only [B_X6_isFoeAsked_2, J_X6_isFoeAsked_30, mBd, mBo] at h
  (repeat' split at h) <;> first | (have h2 := Sum.inl.inj h; subst h2; dsimp only; first | exact mtm_max (by assumption) | exact mtm_lt (by assumption)) | (cases h; done)
theorem rl_X6_isFoeAsked_2 (d : Nat) {X : mX} {g : mG} {x1 x2 : Int32} {c : mC} : mEv X (mCall mD X (d + 5)) 2 t_X6_isFoeAsked (mDrop t_X6_isFoeAsked 2) [some (mr 7 20), some (mi x1), some (mi x2)] [] (mU g 7 c) = (wO (wI g 7 c)) (mWh none (B_X6_isFoeAsked_2 c x1) x2) := by
  refine mWh_ev (B := (B_X6_isFoeAsked_2 c x1)) (ev := fun x2 : (Int32) => mEv X (mCall mD X (d + 5)) 2 t_X6_isFoeAsked (mDrop t_X6_isFoeAsked 2) [some (mr 7 20), some (mi x1), some (mi x2)] [] (mU g 7 c)) (w := (wO (wI g 7 c))) (tm_X6_isFoeAsked_2) ?_ x2
  intro x2
  show mEv X (mCall mD X (d + 5)) 2 t_X6_isFoeAsked (mDrop t_X6_isFoeAsked 2) [some (mr 7 20), some (mi x1), some (mi x2)] [] (mU g 7 c) = wB (fun x2 : (Int32) => mEv X (mCall mD X (d + 5)) 2 t_X6_isFoeAsked (mDrop t_X6_isFoeAsked 2) [some (mr 7 20), some (mi x1), some (mi x2)] [] (mU g 7 c)) (wO (wI g 7 c)) (mBo (α := Int32) (.inr none) (P_X6_of c 0) (fun v1 => (if v1 ≤ x2 then (.inr (some 0)) else (mBo (α := Int32) (.inr none) (P_X6_areFoes c x1 x2) (fun v2 => (if v2 = 0 then (J_X6_isFoeAsked_30 c x1 x2) else (mBo (α := Int32) (.inr none) (P_X6_isAsked c x2) (fun v3 => (if v3 = 0 then (J_X6_isFoeAsked_30 c x1 x2) else (.inr (some 1)))))))))))
  refine Eq.trans (e_X6_isFoeAsked_2) ?_
  try simp only [mU_same, mU_mU]
  refine mw_oI ?_ (rr_X6_of (d + 4)) (fun v1 => ?_)
  · rfl
  refine Eq.trans (e_X6_isFoeAsked_8) ?_
  try simp only [mU_same, mU_mU]
  refine mw_ite (fun h6 => ?_) (fun h6 => ?_)
  · refine mw_inr ?_
    refine Eq.trans (e_X6_isFoeAsked_36) ?_
    try simp only [mU_same, mU_mU]
    exact if_pos (by decide)
  · refine Eq.trans (e_X6_isFoeAsked_11) ?_
    try simp only [mU_same, mU_mU]
    refine mw_oZ ?_ (rr_X6_areFoes (d + 2)) rfl (fun v2 hv2 => ?_)
    · rfl
    refine Eq.trans (e_X6_isFoeAsked_17) ?_
    try simp only [mU_same, mU_mU]
    refine mw_ite (fun h5 => ?_) (fun h5 => ?_)
    · exact rj_X6_isFoeAsked_30 d
    · refine Eq.trans (e_X6_isFoeAsked_20) ?_
      try simp only [mU_same, mU_mU]
      refine mw_oZ ?_ (rr_X6_isAsked d) rfl (fun v3 hv3 => ?_)
      · rfl
      refine Eq.trans (e_X6_isFoeAsked_25) ?_
      try simp only [mU_same, mU_mU]
      refine mw_ite (fun h4 => ?_) (fun h4 => ?_)
      · exact rj_X6_isFoeAsked_30 d
      · refine mw_inr ?_
        refine Eq.trans (e_X6_isFoeAsked_28) ?_
        try simp only [mU_same, mU_mU]
        exact if_pos (by decide)
noncomputable def P_X6_isFoeAsked (c : mC) (x1 : Int32) : (Option (Int32)) := (mWh none (B_X6_isFoeAsked_2 c x1) 0)
theorem rr_X6_isFoeAsked (d : Nat) {X : mX} {g : mG} {x1 : Int32} {c : mC} : mCall mD X (d + 6) 179 [mr 7 20, mi x1] (mU g 7 c) = (wO (wI g 7 c)) (P_X6_isFoeAsked c x1) := by
  refine Eq.trans (mCall_eq (d := d + 5) rfl) ?_
  show mEv X (mCall mD X (d + 5)) 2 t_X6_isFoeAsked (mDrop t_X6_isFoeAsked 0) [some (mr 7 20), some (mi x1), none] [] (mU g 7 c) = _
  refine Eq.trans (e_X6_isFoeAsked_0) ?_
  try simp only [mU_same, mU_mU]
  exact rl_X6_isFoeAsked_2 d
theorem rr_X6_isFoeAsked_at (d : Nat) {X : mX} {g : mG} {x1 : Int32} : mCall mD X (d + 6) 179 [mr 7 20, mi x1] g = wO (wN g) (P_X6_isFoeAsked (g 7) x1) := by
  have h := rr_X6_isFoeAsked (X := X) d (g := g) (c := g 7) (x1 := x1)
  rw [mU_self] at h
  exact h.trans (wOI_self _ _ _)
theorem e_X6_isHolding_0 {X : mX} {call : Nat → List mV → mG → mR} {g : mG} {x1 : Int32} : mEv X call 2 t_X6_isHolding (mDrop t_X6_isHolding 0) [some (mr 7 20), some (mi x1)] [] g = mAns (mEv X call 2 t_X6_isHolding) (mDrop t_X6_isHolding 6) [some (mr 7 20), some (mi x1)] [] (call 163 [mr 7 20, mi x1, mi 0] g) := (mEv_4 _ _ _ _).trans rfl
theorem e_X6_isHolding_6 {X : mX} {call : Nat → List mV → mG → mR} {g : mG} {x1 s0 : Int32} : mEv X call 2 t_X6_isHolding (mDrop t_X6_isHolding 6) [some (mr 7 20), some (mi x1)] [mi s0] g = if s0 = (-1) then mEv X call 2 t_X6_isHolding (mDrop t_X6_isHolding 24) [some (mr 7 20), some (mi x1)] [] g else mEv X call 2 t_X6_isHolding (mDrop t_X6_isHolding 10) [some (mr 7 20), some (mi x1)] [] g := (mEv_2 _ _ _ _).trans rfl
theorem e_X6_isHolding_24 {X : mX} {call : Nat → List mV → mG → mR} {g : mG} {x1 : Int32} : mEv X call 2 t_X6_isHolding (mDrop t_X6_isHolding 24) [some (mr 7 20), some (mi x1)] [] g = mEv X call 2 t_X6_isHolding (mDrop t_X6_isHolding 25) [some (mr 7 20), some (mi x1)] [mi 0] g := (mEv_1 _ _ _ _).trans rfl
theorem e_X6_isHolding_25 {X : mX} {call : Nat → List mV → mG → mR} {g : mG} {x1 s0 : Int32} : mEv X call 2 t_X6_isHolding (mDrop t_X6_isHolding 25) [some (mr 7 20), some (mi x1)] [mi s0] g = if (s0 : Int32) &&& 1 = s0 then some (some (mi s0), g) else none := (mEv_1 _ _ _ _).trans rfl
noncomputable def J_X6_isHolding_24 (c : mC) : (Option (Int32)) := (some 0)
theorem rj_X6_isHolding_24 (d : Nat) {X : mX} {g : mG} {x1 : Int32} {c : mC} : mEv X (mCall mD X (d + 2)) 2 t_X6_isHolding (mDrop t_X6_isHolding 24) [some (mr 7 20), some (mi x1)] [] (mU g 7 c) = (wO (wI g 7 c)) (J_X6_isHolding_24 c) := by
  refine Eq.trans (e_X6_isHolding_24) ?_
  try simp only [mU_same, mU_mU]
  refine Eq.trans (e_X6_isHolding_25) ?_
  try simp only [mU_same, mU_mU]
  exact if_pos (by decide)
theorem e_X6_isHolding_10 {X : mX} {call : Nat → List mV → mG → mR} {g : mG} {x1 : Int32} : mEv X call 2 t_X6_isHolding (mDrop t_X6_isHolding 10) [some (mr 7 20), some (mi x1)] [] g = mAns (mEv X call 2 t_X6_isHolding) (mDrop t_X6_isHolding 16) [some (mr 7 20), some (mi x1)] [] (call 163 [mr 7 20, mi x1, mi 1] g) := (mEv_4 _ _ _ _).trans rfl
theorem e_X6_isHolding_16 {X : mX} {call : Nat → List mV → mG → mR} {g : mG} {x1 s0 : Int32} : mEv X call 2 t_X6_isHolding (mDrop t_X6_isHolding 16) [some (mr 7 20), some (mi x1)] [mi s0] g = if s0 = 3 then mEv X call 2 t_X6_isHolding (mDrop t_X6_isHolding 24) [some (mr 7 20), some (mi x1)] [] g else mEv X call 2 t_X6_isHolding (mDrop t_X6_isHolding 20) [some (mr 7 20), some (mi x1)] [] g := (mEv_2 _ _ _ _).trans rfl
theorem e_X6_isHolding_20 {X : mX} {call : Nat → List mV → mG → mR} {g : mG} {x1 : Int32} : mEv X call 2 t_X6_isHolding (mDrop t_X6_isHolding 20) [some (mr 7 20), some (mi x1)] [] g = mEv X call 2 t_X6_isHolding (mDrop t_X6_isHolding 25) [some (mr 7 20), some (mi x1)] [mi 1] g := (mEv_2 _ _ _ _).trans rfl
noncomputable def P_X6_isHolding (c : mC) (x1 : Int32) : (Option (Int32)) := (mBo (α := Int32) none (P_X6_ofRing c x1 0) (fun v1 => (if v1 = (-1) then (J_X6_isHolding_24 c) else (mBo (α := Int32) none (P_X6_ofRing c x1 1) (fun v2 => (if v2 = 3 then (J_X6_isHolding_24 c) else (some 1)))))))
theorem rr_X6_isHolding (d : Nat) {X : mX} {g : mG} {x1 : Int32} {c : mC} : mCall mD X (d + 3) 180 [mr 7 20, mi x1] (mU g 7 c) = (wO (wI g 7 c)) (P_X6_isHolding c x1) := by
  refine Eq.trans (mCall_eq (d := d + 2) rfl) ?_
  show mEv X (mCall mD X (d + 2)) 2 t_X6_isHolding (mDrop t_X6_isHolding 0) [some (mr 7 20), some (mi x1)] [] (mU g 7 c) = _
  refine Eq.trans (e_X6_isHolding_0) ?_
  try simp only [mU_same, mU_mU]
  refine mw_oI ?_ (rr_X6_ofRing d) (fun v1 => ?_)
  · rfl
  refine Eq.trans (e_X6_isHolding_6) ?_
  try simp only [mU_same, mU_mU]
  refine mw_ite (fun h4 => ?_) (fun h4 => ?_)
  · exact rj_X6_isHolding_24 d
  · refine Eq.trans (e_X6_isHolding_10) ?_
    try simp only [mU_same, mU_mU]
    refine mw_oI ?_ (rr_X6_ofRing d) (fun v2 => ?_)
    · rfl
    refine Eq.trans (e_X6_isHolding_16) ?_
    try simp only [mU_same, mU_mU]
    refine mw_ite (fun h3 => ?_) (fun h3 => ?_)
    · exact rj_X6_isHolding_24 d
    · refine Eq.trans (e_X6_isHolding_20) ?_
      try simp only [mU_same, mU_mU]
      refine Eq.trans (e_X6_isHolding_25) ?_
      try simp only [mU_same, mU_mU]
      exact if_pos (by decide)
theorem rr_X6_isHolding_at (d : Nat) {X : mX} {g : mG} {x1 : Int32} : mCall mD X (d + 3) 180 [mr 7 20, mi x1] g = wO (wN g) (P_X6_isHolding (g 7) x1) := by
  have h := rr_X6_isHolding (X := X) d (g := g) (c := g 7) (x1 := x1)
  rw [mU_self] at h
  exact h.trans (wOI_self _ _ _)
theorem e_X6_isGreen_0 {X : mX} {call : Nat → List mV → mG → mR} {g : mG} {x1 : Int32} : mEv X call 2 t_X6_isGreen (mDrop t_X6_isGreen 0) [some (mr 7 20), some (mi x1)] [] g = mAns (mEv X call 2 t_X6_isGreen) (mDrop t_X6_isGreen 6) [some (mr 7 20), some (mi x1)] [] (call 163 [mr 7 20, mi x1, mi 0] g) := (mEv_4 _ _ _ _).trans rfl
theorem e_X6_isGreen_6 {X : mX} {call : Nat → List mV → mG → mR} {g : mG} {x1 s0 : Int32} : mEv X call 2 t_X6_isGreen (mDrop t_X6_isGreen 6) [some (mr 7 20), some (mi x1)] [mi s0] g = if s0 = (-1) then mEv X call 2 t_X6_isGreen (mDrop t_X6_isGreen 23) [some (mr 7 20), some (mi x1)] [] g else mEv X call 2 t_X6_isGreen (mDrop t_X6_isGreen 10) [some (mr 7 20), some (mi x1)] [] g := (mEv_2 _ _ _ _).trans rfl
theorem e_X6_isGreen_23 {X : mX} {call : Nat → List mV → mG → mR} {g : mG} {x1 : Int32} : mEv X call 2 t_X6_isGreen (mDrop t_X6_isGreen 23) [some (mr 7 20), some (mi x1)] [] g = mEv X call 2 t_X6_isGreen (mDrop t_X6_isGreen 24) [some (mr 7 20), some (mi x1)] [mi 0] g := (mEv_1 _ _ _ _).trans rfl
theorem e_X6_isGreen_24 {X : mX} {call : Nat → List mV → mG → mR} {g : mG} {x1 s0 : Int32} : mEv X call 2 t_X6_isGreen (mDrop t_X6_isGreen 24) [some (mr 7 20), some (mi x1)] [mi s0] g = if (s0 : Int32) &&& 1 = s0 then some (some (mi s0), g) else none := (mEv_1 _ _ _ _).trans rfl
noncomputable def J_X6_isGreen_23 (c : mC) : (Option (Int32)) := (some 0)
theorem rj_X6_isGreen_23 (d : Nat) {X : mX} {g : mG} {x1 : Int32} {c : mC} : mEv X (mCall mD X (d + 2)) 2 t_X6_isGreen (mDrop t_X6_isGreen 23) [some (mr 7 20), some (mi x1)] [] (mU g 7 c) = (wO (wI g 7 c)) (J_X6_isGreen_23 c) := by
  refine Eq.trans (e_X6_isGreen_23) ?_
  try simp only [mU_same, mU_mU]
  refine Eq.trans (e_X6_isGreen_24) ?_
  try simp only [mU_same, mU_mU]
  exact if_pos (by decide)
theorem e_X6_isGreen_10 {X : mX} {call : Nat → List mV → mG → mR} {g : mG} {x1 : Int32} : mEv X call 2 t_X6_isGreen (mDrop t_X6_isGreen 10) [some (mr 7 20), some (mi x1)] [] g = mAns (mEv X call 2 t_X6_isGreen) (mDrop t_X6_isGreen 16) [some (mr 7 20), some (mi x1)] [] (call 163 [mr 7 20, mi x1, mi 1] g) := (mEv_4 _ _ _ _).trans rfl
theorem e_X6_isGreen_16 {X : mX} {call : Nat → List mV → mG → mR} {g : mG} {x1 s0 : Int32} : mEv X call 2 t_X6_isGreen (mDrop t_X6_isGreen 16) [some (mr 7 20), some (mi x1)] [mi s0] g = if s0 = 0 then mEv X call 2 t_X6_isGreen (mDrop t_X6_isGreen 19) [some (mr 7 20), some (mi x1)] [] g else mEv X call 2 t_X6_isGreen (mDrop t_X6_isGreen 23) [some (mr 7 20), some (mi x1)] [] g := (mEv_1 _ _ _ _).trans rfl
theorem e_X6_isGreen_19 {X : mX} {call : Nat → List mV → mG → mR} {g : mG} {x1 : Int32} : mEv X call 2 t_X6_isGreen (mDrop t_X6_isGreen 19) [some (mr 7 20), some (mi x1)] [] g = mEv X call 2 t_X6_isGreen (mDrop t_X6_isGreen 24) [some (mr 7 20), some (mi x1)] [mi 1] g := (mEv_2 _ _ _ _).trans rfl
noncomputable def P_X6_isGreen (c : mC) (x1 : Int32) : (Option (Int32)) := (mBo (α := Int32) none (P_X6_ofRing c x1 0) (fun v1 => (if v1 = (-1) then (J_X6_isGreen_23 c) else (mBo (α := Int32) none (P_X6_ofRing c x1 1) (fun v2 => (if v2 = 0 then (some 1) else (J_X6_isGreen_23 c)))))))
theorem rr_X6_isGreen (d : Nat) {X : mX} {g : mG} {x1 : Int32} {c : mC} : mCall mD X (d + 3) 181 [mr 7 20, mi x1] (mU g 7 c) = (wO (wI g 7 c)) (P_X6_isGreen c x1) := by
  refine Eq.trans (mCall_eq (d := d + 2) rfl) ?_
  show mEv X (mCall mD X (d + 2)) 2 t_X6_isGreen (mDrop t_X6_isGreen 0) [some (mr 7 20), some (mi x1)] [] (mU g 7 c) = _
  refine Eq.trans (e_X6_isGreen_0) ?_
  try simp only [mU_same, mU_mU]
  refine mw_oI ?_ (rr_X6_ofRing d) (fun v1 => ?_)
  · rfl
  refine Eq.trans (e_X6_isGreen_6) ?_
  try simp only [mU_same, mU_mU]
  refine mw_ite (fun h4 => ?_) (fun h4 => ?_)
  · exact rj_X6_isGreen_23 d
  · refine Eq.trans (e_X6_isGreen_10) ?_
    try simp only [mU_same, mU_mU]
    refine mw_oI ?_ (rr_X6_ofRing d) (fun v2 => ?_)
    · rfl
    refine Eq.trans (e_X6_isGreen_16) ?_
    try simp only [mU_same, mU_mU]
    refine mw_ite (fun h3 => ?_) (fun h3 => ?_)
    · refine Eq.trans (e_X6_isGreen_19) ?_
      try simp only [mU_same, mU_mU]
      refine Eq.trans (e_X6_isGreen_24) ?_
      try simp only [mU_same, mU_mU]
      exact if_pos (by decide)
    · exact rj_X6_isGreen_23 d
theorem rr_X6_isGreen_at (d : Nat) {X : mX} {g : mG} {x1 : Int32} : mCall mD X (d + 3) 181 [mr 7 20, mi x1] g = wO (wN g) (P_X6_isGreen (g 7) x1) := by
  have h := rr_X6_isGreen (X := X) d (g := g) (c := g 7) (x1 := x1)
  rw [mU_self] at h
  exact h.trans (wOI_self _ _ _)
theorem e_X6_happens_0 {X : mX} {call : Nat → List mV → mG → mR} {g : mG} {x1 x2 : Int32} : mEv X call 0 t_X6_happens (mDrop t_X6_happens 0) [some (mr 7 20), some (mi x1), some (mi x2), none] [] g = mAns (mEv X call 0 t_X6_happens) (mDrop t_X6_happens 6) [some (mr 7 20), some (mi x1), some (mi x2), none] [] (call 158 [mr 7 20, mi 12] g) := (mEv_3 _ _ _ _).trans rfl
theorem e_X6_happens_6 {X : mX} {call : Nat → List mV → mG → mR} {g : mG} {x1 x2 s0 : Int32} : mEv X call 0 t_X6_happens (mDrop t_X6_happens 6) [some (mr 7 20), some (mi x1), some (mi x2), none] [mi s0] g = if s0 = 32 then mEv X call 0 t_X6_happens (mDrop t_X6_happens 11) [some (mr 7 20), some (mi x1), some (mi x2), none] [] g else mEv X call 0 t_X6_happens (mDrop t_X6_happens 47) [some (mr 7 20), some (mi x1), some (mi x2), none] [] g := (mEv_2 _ _ _ _).trans rfl
theorem e_X6_happens_11 {X : mX} {call : Nat → List mV → mG → mR} {g : mG} {x1 x2 : Int32} : mEv X call 0 t_X6_happens (mDrop t_X6_happens 11) [some (mr 7 20), some (mi x1), some (mi x2), none] [] g = mEv X call 0 t_X6_happens (mDrop t_X6_happens 15) [some (mr 7 20), some (mi x1), some (mi x2), some (mi 192)] [] g := (mEv_2 _ _ _ _).trans rfl
theorem e_X6_happens_15 {X : mX} {call : Nat → List mV → mG → mR} {g : mG} {x1 x2 x3 : Int32} : mEv X call 0 t_X6_happens (mDrop t_X6_happens 15) [some (mr 7 20), some (mi x1), some (mi x2), some (mi x3)] [] g = if 285 ≤ x3 then mEv X call 0 t_X6_happens (mDrop t_X6_happens 40) [some (mr 7 20), some (mi x1), some (mi x2), some (mi x3)] [] g else mEv X call 0 t_X6_happens (mDrop t_X6_happens 22) [some (mr 7 20), some (mi x1), some (mi x2), some (mi x3)] [] g := (mEv_3 _ _ _ _).trans rfl
theorem e_X6_happens_40 {X : mX} {call : Nat → List mV → mG → mR} {g : mG} {x1 x2 x3 : Int32} : mEv X call 0 t_X6_happens (mDrop t_X6_happens 40) [some (mr 7 20), some (mi x1), some (mi x2), some (mi x3)] [] g = mAns (mEv X call 0 t_X6_happens) (mDrop t_X6_happens 47) [some (mr 7 20), some (mi x1), some (mi x2), some (mi x3)] [] (call 160 [mr 7 20, mi 12, mi (-1)] g) := (mEv_4 _ _ _ _).trans rfl
theorem e_X6_happens_47 {X : mX} {call : Nat → List mV → mG → mR} {g : mG} {x1 x2 : Int32} {u3 : Option mV} : mEv X call 0 t_X6_happens (mDrop t_X6_happens 47) [some (mr 7 20), some (mi x1), some (mi x2), u3] [] g = mAns (mEv X call 0 t_X6_happens) (mDrop t_X6_happens 57) [some (mr 7 20), some (mi x1), some (mi x2), u3] [mi 3, mi 192] (call 158 [mr 7 20, mi 12] g) := (mEv_5 _ _ _ _).trans rfl
theorem e_X6_happens_57 {X : mX} {call : Nat → List mV → mG → mR} {g : mG} {x1 x2 s0 s1 s2 : Int32} {u3 : Option mV} : mEv X call 0 t_X6_happens (mDrop t_X6_happens 57) [some (mr 7 20), some (mi x1), some (mi x2), u3] [mi s2, mi s1, mi s0] g = mAns (mEv X call 0 t_X6_happens) (mDrop t_X6_happens 66) [some (mr 7 20), some (mi x1), some (mi x2), some (mi (s0 + (s1 * s2)))] [] (call 159 [mr 7 20, mi (s0 + (s1 * s2)), mi x1] g) := (mEv_7 _ _ _ _).trans rfl
theorem e_X6_happens_66 {X : mX} {call : Nat → List mV → mG → mR} {g : mG} {x1 x2 x3 : Int32} : mEv X call 0 t_X6_happens (mDrop t_X6_happens 66) [some (mr 7 20), some (mi x1), some (mi x2), some (mi x3)] [] g = mAns (mEv X call 0 t_X6_happens) (mDrop t_X6_happens 75) [some (mr 7 20), some (mi x1), some (mi x2), some (mi x3)] [mi (x3 + 1), mr 7 20] (call 158 [mr 7 20, mi 1] g) := (mEv_7 _ _ _ _).trans rfl
theorem e_X6_happens_75 {X : mX} {call : Nat → List mV → mG → mR} {g : mG} {x1 x2 x3 s1 s2 : Int32} : mEv X call 0 t_X6_happens (mDrop t_X6_happens 75) [some (mr 7 20), some (mi x1), some (mi x2), some (mi x3)] [mi s2, mi s1, mr 7 20] g = mAns (mEv X call 0 t_X6_happens) (mDrop t_X6_happens 78) [some (mr 7 20), some (mi x1), some (mi x2), some (mi x3)] [] (call 159 [mr 7 20, mi s1, mi s2] g) := (mEv_1 _ _ _ _).trans rfl
theorem e_X6_happens_78 {X : mX} {call : Nat → List mV → mG → mR} {g : mG} {x1 x2 x3 : Int32} : mEv X call 0 t_X6_happens (mDrop t_X6_happens 78) [some (mr 7 20), some (mi x1), some (mi x2), some (mi x3)] [] g = mAns (mEv X call 0 t_X6_happens) (mDrop t_X6_happens 86) [some (mr 7 20), some (mi x1), some (mi x2), some (mi x3)] [] (call 159 [mr 7 20, mi (x3 + 2), mi x2] g) := (mEv_6 _ _ _ _).trans rfl
theorem e_X6_happens_86 {X : mX} {call : Nat → List mV → mG → mR} {g : mG} {x1 x2 x3 : Int32} : mEv X call 0 t_X6_happens (mDrop t_X6_happens 86) [some (mr 7 20), some (mi x1), some (mi x2), some (mi x3)] [] g = mAns (mEv X call 0 t_X6_happens) (mDrop t_X6_happens 93) [some (mr 7 20), some (mi x1), some (mi x2), some (mi x3)] [] (call 160 [mr 7 20, mi 12, mi 1] g) := (mEv_4 _ _ _ _).trans rfl
theorem e_X6_happens_93 {X : mX} {call : Nat → List mV → mG → mR} {g : mG} {x1 x2 x3 : Int32} : mEv X call 0 t_X6_happens (mDrop t_X6_happens 93) [some (mr 7 20), some (mi x1), some (mi x2), some (mi x3)] [] g = some (none, g) := (mEv_1 _ _ _ _).trans rfl
noncomputable def J_X6_happens_47 (c : mC) (x1 : Int32) (x2 : Int32) : (Option (mC)) := (mBo (α := Int32) none (P_X6_of c 12) (fun v1 => (mBo (α := mC) none (P_X6_puts c ((192 : Int32) + ((3 : Int32) * v1)) x1) (fun c2 => (mBo (α := Int32) none (P_X6_of c2 1) (fun v3 => (mBo (α := mC) none (P_X6_puts c2 (((192 : Int32) + ((3 : Int32) * v1)) + 1) v3) (fun c4 => (mBo (α := mC) none (P_X6_puts c4 (((192 : Int32) + ((3 : Int32) * v1)) + 2) x2) (fun c5 => (mBo (α := mC) none (P_X6_adds c5 12 1) (fun c6 => (some c6)))))))))))))
theorem rj_X6_happens_47 (d : Nat) {X : mX} {g : mG} {x1 x2 : Int32} {u3 : Option mV} {c : mC} : mEv X (mCall mD X (d + 1)) 0 t_X6_happens (mDrop t_X6_happens 47) [some (mr 7 20), some (mi x1), some (mi x2), u3] [] (mU g 7 c) = (wO (wV g 7)) (J_X6_happens_47 c x1 x2) := by
  refine Eq.trans (e_X6_happens_47) ?_
  try simp only [mU_same, mU_mU]
  refine mw_oI ?_ (rr_X6_of d) (fun v1 => ?_)
  · rfl
  refine Eq.trans (e_X6_happens_57) ?_
  try simp only [mU_same, mU_mU]
  refine mw_oV ?_ (rr_X6_puts d) (fun c2 => ?_)
  · rfl
  refine Eq.trans (e_X6_happens_66) ?_
  try simp only [mU_same, mU_mU]
  refine mw_oI ?_ (rr_X6_of d) (fun v3 => ?_)
  · rfl
  refine Eq.trans (e_X6_happens_75) ?_
  try simp only [mU_same, mU_mU]
  refine mw_oV ?_ (rr_X6_puts d) (fun c4 => ?_)
  · rfl
  refine Eq.trans (e_X6_happens_78) ?_
  try simp only [mU_same, mU_mU]
  refine mw_oV ?_ (rr_X6_puts d) (fun c5 => ?_)
  · rfl
  refine Eq.trans (e_X6_happens_86) ?_
  try simp only [mU_same, mU_mU]
  refine mw_oV ?_ (rr_X6_adds d) (fun c6 => ?_)
  · rfl
  refine Eq.trans (e_X6_happens_93) ?_
  try simp only [mU_same, mU_mU]
  all_goals rfl
theorem e_X6_happens_22 {X : mX} {call : Nat → List mV → mG → mR} {g : mG} {x1 x2 x3 : Int32} : mEv X call 0 t_X6_happens (mDrop t_X6_happens 22) [some (mr 7 20), some (mi x1), some (mi x2), some (mi x3)] [] g = mAns (mEv X call 0 t_X6_happens) (mDrop t_X6_happens 31) [some (mr 7 20), some (mi x1), some (mi x2), some (mi x3)] [mi x3, mr 7 20] (call 158 [mr 7 20, mi (x3 + 3)] g) := (mEv_7 _ _ _ _).trans rfl
theorem e_X6_happens_31 {X : mX} {call : Nat → List mV → mG → mR} {g : mG} {x1 x2 x3 s1 s2 : Int32} : mEv X call 0 t_X6_happens (mDrop t_X6_happens 31) [some (mr 7 20), some (mi x1), some (mi x2), some (mi x3)] [mi s2, mi s1, mr 7 20] g = mAns (mEv X call 0 t_X6_happens) (mDrop t_X6_happens 34) [some (mr 7 20), some (mi x1), some (mi x2), some (mi x3)] [] (call 159 [mr 7 20, mi s1, mi s2] g) := (mEv_1 _ _ _ _).trans rfl
theorem e_X6_happens_34 {X : mX} {call : Nat → List mV → mG → mR} {g : mG} {x1 x2 x3 : Int32} : mEv X call 0 t_X6_happens (mDrop t_X6_happens 34) [some (mr 7 20), some (mi x1), some (mi x2), some (mi x3)] [] g = mEv X call 0 t_X6_happens (mDrop t_X6_happens 15) [some (mr 7 20), some (mi x1), some (mi x2), some (mi (x3 + 1))] [] g := (mEv_2 _ _ _ _).trans rfl
noncomputable def B_X6_happens_15 (x1 : Int32) (x2 : Int32) : (Int32 × mC) → (Int32 × mC) ⊕ (Option (mC)) := fun s => match s with | (x3, c) => (if 285 ≤ x3 then (.inr (mBo (α := mC) none (P_X6_adds c 12 (-1)) (fun c1 => (J_X6_happens_47 c1 x1 x2)))) else (mBo (α := Int32) (.inr none) (P_X6_of c (x3 + 3)) (fun v2 => (mBo (α := mC) (.inr none) (P_X6_puts c x3 v2) (fun c3 => (.inl ((x3 + 1), c3)))))))
set_option maxRecDepth 100000 in
theorem tm_X6_happens_15 {x1 : Int32} {x2 : Int32} : mTm (B_X6_happens_15 x1 x2) := by
  refine ⟨fun s => match s with | (x3, c) => mMx x3, fun s s2 h => ?_⟩
  obtain ⟨x3, c⟩ := s
  unfold B_X6_happens_15 at h
  dsimp only at h
  split at h
  next => cases h
  next hx =>
    cases h1 : P_X6_of c (x3 + 3) with
    | none => rw [h1] at h; cases h
    | some v =>
      rw [h1] at h
      simp only [mBo] at h
      cases h2 : P_X6_puts c x3 v with
      | none => rw [h2] at h; cases h
      | some c3 =>
        rw [h2] at h
        have h3 := Sum.inl.inj h; subst h3
        exact mtm_max hx
theorem rl_X6_happens_15 (d : Nat) {X : mX} {g : mG} {x1 x2 x3 : Int32} {c : mC} : mEv X (mCall mD X (d + 1)) 0 t_X6_happens (mDrop t_X6_happens 15) [some (mr 7 20), some (mi x1), some (mi x2), some (mi x3)] [] (mU g 7 c) = (wO (wV g 7)) (mWh none (B_X6_happens_15 x1 x2) (x3, c)) := by
  refine mWh_ev (B := (B_X6_happens_15 x1 x2)) (ev := fun s : (Int32 × mC) => match s with | (x3, c) => mEv X (mCall mD X (d + 1)) 0 t_X6_happens (mDrop t_X6_happens 15) [some (mr 7 20), some (mi x1), some (mi x2), some (mi x3)] [] (mU g 7 c)) (w := (wO (wV g 7))) (tm_X6_happens_15) ?_ (x3, c)
  rintro ⟨x3, c⟩
  show mEv X (mCall mD X (d + 1)) 0 t_X6_happens (mDrop t_X6_happens 15) [some (mr 7 20), some (mi x1), some (mi x2), some (mi x3)] [] (mU g 7 c) = wB (fun s : (Int32 × mC) => match s with | (x3, c) => mEv X (mCall mD X (d + 1)) 0 t_X6_happens (mDrop t_X6_happens 15) [some (mr 7 20), some (mi x1), some (mi x2), some (mi x3)] [] (mU g 7 c)) (wO (wV g 7)) (B_X6_happens_15 x1 x2 (x3, c))
  refine Eq.trans (e_X6_happens_15) ?_
  try simp only [mU_same, mU_mU]
  refine mw_ite (fun h4 => ?_) (fun h4 => ?_)
  · refine mw_inr ?_
    refine Eq.trans (e_X6_happens_40) ?_
    try simp only [mU_same, mU_mU]
    refine mw_oV ?_ (rr_X6_adds d) (fun c1 => ?_)
    · rfl
    exact rj_X6_happens_47 d
  · refine Eq.trans (e_X6_happens_22) ?_
    try simp only [mU_same, mU_mU]
    refine mw_oI ?_ (rr_X6_of d) (fun v2 => ?_)
    · rfl
    refine Eq.trans (e_X6_happens_31) ?_
    try simp only [mU_same, mU_mU]
    refine mw_oV ?_ (rr_X6_puts d) (fun c3 => ?_)
    · rfl
    refine Eq.trans (e_X6_happens_34) ?_
    try simp only [mU_same, mU_mU]
    exact mw_inl rfl
noncomputable def P_X6_happens (c : mC) (x1 : Int32) (x2 : Int32) : (Option (mC)) := (mBo (α := Int32) none (P_X6_of c 12) (fun v1 => (if v1 = 32 then (mWh none (B_X6_happens_15 x1 x2) (192, c)) else (J_X6_happens_47 c x1 x2))))
theorem rr_X6_happens (d : Nat) {X : mX} {g : mG} {x1 x2 : Int32} {c : mC} : mCall mD X (d + 2) 182 [mr 7 20, mi x1, mi x2] (mU g 7 c) = (wO (wV g 7)) (P_X6_happens c x1 x2) := by
  refine Eq.trans (mCall_eq (d := d + 1) rfl) ?_
  show mEv X (mCall mD X (d + 1)) 0 t_X6_happens (mDrop t_X6_happens 0) [some (mr 7 20), some (mi x1), some (mi x2), none] [] (mU g 7 c) = _
  refine Eq.trans (e_X6_happens_0) ?_
  try simp only [mU_same, mU_mU]
  refine mw_oI ?_ (rr_X6_of d) (fun v1 => ?_)
  · rfl
  refine Eq.trans (e_X6_happens_6) ?_
  try simp only [mU_same, mU_mU]
  refine mw_ite (fun h2 => ?_) (fun h2 => ?_)
  · refine Eq.trans (e_X6_happens_11) ?_
    try simp only [mU_same, mU_mU]
    exact rl_X6_happens_15 d
  · exact rj_X6_happens_47 d
theorem rr_X6_happens_at (d : Nat) {X : mX} {g : mG} {x1 x2 : Int32} : mCall mD X (d + 2) 182 [mr 7 20, mi x1, mi x2] g = wO (wV g 7) (P_X6_happens (g 7) x1 x2) := by
  have h := rr_X6_happens (X := X) d (g := g) (c := g 7) (x1 := x1) (x2 := x2)
  rw [mU_self] at h
  exact h
theorem e_X6_becomesGreen_0 {X : mX} {call : Nat → List mV → mG → mR} {g : mG} {x1 x2 : Int32} : mEv X call 0 t_X6_becomesGreen (mDrop t_X6_becomesGreen 0) [some (mr 7 20), some (mi x1), some (mi x2), none] [] g = mAns (mEv X call 0 t_X6_becomesGreen) (mDrop t_X6_becomesGreen 5) [some (mr 7 20), some (mi x1), some (mi x2), none] [] (call 177 [mr 7 20, mi x2] g) := (mEv_3 _ _ _ _).trans rfl
theorem e_X6_becomesGreen_5 {X : mX} {call : Nat → List mV → mG → mR} {g : mG} {x1 x2 s0 : Int32} : mEv X call 0 t_X6_becomesGreen (mDrop t_X6_becomesGreen 5) [some (mr 7 20), some (mi x1), some (mi x2), none] [mi s0] g = if s0 = 0 then mEv X call 0 t_X6_becomesGreen (mDrop t_X6_becomesGreen 12) [some (mr 7 20), some (mi x1), some (mi x2), none] [] g else mEv X call 0 t_X6_becomesGreen (mDrop t_X6_becomesGreen 8) [some (mr 7 20), some (mi x1), some (mi x2), none] [] g := (mEv_1 _ _ _ _).trans rfl
theorem e_X6_becomesGreen_12 {X : mX} {call : Nat → List mV → mG → mR} {g : mG} {x1 x2 : Int32} : mEv X call 0 t_X6_becomesGreen (mDrop t_X6_becomesGreen 12) [some (mr 7 20), some (mi x1), some (mi x2), none] [] g = mEv X call 0 t_X6_becomesGreen (mDrop t_X6_becomesGreen 13) [some (mr 7 20), some (mi x1), some (mi x2), none] [mi 0] g := (mEv_1 _ _ _ _).trans rfl
theorem e_X6_becomesGreen_13 {X : mX} {call : Nat → List mV → mG → mR} {g : mG} {x1 x2 s0 : Int32} : mEv X call 0 t_X6_becomesGreen (mDrop t_X6_becomesGreen 13) [some (mr 7 20), some (mi x1), some (mi x2), none] [mi s0] g = mAns (mEv X call 0 t_X6_becomesGreen) (mDrop t_X6_becomesGreen 19) [some (mr 7 20), some (mi x1), some (mi x2), some (mi s0)] [] (call 175 [mr 7 20, mi x1] g) := (mEv_4 _ _ _ _).trans rfl
theorem e_X6_becomesGreen_19 {X : mX} {call : Nat → List mV → mG → mR} {g : mG} {x1 x2 x3 : Int32} : mEv X call 0 t_X6_becomesGreen (mDrop t_X6_becomesGreen 19) [some (mr 7 20), some (mi x1), some (mi x2), some (mi x3)] [] g = mAns (mEv X call 0 t_X6_becomesGreen) (mDrop t_X6_becomesGreen 26) [some (mr 7 20), some (mi x1), some (mi x2), some (mi x3)] [] (call 164 [mr 7 20, mi x1, mi 0, mi x2] g) := (mEv_5 _ _ _ _).trans rfl
theorem e_X6_becomesGreen_26 {X : mX} {call : Nat → List mV → mG → mR} {g : mG} {x1 x2 x3 : Int32} : mEv X call 0 t_X6_becomesGreen (mDrop t_X6_becomesGreen 26) [some (mr 7 20), some (mi x1), some (mi x2), some (mi x3)] [] g = mAns (mEv X call 0 t_X6_becomesGreen) (mDrop t_X6_becomesGreen 33) [some (mr 7 20), some (mi x1), some (mi x2), some (mi x3)] [] (call 164 [mr 7 20, mi x1, mi 1, mi 0] g) := (mEv_5 _ _ _ _).trans rfl
theorem e_X6_becomesGreen_33 {X : mX} {call : Nat → List mV → mG → mR} {g : mG} {x1 x2 x3 : Int32} : mEv X call 0 t_X6_becomesGreen (mDrop t_X6_becomesGreen 33) [some (mr 7 20), some (mi x1), some (mi x2), some (mi x3)] [] g = mAns (mEv X call 0 t_X6_becomesGreen) (mDrop t_X6_becomesGreen 41) [some (mr 7 20), some (mi x1), some (mi x2), some (mi x3)] [] (call 164 [mr 7 20, mi x1, mi 6, mi x3] g) := (mEv_5 _ _ _ _).trans rfl
theorem e_X6_becomesGreen_41 {X : mX} {call : Nat → List mV → mG → mR} {g : mG} {x1 x2 x3 : Int32} : mEv X call 0 t_X6_becomesGreen (mDrop t_X6_becomesGreen 41) [some (mr 7 20), some (mi x1), some (mi x2), some (mi x3)] [] g = mAns (mEv X call 0 t_X6_becomesGreen) (mDrop t_X6_becomesGreen 49) [some (mr 7 20), some (mi x1), some (mi x2), some (mi x3)] [] (call 166 [mr 7 20, mi x2, mi 13, mi 0] g) := (mEv_5 _ _ _ _).trans rfl
theorem e_X6_becomesGreen_49 {X : mX} {call : Nat → List mV → mG → mR} {g : mG} {x1 x2 x3 : Int32} : mEv X call 0 t_X6_becomesGreen (mDrop t_X6_becomesGreen 49) [some (mr 7 20), some (mi x1), some (mi x2), some (mi x3)] [] g = mAns (mEv X call 0 t_X6_becomesGreen) (mDrop t_X6_becomesGreen 57) [some (mr 7 20), some (mi x1), some (mi x2), some (mi x3)] [] (call 166 [mr 7 20, mi x2, mi 14, mi 0] g) := (mEv_5 _ _ _ _).trans rfl
theorem e_X6_becomesGreen_57 {X : mX} {call : Nat → List mV → mG → mR} {g : mG} {x1 x2 x3 : Int32} : mEv X call 0 t_X6_becomesGreen (mDrop t_X6_becomesGreen 57) [some (mr 7 20), some (mi x1), some (mi x2), some (mi x3)] [] g = mAns (mEv X call 0 t_X6_becomesGreen) (mDrop t_X6_becomesGreen 63) [some (mr 7 20), some (mi x1), some (mi x2), some (mi x3)] [] (call 182 [mr 7 20, mi 0, mi x2] g) := (mEv_4 _ _ _ _).trans rfl
theorem e_X6_becomesGreen_63 {X : mX} {call : Nat → List mV → mG → mR} {g : mG} {x1 x2 x3 : Int32} : mEv X call 0 t_X6_becomesGreen (mDrop t_X6_becomesGreen 63) [some (mr 7 20), some (mi x1), some (mi x2), some (mi x3)] [] g = some (none, g) := (mEv_1 _ _ _ _).trans rfl
noncomputable def J_X6_becomesGreen_13 (c : mC) (x1 : Int32) (x2 : Int32) (s0 : Int32) : (Option (mC)) := (mBo (α := mC) none (P_X6_clearsRing c x1) (fun c1 => (mBo (α := mC) none (P_X6_putsRing c1 x1 0 x2) (fun c2 => (mBo (α := mC) none (P_X6_putsRing c2 x1 1 0) (fun c3 => (mBo (α := mC) none (P_X6_putsRing c3 x1 6 s0) (fun c4 => (mBo (α := mC) none (P_X6_putsPhase c4 x2 13 0) (fun c5 => (mBo (α := mC) none (P_X6_putsPhase c5 x2 14 0) (fun c6 => (mBo (α := mC) none (P_X6_happens c6 0 x2) (fun c7 => (some c7)))))))))))))))
theorem rj_X6_becomesGreen_13 (d : Nat) {X : mX} {g : mG} {x1 x2 s0 : Int32} {c : mC} : mEv X (mCall mD X (d + 4)) 0 t_X6_becomesGreen (mDrop t_X6_becomesGreen 13) [some (mr 7 20), some (mi x1), some (mi x2), none] [mi s0] (mU g 7 c) = (wO (wV g 7)) (J_X6_becomesGreen_13 c x1 x2 s0) := by
  refine Eq.trans (e_X6_becomesGreen_13) ?_
  try simp only [mU_same, mU_mU]
  refine mw_oV ?_ (rr_X6_clearsRing (d + 1)) (fun c1 => ?_)
  · rfl
  refine Eq.trans (e_X6_becomesGreen_19) ?_
  try simp only [mU_same, mU_mU]
  refine mw_oV ?_ (rr_X6_putsRing (d + 2)) (fun c2 => ?_)
  · rfl
  refine Eq.trans (e_X6_becomesGreen_26) ?_
  try simp only [mU_same, mU_mU]
  refine mw_oV ?_ (rr_X6_putsRing (d + 2)) (fun c3 => ?_)
  · rfl
  refine Eq.trans (e_X6_becomesGreen_33) ?_
  try simp only [mU_same, mU_mU]
  refine mw_oV ?_ (rr_X6_putsRing (d + 2)) (fun c4 => ?_)
  · rfl
  refine Eq.trans (e_X6_becomesGreen_41) ?_
  try simp only [mU_same, mU_mU]
  refine mw_oV ?_ (rr_X6_putsPhase (d + 2)) (fun c5 => ?_)
  · rfl
  refine Eq.trans (e_X6_becomesGreen_49) ?_
  try simp only [mU_same, mU_mU]
  refine mw_oV ?_ (rr_X6_putsPhase (d + 2)) (fun c6 => ?_)
  · rfl
  refine Eq.trans (e_X6_becomesGreen_57) ?_
  try simp only [mU_same, mU_mU]
  refine mw_oV ?_ (rr_X6_happens (d + 2)) (fun c7 => ?_)
  · rfl
  refine Eq.trans (e_X6_becomesGreen_63) ?_
  try simp only [mU_same, mU_mU]
  all_goals rfl
theorem e_X6_becomesGreen_8 {X : mX} {call : Nat → List mV → mG → mR} {g : mG} {x1 x2 : Int32} : mEv X call 0 t_X6_becomesGreen (mDrop t_X6_becomesGreen 8) [some (mr 7 20), some (mi x1), some (mi x2), none] [] g = mEv X call 0 t_X6_becomesGreen (mDrop t_X6_becomesGreen 13) [some (mr 7 20), some (mi x1), some (mi x2), none] [mi 1] g := (mEv_2 _ _ _ _).trans rfl
noncomputable def P_X6_becomesGreen (c : mC) (x1 : Int32) (x2 : Int32) : (Option (mC)) := (mBo (α := Int32) none (P_X6_isOnFoot c x2) (fun v1 => (if v1 = 0 then (J_X6_becomesGreen_13 c x1 x2 0) else (J_X6_becomesGreen_13 c x1 x2 1))))
theorem rr_X6_becomesGreen (d : Nat) {X : mX} {g : mG} {x1 x2 : Int32} {c : mC} : mCall mD X (d + 5) 183 [mr 7 20, mi x1, mi x2] (mU g 7 c) = (wO (wV g 7)) (P_X6_becomesGreen c x1 x2) := by
  refine Eq.trans (mCall_eq (d := d + 4) rfl) ?_
  show mEv X (mCall mD X (d + 4)) 0 t_X6_becomesGreen (mDrop t_X6_becomesGreen 0) [some (mr 7 20), some (mi x1), some (mi x2), none] [] (mU g 7 c) = _
  refine Eq.trans (e_X6_becomesGreen_0) ?_
  try simp only [mU_same, mU_mU]
  refine mw_oZ ?_ (rr_X6_isOnFoot d) rfl (fun v1 hv1 => ?_)
  · rfl
  refine Eq.trans (e_X6_becomesGreen_5) ?_
  try simp only [mU_same, mU_mU]
  refine mw_ite (fun h2 => ?_) (fun h2 => ?_)
  · refine Eq.trans (e_X6_becomesGreen_12) ?_
    try simp only [mU_same, mU_mU]
    exact rj_X6_becomesGreen_13 d
  · refine Eq.trans (e_X6_becomesGreen_8) ?_
    try simp only [mU_same, mU_mU]
    exact rj_X6_becomesGreen_13 d
theorem rr_X6_becomesGreen_at (d : Nat) {X : mX} {g : mG} {x1 x2 : Int32} : mCall mD X (d + 5) 183 [mr 7 20, mi x1, mi x2] g = wO (wV g 7) (P_X6_becomesGreen (g 7) x1 x2) := by
  have h := rr_X6_becomesGreen (X := X) d (g := g) (c := g 7) (x1 := x1) (x2 := x2)
  rw [mU_self] at h
  exact h
theorem e_X6_leaves_0 {X : mX} {call : Nat → List mV → mG → mR} {g : mG} {x1 x2 : Int32} : mEv X call 0 t_X6_leaves (mDrop t_X6_leaves 0) [some (mr 7 20), some (mi x1), some (mi x2), none] [] g = mAns (mEv X call 0 t_X6_leaves) (mDrop t_X6_leaves 6) [some (mr 7 20), some (mi x1), some (mi x2), none] [] (call 163 [mr 7 20, mi x1, mi 0] g) := (mEv_4 _ _ _ _).trans rfl
theorem e_X6_leaves_6 {X : mX} {call : Nat → List mV → mG → mR} {g : mG} {x1 x2 s0 : Int32} : mEv X call 0 t_X6_leaves (mDrop t_X6_leaves 6) [some (mr 7 20), some (mi x1), some (mi x2), none] [mi s0] g = mAns (mEv X call 0 t_X6_leaves) (mDrop t_X6_leaves 12) [some (mr 7 20), some (mi x1), some (mi x2), some (mi s0)] [] (call 175 [mr 7 20, mi x1] g) := (mEv_4 _ _ _ _).trans rfl
theorem e_X6_leaves_12 {X : mX} {call : Nat → List mV → mG → mR} {g : mG} {x1 x2 x3 : Int32} : mEv X call 0 t_X6_leaves (mDrop t_X6_leaves 12) [some (mr 7 20), some (mi x1), some (mi x2), some (mi x3)] [] g = mAns (mEv X call 0 t_X6_leaves) (mDrop t_X6_leaves 19) [some (mr 7 20), some (mi x1), some (mi x2), some (mi x3)] [] (call 164 [mr 7 20, mi x1, mi 0, mi x3] g) := (mEv_5 _ _ _ _).trans rfl
theorem e_X6_leaves_19 {X : mX} {call : Nat → List mV → mG → mR} {g : mG} {x1 x2 x3 : Int32} : mEv X call 0 t_X6_leaves (mDrop t_X6_leaves 19) [some (mr 7 20), some (mi x1), some (mi x2), some (mi x3)] [] g = mAns (mEv X call 0 t_X6_leaves) (mDrop t_X6_leaves 26) [some (mr 7 20), some (mi x1), some (mi x2), some (mi x3)] [] (call 164 [mr 7 20, mi x1, mi 1, mi 1] g) := (mEv_5 _ _ _ _).trans rfl
theorem e_X6_leaves_26 {X : mX} {call : Nat → List mV → mG → mR} {g : mG} {x1 x2 x3 : Int32} : mEv X call 0 t_X6_leaves (mDrop t_X6_leaves 26) [some (mr 7 20), some (mi x1), some (mi x2), some (mi x3)] [] g = mAns (mEv X call 0 t_X6_leaves) (mDrop t_X6_leaves 33) [some (mr 7 20), some (mi x1), some (mi x2), some (mi x3)] [] (call 164 [mr 7 20, mi x1, mi 3, mi x2] g) := (mEv_5 _ _ _ _).trans rfl
theorem e_X6_leaves_33 {X : mX} {call : Nat → List mV → mG → mR} {g : mG} {x1 x2 x3 : Int32} : mEv X call 0 t_X6_leaves (mDrop t_X6_leaves 33) [some (mr 7 20), some (mi x1), some (mi x2), some (mi x3)] [] g = mAns (mEv X call 0 t_X6_leaves) (mDrop t_X6_leaves 39) [some (mr 7 20), some (mi x1), some (mi x2), some (mi x3)] [] (call 182 [mr 7 20, mi 1, mi x3] g) := (mEv_4 _ _ _ _).trans rfl
theorem e_X6_leaves_39 {X : mX} {call : Nat → List mV → mG → mR} {g : mG} {x1 x2 x3 : Int32} : mEv X call 0 t_X6_leaves (mDrop t_X6_leaves 39) [some (mr 7 20), some (mi x1), some (mi x2), some (mi x3)] [] g = some (none, g) := (mEv_1 _ _ _ _).trans rfl
noncomputable def P_X6_leaves (c : mC) (x1 : Int32) (x2 : Int32) : (Option (mC)) := (mBo (α := Int32) none (P_X6_ofRing c x1 0) (fun v1 => (mBo (α := mC) none (P_X6_clearsRing c x1) (fun c2 => (mBo (α := mC) none (P_X6_putsRing c2 x1 0 v1) (fun c3 => (mBo (α := mC) none (P_X6_putsRing c3 x1 1 1) (fun c4 => (mBo (α := mC) none (P_X6_putsRing c4 x1 3 x2) (fun c5 => (mBo (α := mC) none (P_X6_happens c5 1 v1) (fun c6 => (some c6)))))))))))))
theorem rr_X6_leaves (d : Nat) {X : mX} {g : mG} {x1 x2 : Int32} {c : mC} : mCall mD X (d + 4) 184 [mr 7 20, mi x1, mi x2] (mU g 7 c) = (wO (wV g 7)) (P_X6_leaves c x1 x2) := by
  refine Eq.trans (mCall_eq (d := d + 3) rfl) ?_
  show mEv X (mCall mD X (d + 3)) 0 t_X6_leaves (mDrop t_X6_leaves 0) [some (mr 7 20), some (mi x1), some (mi x2), none] [] (mU g 7 c) = _
  refine Eq.trans (e_X6_leaves_0) ?_
  try simp only [mU_same, mU_mU]
  refine mw_oI ?_ (rr_X6_ofRing (d + 1)) (fun v1 => ?_)
  · rfl
  refine Eq.trans (e_X6_leaves_6) ?_
  try simp only [mU_same, mU_mU]
  refine mw_oV ?_ (rr_X6_clearsRing d) (fun c2 => ?_)
  · rfl
  refine Eq.trans (e_X6_leaves_12) ?_
  try simp only [mU_same, mU_mU]
  refine mw_oV ?_ (rr_X6_putsRing (d + 1)) (fun c3 => ?_)
  · rfl
  refine Eq.trans (e_X6_leaves_19) ?_
  try simp only [mU_same, mU_mU]
  refine mw_oV ?_ (rr_X6_putsRing (d + 1)) (fun c4 => ?_)
  · rfl
  refine Eq.trans (e_X6_leaves_26) ?_
  try simp only [mU_same, mU_mU]
  refine mw_oV ?_ (rr_X6_putsRing (d + 1)) (fun c5 => ?_)
  · rfl
  refine Eq.trans (e_X6_leaves_33) ?_
  try simp only [mU_same, mU_mU]
  refine mw_oV ?_ (rr_X6_happens (d + 1)) (fun c6 => ?_)
  · rfl
  refine Eq.trans (e_X6_leaves_39) ?_
  try simp only [mU_same, mU_mU]
  all_goals rfl
theorem rr_X6_leaves_at (d : Nat) {X : mX} {g : mG} {x1 x2 : Int32} : mCall mD X (d + 4) 184 [mr 7 20, mi x1, mi x2] g = wO (wV g 7) (P_X6_leaves (g 7) x1 x2) := by
  have h := rr_X6_leaves (X := X) d (g := g) (c := g 7) (x1 := x1) (x2 := x2)
  rw [mU_self] at h
  exact h
theorem e_X6_goes_0 {X : mX} {call : Nat → List mV → mG → mR} {g : mG} {x1 x2 : Int32} : mEv X call 0 t_X6_goes (mDrop t_X6_goes 0) [some (mr 7 20), some (mi x1), some (mi x2)] [] g = mAns (mEv X call 0 t_X6_goes) (mDrop t_X6_goes 5) [some (mr 7 20), some (mi x1), some (mi x2)] [] (call 180 [mr 7 20, mi x1] g) := (mEv_3 _ _ _ _).trans rfl
theorem e_X6_goes_5 {X : mX} {call : Nat → List mV → mG → mR} {g : mG} {x1 x2 s0 : Int32} : mEv X call 0 t_X6_goes (mDrop t_X6_goes 5) [some (mr 7 20), some (mi x1), some (mi x2)] [mi s0] g = if s0 = 0 then mEv X call 0 t_X6_goes (mDrop t_X6_goes 17) [some (mr 7 20), some (mi x1), some (mi x2)] [] g else mEv X call 0 t_X6_goes (mDrop t_X6_goes 8) [some (mr 7 20), some (mi x1), some (mi x2)] [] g := (mEv_1 _ _ _ _).trans rfl
theorem e_X6_goes_17 {X : mX} {call : Nat → List mV → mG → mR} {g : mG} {x1 x2 : Int32} : mEv X call 0 t_X6_goes (mDrop t_X6_goes 17) [some (mr 7 20), some (mi x1), some (mi x2)] [] g = mAns (mEv X call 0 t_X6_goes) (mDrop t_X6_goes 24) [some (mr 7 20), some (mi x1), some (mi x2)] [] (call 164 [mr 7 20, mi x1, mi 3, mi x2] g) := (mEv_5 _ _ _ _).trans rfl
theorem e_X6_goes_24 {X : mX} {call : Nat → List mV → mG → mR} {g : mG} {x1 x2 : Int32} : mEv X call 0 t_X6_goes (mDrop t_X6_goes 24) [some (mr 7 20), some (mi x1), some (mi x2)] [] g = some (none, g) := (mEv_1 _ _ _ _).trans rfl
theorem e_X6_goes_8 {X : mX} {call : Nat → List mV → mG → mR} {g : mG} {x1 x2 : Int32} : mEv X call 0 t_X6_goes (mDrop t_X6_goes 8) [some (mr 7 20), some (mi x1), some (mi x2)] [] g = mAns (mEv X call 0 t_X6_goes) (mDrop t_X6_goes 14) [some (mr 7 20), some (mi x1), some (mi x2)] [] (call 184 [mr 7 20, mi x1, mi x2] g) := (mEv_4 _ _ _ _).trans rfl
theorem e_X6_goes_14 {X : mX} {call : Nat → List mV → mG → mR} {g : mG} {x1 x2 : Int32} : mEv X call 0 t_X6_goes (mDrop t_X6_goes 14) [some (mr 7 20), some (mi x1), some (mi x2)] [] g = mEv X call 0 t_X6_goes (mDrop t_X6_goes 24) [some (mr 7 20), some (mi x1), some (mi x2)] [] g := (mEv_1 _ _ _ _).trans rfl
noncomputable def P_X6_goes (c : mC) (x1 : Int32) (x2 : Int32) : (Option (mC)) := (mBo (α := Int32) none (P_X6_isHolding c x1) (fun v1 => (if v1 = 0 then (mBo (α := mC) none (P_X6_putsRing c x1 3 x2) (fun c2 => (some c2))) else (mBo (α := mC) none (P_X6_leaves c x1 x2) (fun c3 => (some c3))))))
theorem rr_X6_goes (d : Nat) {X : mX} {g : mG} {x1 x2 : Int32} {c : mC} : mCall mD X (d + 5) 185 [mr 7 20, mi x1, mi x2] (mU g 7 c) = (wO (wV g 7)) (P_X6_goes c x1 x2) := by
  refine Eq.trans (mCall_eq (d := d + 4) rfl) ?_
  show mEv X (mCall mD X (d + 4)) 0 t_X6_goes (mDrop t_X6_goes 0) [some (mr 7 20), some (mi x1), some (mi x2)] [] (mU g 7 c) = _
  refine Eq.trans (e_X6_goes_0) ?_
  try simp only [mU_same, mU_mU]
  refine mw_oZ ?_ (rr_X6_isHolding (d + 1)) rfl (fun v1 hv1 => ?_)
  · rfl
  refine Eq.trans (e_X6_goes_5) ?_
  try simp only [mU_same, mU_mU]
  refine mw_ite (fun h4 => ?_) (fun h4 => ?_)
  · refine Eq.trans (e_X6_goes_17) ?_
    try simp only [mU_same, mU_mU]
    refine mw_oV ?_ (rr_X6_putsRing (d + 2)) (fun c2 => ?_)
    · rfl
    refine Eq.trans (e_X6_goes_24) ?_
    try simp only [mU_same, mU_mU]
    all_goals rfl
  · refine Eq.trans (e_X6_goes_8) ?_
    try simp only [mU_same, mU_mU]
    refine mw_oV ?_ (rr_X6_leaves d) (fun c3 => ?_)
    · rfl
    refine Eq.trans (e_X6_goes_14) ?_
    try simp only [mU_same, mU_mU]
    refine Eq.trans (e_X6_goes_24) ?_
    try simp only [mU_same, mU_mU]
    all_goals rfl
theorem rr_X6_goes_at (d : Nat) {X : mX} {g : mG} {x1 x2 : Int32} : mCall mD X (d + 5) 185 [mr 7 20, mi x1, mi x2] g = wO (wV g 7) (P_X6_goes (g 7) x1 x2) := by
  have h := rr_X6_goes (X := X) d (g := g) (c := g 7) (x1 := x1) (x2 := x2)
  rw [mU_self] at h
  exact h
theorem e_X6_drawBy_0 {X : mX} {call : Nat → List mV → mG → mR} {g : mG} {x1 : Int32} : mEv X call 1 t_X6_drawBy (mDrop t_X6_drawBy 0) [some (mr 7 20), some (mi x1)] [] g = if (233280 : Int64) = 0 then none else mEv X call 1 t_X6_drawBy (mDrop t_X6_drawBy 18) [some (mr 7 20), some (mi x1)] [ml (((((g 7 20 3)).toInt64 * 9301) + 49297) - ((((g 7 20 3)).toInt64 * 9301) + 49297) / 233280 * 233280), mr 7 20] g := (mEv_10 _ _ _ _).trans rfl
theorem e_X6_drawBy_18 {X : mX} {call : Nat → List mV → mG → mR} {g : mG} {x1 : Int32} {s1 : Int64} : mEv X call 1 t_X6_drawBy (mDrop t_X6_drawBy 18) [some (mr 7 20), some (mi x1)] [ml s1, mr 7 20] g = mEv X call 1 t_X6_drawBy (mDrop t_X6_drawBy 22) [some (mr 7 20), some (mi x1)] [] (mU g 7 (mP (g 7) 20 3 (s1).toInt32)) := (mEv_2 _ _ _ _).trans rfl
theorem e_X6_drawBy_22 {X : mX} {call : Nat → List mV → mG → mR} {g : mG} {x1 : Int32} : mEv X call 1 t_X6_drawBy (mDrop t_X6_drawBy 22) [some (mr 7 20), some (mi x1)] [] g = if (233280 : Int64) = 0 then none else mEv X call 1 t_X6_drawBy (mDrop t_X6_drawBy 34) [some (mr 7 20), some (mi x1)] [ml ((((g 7 20 3)).toInt64 * (x1).toInt64) / 233280)] g := (mEv_8 _ _ _ _).trans rfl
theorem e_X6_drawBy_34 {X : mX} {call : Nat → List mV → mG → mR} {g : mG} {x1 : Int32} {s0 : Int64} : mEv X call 1 t_X6_drawBy (mDrop t_X6_drawBy 34) [some (mr 7 20), some (mi x1)] [ml s0] g = some (some (mi (s0).toInt32), g) := (mEv_2 _ _ _ _).trans rfl
noncomputable def P_X6_drawBy (c : mC) (x1 : Int32) : (Option (Int32 × mC)) := (some (((((((mP c 20 3 ((((((c 20 3)).toInt64 * 9301) + 49297) - ((((c 20 3)).toInt64 * 9301) + 49297) / 233280 * 233280)).toInt32) 20 3)).toInt64 * (x1).toInt64) / 233280)).toInt32, (mP c 20 3 ((((((c 20 3)).toInt64 * 9301) + 49297) - ((((c 20 3)).toInt64 * 9301) + 49297) / 233280 * 233280)).toInt32)))
theorem rr_X6_drawBy (d : Nat) {X : mX} {g : mG} {x1 : Int32} {c : mC} : mCall mD X (d + 1) 186 [mr 7 20, mi x1] (mU g 7 c) = (wO (wW g 7)) (P_X6_drawBy c x1) := by
  refine Eq.trans (mCall_eq (d := d + 0) rfl) ?_
  show mEv X (mCall mD X (d + 0)) 1 t_X6_drawBy (mDrop t_X6_drawBy 0) [some (mr 7 20), some (mi x1)] [] (mU g 7 c) = _
  refine Eq.trans (e_X6_drawBy_0) ?_
  try simp only [mU_same, mU_mU]
  refine Eq.trans (if_neg (by decide)) ?_
  refine Eq.trans (e_X6_drawBy_18) ?_
  try simp only [mU_same, mU_mU]
  refine Eq.trans (e_X6_drawBy_22) ?_
  try simp only [mU_same, mU_mU]
  refine Eq.trans (if_neg (by decide)) ?_
  refine Eq.trans (e_X6_drawBy_34) ?_
  try simp only [mU_same, mU_mU]
  all_goals rfl
theorem rr_X6_drawBy_at (d : Nat) {X : mX} {g : mG} {x1 : Int32} : mCall mD X (d + 1) 186 [mr 7 20, mi x1] g = wO (wW g 7) (P_X6_drawBy (g 7) x1) := by
  have h := rr_X6_drawBy (X := X) d (g := g) (c := g 7) (x1 := x1)
  rw [mU_self] at h
  exact h
theorem e_X6_comers_0 {X : mX} {call : Nat → List mV → mG → mR} {g : mG} : mEv X call 0 t_X6_comers (mDrop t_X6_comers 0) [some (mr 7 20), none] [] g = mEv X call 0 t_X6_comers (mDrop t_X6_comers 2) [some (mr 7 20), some (mi 0)] [] g := (mEv_2 _ _ _ _).trans rfl
theorem e_X6_comers_2 {X : mX} {call : Nat → List mV → mG → mR} {g : mG} {x1 : Int32} : mEv X call 0 t_X6_comers (mDrop t_X6_comers 2) [some (mr 7 20), some (mi x1)] [] g = mAns (mEv X call 0 t_X6_comers) (mDrop t_X6_comers 8) [some (mr 7 20), some (mi x1)] [mi x1] (call 158 [mr 7 20, mi 0] g) := (mEv_4 _ _ _ _).trans rfl
theorem e_X6_comers_8 {X : mX} {call : Nat → List mV → mG → mR} {g : mG} {x1 s0 s1 : Int32} : mEv X call 0 t_X6_comers (mDrop t_X6_comers 8) [some (mr 7 20), some (mi x1)] [mi s1, mi s0] g = if s1 ≤ s0 then mEv X call 0 t_X6_comers (mDrop t_X6_comers 54) [some (mr 7 20), some (mi x1)] [] g else mEv X call 0 t_X6_comers (mDrop t_X6_comers 11) [some (mr 7 20), some (mi x1)] [] g := (mEv_1 _ _ _ _).trans rfl
theorem e_X6_comers_54 {X : mX} {call : Nat → List mV → mG → mR} {g : mG} {x1 : Int32} : mEv X call 0 t_X6_comers (mDrop t_X6_comers 54) [some (mr 7 20), some (mi x1)] [] g = some (none, g) := (mEv_1 _ _ _ _).trans rfl
theorem e_X6_comers_11 {X : mX} {call : Nat → List mV → mG → mR} {g : mG} {x1 : Int32} : mEv X call 0 t_X6_comers (mDrop t_X6_comers 11) [some (mr 7 20), some (mi x1)] [] g = mAns (mEv X call 0 t_X6_comers) (mDrop t_X6_comers 17) [some (mr 7 20), some (mi x1)] [] (call 186 [mr 7 20, mi 60] g) := (mEv_3 _ _ _ _).trans rfl
theorem e_X6_comers_17 {X : mX} {call : Nat → List mV → mG → mR} {g : mG} {x1 s0 : Int32} : mEv X call 0 t_X6_comers (mDrop t_X6_comers 17) [some (mr 7 20), some (mi x1)] [mi s0] g = mAns (mEv X call 0 t_X6_comers) (mDrop t_X6_comers 24) [some (mr 7 20), some (mi x1)] [mi s0] (call 167 [mr 7 20, mi x1, mi 9] g) := (mEv_4 _ _ _ _).trans rfl
theorem e_X6_comers_24 {X : mX} {call : Nat → List mV → mG → mR} {g : mG} {x1 s0 s1 : Int32} : mEv X call 0 t_X6_comers (mDrop t_X6_comers 24) [some (mr 7 20), some (mi x1)] [mi s1, mi s0] g = if s1 ≤ s0 then mEv X call 0 t_X6_comers (mDrop t_X6_comers 48) [some (mr 7 20), some (mi x1)] [] g else mEv X call 0 t_X6_comers (mDrop t_X6_comers 27) [some (mr 7 20), some (mi x1)] [] g := (mEv_1 _ _ _ _).trans rfl
theorem e_X6_comers_48 {X : mX} {call : Nat → List mV → mG → mR} {g : mG} {x1 : Int32} : mEv X call 0 t_X6_comers (mDrop t_X6_comers 48) [some (mr 7 20), some (mi x1)] [] g = mEv X call 0 t_X6_comers (mDrop t_X6_comers 2) [some (mr 7 20), some (mi (x1 + 1))] [] g := (mEv_2 _ _ _ _).trans rfl
noncomputable def J_X6_comers_48 (c : mC) (x1 : Int32) : ((Int32 × mC) ⊕ (Option (mC))) := (.inl ((x1 + 1), c))
theorem rj_X6_comers_48 (d : Nat) {X : mX} {g : mG} {x1 : Int32} {c : mC} : mEv X (mCall mD X (d + 3)) 0 t_X6_comers (mDrop t_X6_comers 48) [some (mr 7 20), some (mi x1)] [] (mU g 7 c) = (wB (fun s : (Int32 × mC) => match s with | (x1, c) => mEv X (mCall mD X (d + 3)) 0 t_X6_comers (mDrop t_X6_comers 2) [some (mr 7 20), some (mi x1)] [] (mU g 7 c)) (wO (wV g 7))) (J_X6_comers_48 c x1) := by
  refine Eq.trans (e_X6_comers_48) ?_
  try simp only [mU_same, mU_mU]
  exact mw_inl rfl
theorem e_X6_comers_27 {X : mX} {call : Nat → List mV → mG → mR} {g : mG} {x1 : Int32} : mEv X call 0 t_X6_comers (mDrop t_X6_comers 27) [some (mr 7 20), some (mi x1)] [] g = mAns (mEv X call 0 t_X6_comers) (mDrop t_X6_comers 40) [some (mr 7 20), some (mi x1)] [mi 99, mi 12, mi x1, mr 7 20] (call 165 [mr 7 20, mi x1, mi 12] g) := (mEv_8 _ _ _ _).trans rfl
theorem e_X6_comers_40 {X : mX} {call : Nat → List mV → mG → mR} {g : mG} {x1 s1 s2 s3 s4 : Int32} : mEv X call 0 t_X6_comers (mDrop t_X6_comers 40) [some (mr 7 20), some (mi x1)] [mi s4, mi s3, mi s2, mi s1, mr 7 20] g = mAns (mEv X call 0 t_X6_comers) (mDrop t_X6_comers 45) [some (mr 7 20), some (mi x1)] [mi s2, mi s1, mr 7 20] (call 278 [mi s3, mi (s4 + 1)] g) := (mEv_3 _ _ _ _).trans rfl
theorem e_X6_comers_45 {X : mX} {call : Nat → List mV → mG → mR} {g : mG} {x1 s1 s2 s3 : Int32} : mEv X call 0 t_X6_comers (mDrop t_X6_comers 45) [some (mr 7 20), some (mi x1)] [mi s3, mi s2, mi s1, mr 7 20] g = mAns (mEv X call 0 t_X6_comers) (mDrop t_X6_comers 48) [some (mr 7 20), some (mi x1)] [] (call 166 [mr 7 20, mi s1, mi s2, mi s3] g) := (mEv_1 _ _ _ _).trans rfl
noncomputable def B_X6_comers_2  : (Int32 × mC) → (Int32 × mC) ⊕ (Option (mC)) := fun s => match s with | (x1, c) => (mBo (α := Int32) (.inr none) (P_X6_of c 0) (fun v1 => (if v1 ≤ x1 then (.inr (some c)) else (mBo (α := Int32 × mC) (.inr none) (P_X6_drawBy c 60) (fun p2 => (mBo (α := Int32) (.inr none) (P_X6_mark p2.2 x1 9) (fun v3 => (if v3 ≤ p2.1 then (J_X6_comers_48 p2.2 x1) else (mBo (α := Int32) (.inr none) (P_X6_ofPhase p2.2 x1 12) (fun v4 => (mBd (α := Int32) (P_J9_min_7cf53 99 (v4 + 1)) (fun v5 => (mBo (α := mC) (.inr none) (P_X6_putsPhase p2.2 x1 12 v5) (fun c6 => (J_X6_comers_48 c6 x1)))))))))))))))
set_option maxRecDepth 100000 in
theorem tm_X6_comers_2  : mTm (B_X6_comers_2 ) := by
  refine ⟨fun s => match s with | (x1, c) => mMx x1, fun s s2 h => ?_⟩
  obtain ⟨x1, c⟩ := s
  simp only [B_X6_comers_2, J_X6_comers_48, mBd, mBo] at h
  (repeat' split at h) <;> first | (have h2 := Sum.inl.inj h; subst h2; dsimp only; first | exact mtm_max (by assumption) | exact mtm_lt (by assumption)) | (cases h; done)
theorem rl_X6_comers_2 (d : Nat) {X : mX} {g : mG} {x1 : Int32} {c : mC} : mEv X (mCall mD X (d + 3)) 0 t_X6_comers (mDrop t_X6_comers 2) [some (mr 7 20), some (mi x1)] [] (mU g 7 c) = (wO (wV g 7)) (mWh none B_X6_comers_2 (x1, c)) := by
  refine mWh_ev (B := B_X6_comers_2) (ev := fun s : (Int32 × mC) => match s with | (x1, c) => mEv X (mCall mD X (d + 3)) 0 t_X6_comers (mDrop t_X6_comers 2) [some (mr 7 20), some (mi x1)] [] (mU g 7 c)) (w := (wO (wV g 7))) (tm_X6_comers_2) ?_ (x1, c)
  rintro ⟨x1, c⟩
  show mEv X (mCall mD X (d + 3)) 0 t_X6_comers (mDrop t_X6_comers 2) [some (mr 7 20), some (mi x1)] [] (mU g 7 c) = wB (fun s : (Int32 × mC) => match s with | (x1, c) => mEv X (mCall mD X (d + 3)) 0 t_X6_comers (mDrop t_X6_comers 2) [some (mr 7 20), some (mi x1)] [] (mU g 7 c)) (wO (wV g 7)) (mBo (α := Int32) (.inr none) (P_X6_of c 0) (fun v1 => (if v1 ≤ x1 then (.inr (some c)) else (mBo (α := Int32 × mC) (.inr none) (P_X6_drawBy c 60) (fun p2 => (mBo (α := Int32) (.inr none) (P_X6_mark p2.2 x1 9) (fun v3 => (if v3 ≤ p2.1 then (J_X6_comers_48 p2.2 x1) else (mBo (α := Int32) (.inr none) (P_X6_ofPhase p2.2 x1 12) (fun v4 => (mBd (α := Int32) (P_J9_min_7cf53 99 (v4 + 1)) (fun v5 => (mBo (α := mC) (.inr none) (P_X6_putsPhase p2.2 x1 12 v5) (fun c6 => (J_X6_comers_48 c6 x1)))))))))))))))
  refine Eq.trans (e_X6_comers_2) ?_
  try simp only [mU_same, mU_mU]
  refine mw_oI ?_ (rr_X6_of (d + 2)) (fun v1 => ?_)
  · rfl
  refine Eq.trans (e_X6_comers_8) ?_
  try simp only [mU_same, mU_mU]
  refine mw_ite (fun h8 => ?_) (fun h8 => ?_)
  · refine mw_inr ?_
    refine Eq.trans (e_X6_comers_54) ?_
    try simp only [mU_same, mU_mU]
    all_goals rfl
  · refine Eq.trans (e_X6_comers_11) ?_
    try simp only [mU_same, mU_mU]
    refine mw_oW ?_ (rr_X6_drawBy (d + 2)) (fun p2 => ?_)
    · rfl
    refine Eq.trans (e_X6_comers_17) ?_
    try simp only [mU_same, mU_mU]
    refine mw_oI ?_ (rr_X6_mark d) (fun v3 => ?_)
    · rfl
    refine Eq.trans (e_X6_comers_24) ?_
    try simp only [mU_same, mU_mU]
    refine mw_ite (fun h7 => ?_) (fun h7 => ?_)
    · exact rj_X6_comers_48 d
    · refine Eq.trans (e_X6_comers_27) ?_
      try simp only [mU_same, mU_mU]
      refine mw_oI ?_ (rr_X6_ofPhase (d + 1)) (fun v4 => ?_)
      · rfl
      refine Eq.trans (e_X6_comers_40) ?_
      try simp only [mU_same, mU_mU]
      refine mw_cI (rr_J9_min_7cf53 (d + 2)) (fun v5 => ?_)
      refine Eq.trans (e_X6_comers_45) ?_
      try simp only [mU_same, mU_mU]
      refine mw_oV ?_ (rr_X6_putsPhase (d + 1)) (fun c6 => ?_)
      · rfl
      exact rj_X6_comers_48 d
noncomputable def P_X6_comers (c : mC) : (Option (mC)) := (mWh none B_X6_comers_2 (0, c))
theorem rr_X6_comers (d : Nat) {X : mX} {g : mG} {c : mC} : mCall mD X (d + 4) 187 [mr 7 20] (mU g 7 c) = (wO (wV g 7)) (P_X6_comers c) := by
  refine Eq.trans (mCall_eq (d := d + 3) rfl) ?_
  show mEv X (mCall mD X (d + 3)) 0 t_X6_comers (mDrop t_X6_comers 0) [some (mr 7 20), none] [] (mU g 7 c) = _
  refine Eq.trans (e_X6_comers_0) ?_
  try simp only [mU_same, mU_mU]
  exact rl_X6_comers_2 d
theorem rr_X6_comers_at (d : Nat) {X : mX} {g : mG} : mCall mD X (d + 4) 187 [mr 7 20] g = wO (wV g 7) (P_X6_comers (g 7)) := by
  have h := rr_X6_comers (X := X) d (g := g) (c := g 7)
  rw [mU_self] at h
  exact h
theorem e_X6_due_0 {X : mX} {call : Nat → List mV → mG → mR} {g : mG} : mEv X call 1 t_X6_due (mDrop t_X6_due 0) [some (mr 7 20)] [] g = mAns (mEv X call 1 t_X6_due) (mDrop t_X6_due 5) [some (mr 7 20)] [] (call 158 [mr 7 20, mi 1] g) := (mEv_3 _ _ _ _).trans rfl
theorem e_X6_due_5 {X : mX} {call : Nat → List mV → mG → mR} {g : mG} {s0 : Int32} : mEv X call 1 t_X6_due (mDrop t_X6_due 5) [some (mr 7 20)] [mi s0] g = mAns (mEv X call 1 t_X6_due) (mDrop t_X6_due 10) [some (mr 7 20)] [mi s0] (call 158 [mr 7 20, mi 3] g) := (mEv_3 _ _ _ _).trans rfl
theorem e_X6_due_10 {X : mX} {call : Nat → List mV → mG → mR} {g : mG} {s0 s1 : Int32} : mEv X call 1 t_X6_due (mDrop t_X6_due 10) [some (mr 7 20)] [mi s1, mi s0] g = mAns (mEv X call 1 t_X6_due) (mDrop t_X6_due 16) [some (mr 7 20)] [mi (s0 - s1)] (call 158 [mr 7 20, mi 2] g) := (mEv_4 _ _ _ _).trans rfl
theorem e_X6_due_16 {X : mX} {call : Nat → List mV → mG → mR} {g : mG} {s0 s1 : Int32} : mEv X call 1 t_X6_due (mDrop t_X6_due 16) [some (mr 7 20)] [mi s1, mi s0] g = mAns (mEv X call 1 t_X6_due) (mDrop t_X6_due 19) [some (mr 7 20)] [] (call 157 [mi s0, mi s1] g) := (mEv_1 _ _ _ _).trans rfl
theorem e_X6_due_19 {X : mX} {call : Nat → List mV → mG → mR} {g : mG} {s0 : Int32} : mEv X call 1 t_X6_due (mDrop t_X6_due 19) [some (mr 7 20)] [mi s0] g = some (some (mi s0), g) := (mEv_1 _ _ _ _).trans rfl
noncomputable def P_X6_due (c : mC) : (Option (Int32)) := (mBo (α := Int32) none (P_X6_of c 1) (fun v1 => (mBo (α := Int32) none (P_X6_of c 3) (fun v2 => (mBo (α := Int32) none (P_X6_of c 2) (fun v3 => (mBo (α := Int32) none (P_X6_left (v1 - v2) v3) (fun v4 => (some v4)))))))))
theorem rr_X6_due (d : Nat) {X : mX} {g : mG} {c : mC} : mCall mD X (d + 2) 188 [mr 7 20] (mU g 7 c) = (wO (wI g 7 c)) (P_X6_due c) := by
  refine Eq.trans (mCall_eq (d := d + 1) rfl) ?_
  show mEv X (mCall mD X (d + 1)) 1 t_X6_due (mDrop t_X6_due 0) [some (mr 7 20)] [] (mU g 7 c) = _
  refine Eq.trans (e_X6_due_0) ?_
  try simp only [mU_same, mU_mU]
  refine mw_oI ?_ (rr_X6_of d) (fun v1 => ?_)
  · rfl
  refine Eq.trans (e_X6_due_5) ?_
  try simp only [mU_same, mU_mU]
  refine mw_oI ?_ (rr_X6_of d) (fun v2 => ?_)
  · rfl
  refine Eq.trans (e_X6_due_10) ?_
  try simp only [mU_same, mU_mU]
  refine mw_oI ?_ (rr_X6_of d) (fun v3 => ?_)
  · rfl
  refine Eq.trans (e_X6_due_16) ?_
  try simp only [mU_same, mU_mU]
  refine mw_oN ?_ (rr_X6_left d) (fun v4 => ?_)
  · rfl
  refine Eq.trans (e_X6_due_19) ?_
  try simp only [mU_same, mU_mU]
  all_goals rfl
theorem rr_X6_due_at (d : Nat) {X : mX} {g : mG} : mCall mD X (d + 2) 188 [mr 7 20] g = wO (wN g) (P_X6_due (g 7)) := by
  have h := rr_X6_due (X := X) d (g := g) (c := g 7)
  rw [mU_self] at h
  exact h.trans (wOI_self _ _ _)
theorem e_X6_clockGoes_0 {X : mX} {call : Nat → List mV → mG → mR} {g : mG} : mEv X call 0 t_X6_clockGoes (mDrop t_X6_clockGoes 0) [some (mr 7 20), none, none] [] g = mAns (mEv X call 0 t_X6_clockGoes) (mDrop t_X6_clockGoes 5) [some (mr 7 20), none, none] [] (call 158 [mr 7 20, mi 2] g) := (mEv_3 _ _ _ _).trans rfl
theorem e_X6_clockGoes_5 {X : mX} {call : Nat → List mV → mG → mR} {g : mG} {s0 : Int32} : mEv X call 0 t_X6_clockGoes (mDrop t_X6_clockGoes 5) [some (mr 7 20), none, none] [mi s0] g = if s0 = 0 then mEv X call 0 t_X6_clockGoes (mDrop t_X6_clockGoes 10) [some (mr 7 20), some (mi s0), none] [] g else mEv X call 0 t_X6_clockGoes (mDrop t_X6_clockGoes 11) [some (mr 7 20), some (mi s0), none] [] g := (mEv_3 _ _ _ _).trans rfl
theorem e_X6_clockGoes_10 {X : mX} {call : Nat → List mV → mG → mR} {g : mG} {x1 : Int32} : mEv X call 0 t_X6_clockGoes (mDrop t_X6_clockGoes 10) [some (mr 7 20), some (mi x1), none] [] g = some (none, g) := (mEv_1 _ _ _ _).trans rfl
theorem e_X6_clockGoes_11 {X : mX} {call : Nat → List mV → mG → mR} {g : mG} {x1 : Int32} : mEv X call 0 t_X6_clockGoes (mDrop t_X6_clockGoes 11) [some (mr 7 20), some (mi x1), none] [] g = mAns (mEv X call 0 t_X6_clockGoes) (mDrop t_X6_clockGoes 18) [some (mr 7 20), some (mi x1), none] [mi 4, mr 7 20] (call 158 [mr 7 20, mi 4] g) := (mEv_5 _ _ _ _).trans rfl
theorem e_X6_clockGoes_18 {X : mX} {call : Nat → List mV → mG → mR} {g : mG} {x1 s1 s2 : Int32} : mEv X call 0 t_X6_clockGoes (mDrop t_X6_clockGoes 18) [some (mr 7 20), some (mi x1), none] [mi s2, mi s1, mr 7 20] g = if (x1 : Int32) = 0 then none else mEv X call 0 t_X6_clockGoes (mDrop t_X6_clockGoes 22) [some (mr 7 20), some (mi x1), none] [mi ((s2 + 1) - (s2 + 1) / x1 * x1), mi s1, mr 7 20] g := (mEv_4 _ _ _ _).trans rfl
theorem e_X6_clockGoes_22 {X : mX} {call : Nat → List mV → mG → mR} {g : mG} {x1 s1 s2 : Int32} : mEv X call 0 t_X6_clockGoes (mDrop t_X6_clockGoes 22) [some (mr 7 20), some (mi x1), none] [mi s2, mi s1, mr 7 20] g = mAns (mEv X call 0 t_X6_clockGoes) (mDrop t_X6_clockGoes 25) [some (mr 7 20), some (mi x1), none] [] (call 159 [mr 7 20, mi s1, mi s2] g) := (mEv_1 _ _ _ _).trans rfl
theorem e_X6_clockGoes_25 {X : mX} {call : Nat → List mV → mG → mR} {g : mG} {x1 : Int32} : mEv X call 0 t_X6_clockGoes (mDrop t_X6_clockGoes 25) [some (mr 7 20), some (mi x1), none] [] g = mAns (mEv X call 0 t_X6_clockGoes) (mDrop t_X6_clockGoes 29) [some (mr 7 20), some (mi x1), none] [] (call 188 [mr 7 20] g) := (mEv_2 _ _ _ _).trans rfl
theorem e_X6_clockGoes_29 {X : mX} {call : Nat → List mV → mG → mR} {g : mG} {x1 s0 : Int32} : mEv X call 0 t_X6_clockGoes (mDrop t_X6_clockGoes 29) [some (mr 7 20), some (mi x1), none] [mi s0] g = mAns (mEv X call 0 t_X6_clockGoes) (mDrop t_X6_clockGoes 34) [some (mr 7 20), some (mi x1), none] [mi s0] (call 158 [mr 7 20, mi 4] g) := (mEv_3 _ _ _ _).trans rfl
theorem e_X6_clockGoes_34 {X : mX} {call : Nat → List mV → mG → mR} {g : mG} {x1 s0 s1 : Int32} : mEv X call 0 t_X6_clockGoes (mDrop t_X6_clockGoes 34) [some (mr 7 20), some (mi x1), none] [mi s1, mi s0] g = mAns (mEv X call 0 t_X6_clockGoes) (mDrop t_X6_clockGoes 39) [some (mr 7 20), some (mi x1), none] [] (call 157 [mi (s0 - s1), mi x1] g) := (mEv_3 _ _ _ _).trans rfl
theorem e_X6_clockGoes_39 {X : mX} {call : Nat → List mV → mG → mR} {g : mG} {x1 s0 : Int32} : mEv X call 0 t_X6_clockGoes (mDrop t_X6_clockGoes 39) [some (mr 7 20), some (mi x1), none] [mi s0] g = if s0 = 0 then mEv X call 0 t_X6_clockGoes (mDrop t_X6_clockGoes 54) [some (mr 7 20), some (mi x1), some (mi s0)] [] g else mEv X call 0 t_X6_clockGoes (mDrop t_X6_clockGoes 44) [some (mr 7 20), some (mi x1), some (mi s0)] [] g := (mEv_3 _ _ _ _).trans rfl
theorem e_X6_clockGoes_54 {X : mX} {call : Nat → List mV → mG → mR} {g : mG} {x1 x2 : Int32} : mEv X call 0 t_X6_clockGoes (mDrop t_X6_clockGoes 54) [some (mr 7 20), some (mi x1), some (mi x2)] [] g = some (none, g) := (mEv_1 _ _ _ _).trans rfl
theorem e_X6_clockGoes_44 {X : mX} {call : Nat → List mV → mG → mR} {g : mG} {x1 x2 : Int32} : mEv X call 0 t_X6_clockGoes (mDrop t_X6_clockGoes 44) [some (mr 7 20), some (mi x1), some (mi x2)] [] g = mAns (mEv X call 0 t_X6_clockGoes) (mDrop t_X6_clockGoes 49) [some (mr 7 20), some (mi x1), some (mi x2)] [] (call 158 [mr 7 20, mi 1] g) := (mEv_3 _ _ _ _).trans rfl
theorem e_X6_clockGoes_49 {X : mX} {call : Nat → List mV → mG → mR} {g : mG} {x1 x2 s0 : Int32} : mEv X call 0 t_X6_clockGoes (mDrop t_X6_clockGoes 49) [some (mr 7 20), some (mi x1), some (mi x2)] [mi s0] g = if (4 : Int32) = 0 then none else mEv X call 0 t_X6_clockGoes (mDrop t_X6_clockGoes 51) [some (mr 7 20), some (mi x1), some (mi x2)] [mi (s0 - s0 / 4 * 4)] g := (mEv_2 _ _ _ _).trans rfl
theorem e_X6_clockGoes_51 {X : mX} {call : Nat → List mV → mG → mR} {g : mG} {x1 x2 s0 : Int32} : mEv X call 0 t_X6_clockGoes (mDrop t_X6_clockGoes 51) [some (mr 7 20), some (mi x1), some (mi x2)] [mi s0] g = if s0 = 0 then mEv X call 0 t_X6_clockGoes (mDrop t_X6_clockGoes 55) [some (mr 7 20), some (mi x1), some (mi x2)] [] g else mEv X call 0 t_X6_clockGoes (mDrop t_X6_clockGoes 54) [some (mr 7 20), some (mi x1), some (mi x2)] [] g := (mEv_1 _ _ _ _).trans rfl
theorem e_X6_clockGoes_55 {X : mX} {call : Nat → List mV → mG → mR} {g : mG} {x1 x2 : Int32} : mEv X call 0 t_X6_clockGoes (mDrop t_X6_clockGoes 55) [some (mr 7 20), some (mi x1), some (mi x2)] [] g = mAns (mEv X call 0 t_X6_clockGoes) (mDrop t_X6_clockGoes 62) [some (mr 7 20), some (mi x1), some (mi x2)] [mi 4, mr 7 20] (call 158 [mr 7 20, mi 4] g) := (mEv_5 _ _ _ _).trans rfl
theorem e_X6_clockGoes_62 {X : mX} {call : Nat → List mV → mG → mR} {g : mG} {x1 x2 s1 s2 : Int32} : mEv X call 0 t_X6_clockGoes (mDrop t_X6_clockGoes 62) [some (mr 7 20), some (mi x1), some (mi x2)] [mi s2, mi s1, mr 7 20] g = if (2 : Int32) = 0 then none else mEv X call 0 t_X6_clockGoes (mDrop t_X6_clockGoes 66) [some (mr 7 20), some (mi x1), some (mi x2)] [mi (x1 / 2), mi x2, mi s2, mi s1, mr 7 20] g := (mEv_4 _ _ _ _).trans rfl
theorem e_X6_clockGoes_66 {X : mX} {call : Nat → List mV → mG → mR} {g : mG} {x1 x2 s1 s2 s3 s4 : Int32} : mEv X call 0 t_X6_clockGoes (mDrop t_X6_clockGoes 66) [some (mr 7 20), some (mi x1), some (mi x2)] [mi s4, mi s3, mi s2, mi s1, mr 7 20] g = if s4 < s3 then mEv X call 0 t_X6_clockGoes (mDrop t_X6_clockGoes 73) [some (mr 7 20), some (mi x1), some (mi x2)] [mi s2, mi s1, mr 7 20] g else mEv X call 0 t_X6_clockGoes (mDrop t_X6_clockGoes 69) [some (mr 7 20), some (mi x1), some (mi x2)] [mi s2, mi s1, mr 7 20] g := (mEv_1 _ _ _ _).trans rfl
theorem e_X6_clockGoes_73 {X : mX} {call : Nat → List mV → mG → mR} {g : mG} {x1 x2 s1 s2 : Int32} : mEv X call 0 t_X6_clockGoes (mDrop t_X6_clockGoes 73) [some (mr 7 20), some (mi x1), some (mi x2)] [mi s2, mi s1, mr 7 20] g = mEv X call 0 t_X6_clockGoes (mDrop t_X6_clockGoes 74) [some (mr 7 20), some (mi x1), some (mi x2)] [mi (-1), mi s2, mi s1, mr 7 20] g := (mEv_1 _ _ _ _).trans rfl
theorem e_X6_clockGoes_74 {X : mX} {call : Nat → List mV → mG → mR} {g : mG} {x1 x2 s1 s2 s3 : Int32} : mEv X call 0 t_X6_clockGoes (mDrop t_X6_clockGoes 74) [some (mr 7 20), some (mi x1), some (mi x2)] [mi s3, mi s2, mi s1, mr 7 20] g = mAns (mEv X call 0 t_X6_clockGoes) (mDrop t_X6_clockGoes 79) [some (mr 7 20), some (mi x1), some (mi x2)] [mi s1, mr 7 20] (call 157 [mi (s2 + s3), mi x1] g) := (mEv_3 _ _ _ _).trans rfl
theorem e_X6_clockGoes_79 {X : mX} {call : Nat → List mV → mG → mR} {g : mG} {x1 x2 s1 s2 : Int32} : mEv X call 0 t_X6_clockGoes (mDrop t_X6_clockGoes 79) [some (mr 7 20), some (mi x1), some (mi x2)] [mi s2, mi s1, mr 7 20] g = mAns (mEv X call 0 t_X6_clockGoes) (mDrop t_X6_clockGoes 82) [some (mr 7 20), some (mi x1), some (mi x2)] [] (call 159 [mr 7 20, mi s1, mi s2] g) := (mEv_1 _ _ _ _).trans rfl
theorem e_X6_clockGoes_82 {X : mX} {call : Nat → List mV → mG → mR} {g : mG} {x1 x2 : Int32} : mEv X call 0 t_X6_clockGoes (mDrop t_X6_clockGoes 82) [some (mr 7 20), some (mi x1), some (mi x2)] [] g = some (none, g) := (mEv_1 _ _ _ _).trans rfl
noncomputable def J_X6_clockGoes_74 (c : mC) (x1 : Int32) (s1 : Int32) (s2 : Int32) (s3 : Int32) : (Option (mC)) := (mBo (α := Int32) none (P_X6_left (s2 + s3) x1) (fun v1 => (mBo (α := mC) none (P_X6_puts c s1 v1) (fun c2 => (some c2)))))
theorem rj_X6_clockGoes_74 (d : Nat) {X : mX} {g : mG} {x1 x2 s1 s2 s3 : Int32} {c : mC} : mEv X (mCall mD X (d + 2)) 0 t_X6_clockGoes (mDrop t_X6_clockGoes 74) [some (mr 7 20), some (mi x1), some (mi x2)] [mi s3, mi s2, mi s1, mr 7 20] (mU g 7 c) = (wO (wV g 7)) (J_X6_clockGoes_74 c x1 s1 s2 s3) := by
  refine Eq.trans (e_X6_clockGoes_74) ?_
  try simp only [mU_same, mU_mU]
  refine mw_oN ?_ (rr_X6_left (d + 1)) (fun v1 => ?_)
  · rfl
  refine Eq.trans (e_X6_clockGoes_79) ?_
  try simp only [mU_same, mU_mU]
  refine mw_oV ?_ (rr_X6_puts (d + 1)) (fun c2 => ?_)
  · rfl
  refine Eq.trans (e_X6_clockGoes_82) ?_
  try simp only [mU_same, mU_mU]
  all_goals rfl
theorem e_X6_clockGoes_69 {X : mX} {call : Nat → List mV → mG → mR} {g : mG} {x1 x2 s1 s2 : Int32} : mEv X call 0 t_X6_clockGoes (mDrop t_X6_clockGoes 69) [some (mr 7 20), some (mi x1), some (mi x2)] [mi s2, mi s1, mr 7 20] g = mEv X call 0 t_X6_clockGoes (mDrop t_X6_clockGoes 74) [some (mr 7 20), some (mi x1), some (mi x2)] [mi 1, mi s2, mi s1, mr 7 20] g := (mEv_2 _ _ _ _).trans rfl
noncomputable def P_X6_clockGoes (c : mC) : (Option (mC)) := (mBo (α := Int32) none (P_X6_of c 2) (fun v1 => (if v1 = 0 then (some c) else (mBo (α := Int32) none (P_X6_of c 4) (fun v2 => (if (v1 : Int32) = 0 then none else (mBo (α := mC) none (P_X6_puts c 4 ((v2 + 1) - (v2 + 1) / v1 * v1)) (fun c3 => (mBo (α := Int32) none (P_X6_due c3) (fun v4 => (mBo (α := Int32) none (P_X6_of c3 4) (fun v5 => (mBo (α := Int32) none (P_X6_left (v4 - v5) v1) (fun v6 => (if v6 = 0 then (some c3) else (mBo (α := Int32) none (P_X6_of c3 1) (fun v7 => (if (v7 - v7 / 4 * 4) = 0 then (mBo (α := Int32) none (P_X6_of c3 4) (fun v8 => (if (v1 / 2) < v6 then (J_X6_clockGoes_74 c3 v1 4 v8 (-1)) else (J_X6_clockGoes_74 c3 v1 4 v8 1)))) else (some c3)))))))))))))))))))
theorem rr_X6_clockGoes (d : Nat) {X : mX} {g : mG} {c : mC} : mCall mD X (d + 3) 189 [mr 7 20] (mU g 7 c) = (wO (wV g 7)) (P_X6_clockGoes c) := by
  refine Eq.trans (mCall_eq (d := d + 2) rfl) ?_
  show mEv X (mCall mD X (d + 2)) 0 t_X6_clockGoes (mDrop t_X6_clockGoes 0) [some (mr 7 20), none, none] [] (mU g 7 c) = _
  refine Eq.trans (e_X6_clockGoes_0) ?_
  try simp only [mU_same, mU_mU]
  refine mw_oI ?_ (rr_X6_of (d + 1)) (fun v1 => ?_)
  · rfl
  refine Eq.trans (e_X6_clockGoes_5) ?_
  try simp only [mU_same, mU_mU]
  refine mw_ite (fun h12 => ?_) (fun h12 => ?_)
  · refine Eq.trans (e_X6_clockGoes_10) ?_
    try simp only [mU_same, mU_mU]
    all_goals rfl
  · refine Eq.trans (e_X6_clockGoes_11) ?_
    try simp only [mU_same, mU_mU]
    refine mw_oI ?_ (rr_X6_of (d + 1)) (fun v2 => ?_)
    · rfl
    refine Eq.trans (e_X6_clockGoes_18) ?_
    try simp only [mU_same, mU_mU]
    refine mw_ite (fun _ => rfl) (fun _ => ?_)
    refine Eq.trans (e_X6_clockGoes_22) ?_
    try simp only [mU_same, mU_mU]
    refine mw_oV ?_ (rr_X6_puts (d + 1)) (fun c3 => ?_)
    · rfl
    refine Eq.trans (e_X6_clockGoes_25) ?_
    try simp only [mU_same, mU_mU]
    refine mw_oI ?_ (rr_X6_due d) (fun v4 => ?_)
    · rfl
    refine Eq.trans (e_X6_clockGoes_29) ?_
    try simp only [mU_same, mU_mU]
    refine mw_oI ?_ (rr_X6_of (d + 1)) (fun v5 => ?_)
    · rfl
    refine Eq.trans (e_X6_clockGoes_34) ?_
    try simp only [mU_same, mU_mU]
    refine mw_oN ?_ (rr_X6_left (d + 1)) (fun v6 => ?_)
    · rfl
    refine Eq.trans (e_X6_clockGoes_39) ?_
    try simp only [mU_same, mU_mU]
    refine mw_ite (fun h11 => ?_) (fun h11 => ?_)
    · refine Eq.trans (e_X6_clockGoes_54) ?_
      try simp only [mU_same, mU_mU]
      all_goals rfl
    · refine Eq.trans (e_X6_clockGoes_44) ?_
      try simp only [mU_same, mU_mU]
      refine mw_oI ?_ (rr_X6_of (d + 1)) (fun v7 => ?_)
      · rfl
      refine Eq.trans (e_X6_clockGoes_49) ?_
      try simp only [mU_same, mU_mU]
      refine Eq.trans (if_neg (by decide)) ?_
      refine Eq.trans (e_X6_clockGoes_51) ?_
      try simp only [mU_same, mU_mU]
      refine mw_ite (fun h10 => ?_) (fun h10 => ?_)
      · refine Eq.trans (e_X6_clockGoes_55) ?_
        try simp only [mU_same, mU_mU]
        refine mw_oI ?_ (rr_X6_of (d + 1)) (fun v8 => ?_)
        · rfl
        refine Eq.trans (e_X6_clockGoes_62) ?_
        try simp only [mU_same, mU_mU]
        refine Eq.trans (if_neg (by decide)) ?_
        refine Eq.trans (e_X6_clockGoes_66) ?_
        try simp only [mU_same, mU_mU]
        refine mw_ite (fun h9 => ?_) (fun h9 => ?_)
        · refine Eq.trans (e_X6_clockGoes_73) ?_
          try simp only [mU_same, mU_mU]
          exact rj_X6_clockGoes_74 d
        · refine Eq.trans (e_X6_clockGoes_69) ?_
          try simp only [mU_same, mU_mU]
          exact rj_X6_clockGoes_74 d
      · refine Eq.trans (e_X6_clockGoes_54) ?_
        try simp only [mU_same, mU_mU]
        all_goals rfl
theorem rr_X6_clockGoes_at (d : Nat) {X : mX} {g : mG} : mCall mD X (d + 3) 189 [mr 7 20] g = wO (wV g 7) (P_X6_clockGoes (g 7)) := by
  have h := rr_X6_clockGoes (X := X) d (g := g) (c := g 7)
  rw [mU_self] at h
  exact h
theorem e_X6_greenGoes_0 {X : mX} {call : Nat → List mV → mG → mR} {g : mG} {x1 : Int32} : mEv X call 0 t_X6_greenGoes (mDrop t_X6_greenGoes 0) [some (mr 7 20), some (mi x1), none, none] [] g = mAns (mEv X call 0 t_X6_greenGoes) (mDrop t_X6_greenGoes 6) [some (mr 7 20), some (mi x1), none, none] [] (call 163 [mr 7 20, mi x1, mi 0] g) := (mEv_4 _ _ _ _).trans rfl
theorem e_X6_greenGoes_6 {X : mX} {call : Nat → List mV → mG → mR} {g : mG} {x1 s0 : Int32} : mEv X call 0 t_X6_greenGoes (mDrop t_X6_greenGoes 6) [some (mr 7 20), some (mi x1), none, none] [mi s0] g = mAns (mEv X call 0 t_X6_greenGoes) (mDrop t_X6_greenGoes 14) [some (mr 7 20), some (mi x1), some (mi s0), none] [] (call 165 [mr 7 20, mi s0, mi 12] g) := (mEv_5 _ _ _ _).trans rfl
theorem e_X6_greenGoes_14 {X : mX} {call : Nat → List mV → mG → mR} {g : mG} {x1 x2 s0 : Int32} : mEv X call 0 t_X6_greenGoes (mDrop t_X6_greenGoes 14) [some (mr 7 20), some (mi x1), some (mi x2), none] [mi s0] g = if 0 < s0 then mEv X call 0 t_X6_greenGoes (mDrop t_X6_greenGoes 33) [some (mr 7 20), some (mi x1), some (mi x2), some (mi s0)] [mi 4, mi x1, mr 7 20] g else mEv X call 0 t_X6_greenGoes (mDrop t_X6_greenGoes 22) [some (mr 7 20), some (mi x1), some (mi x2), some (mi s0)] [mi 4, mi x1, mr 7 20] g := (mEv_6 _ _ _ _).trans rfl
theorem e_X6_greenGoes_33 {X : mX} {call : Nat → List mV → mG → mR} {g : mG} {x1 x2 x3 s1 s2 : Int32} : mEv X call 0 t_X6_greenGoes (mDrop t_X6_greenGoes 33) [some (mr 7 20), some (mi x1), some (mi x2), some (mi x3)] [mi s2, mi s1, mr 7 20] g = mEv X call 0 t_X6_greenGoes (mDrop t_X6_greenGoes 45) [some (mr 7 20), some (mi x1), some (mi x2), some (mi x3)] [mi 0, mi s2, mi s1, mr 7 20] g := (mEv_2 _ _ _ _).trans rfl
theorem e_X6_greenGoes_45 {X : mX} {call : Nat → List mV → mG → mR} {g : mG} {x1 x2 x3 s1 s2 s3 : Int32} : mEv X call 0 t_X6_greenGoes (mDrop t_X6_greenGoes 45) [some (mr 7 20), some (mi x1), some (mi x2), some (mi x3)] [mi s3, mi s2, mi s1, mr 7 20] g = mAns (mEv X call 0 t_X6_greenGoes) (mDrop t_X6_greenGoes 48) [some (mr 7 20), some (mi x1), some (mi x2), some (mi x3)] [] (call 164 [mr 7 20, mi s1, mi s2, mi s3] g) := (mEv_1 _ _ _ _).trans rfl
theorem e_X6_greenGoes_48 {X : mX} {call : Nat → List mV → mG → mR} {g : mG} {x1 x2 x3 : Int32} : mEv X call 0 t_X6_greenGoes (mDrop t_X6_greenGoes 48) [some (mr 7 20), some (mi x1), some (mi x2), some (mi x3)] [] g = if x3 ≤ 0 then mEv X call 0 t_X6_greenGoes (mDrop t_X6_greenGoes 88) [some (mr 7 20), some (mi x1), some (mi x2), some (mi x3)] [] g else mEv X call 0 t_X6_greenGoes (mDrop t_X6_greenGoes 52) [some (mr 7 20), some (mi x1), some (mi x2), some (mi x3)] [] g := (mEv_2 _ _ _ _).trans rfl
theorem e_X6_greenGoes_88 {X : mX} {call : Nat → List mV → mG → mR} {g : mG} {x1 x2 x3 : Int32} : mEv X call 0 t_X6_greenGoes (mDrop t_X6_greenGoes 88) [some (mr 7 20), some (mi x1), some (mi x2), some (mi x3)] [] g = mAns (mEv X call 0 t_X6_greenGoes) (mDrop t_X6_greenGoes 93) [some (mr 7 20), some (mi x1), some (mi x2), some (mi x3)] [] (call 179 [mr 7 20, mi x2] g) := (mEv_3 _ _ _ _).trans rfl
theorem e_X6_greenGoes_93 {X : mX} {call : Nat → List mV → mG → mR} {g : mG} {x1 x2 x3 s0 : Int32} : mEv X call 0 t_X6_greenGoes (mDrop t_X6_greenGoes 93) [some (mr 7 20), some (mi x1), some (mi x2), some (mi x3)] [mi s0] g = if s0 = 0 then mEv X call 0 t_X6_greenGoes (mDrop t_X6_greenGoes 110) [some (mr 7 20), some (mi x1), some (mi x2), some (mi x3)] [] g else mEv X call 0 t_X6_greenGoes (mDrop t_X6_greenGoes 96) [some (mr 7 20), some (mi x1), some (mi x2), some (mi x3)] [] g := (mEv_1 _ _ _ _).trans rfl
theorem e_X6_greenGoes_110 {X : mX} {call : Nat → List mV → mG → mR} {g : mG} {x1 x2 x3 : Int32} : mEv X call 0 t_X6_greenGoes (mDrop t_X6_greenGoes 110) [some (mr 7 20), some (mi x1), some (mi x2), some (mi x3)] [] g = mAns (mEv X call 0 t_X6_greenGoes) (mDrop t_X6_greenGoes 117) [some (mr 7 20), some (mi x1), some (mi x2), some (mi x3)] [] (call 163 [mr 7 20, mi x1, mi 6] g) := (mEv_4 _ _ _ _).trans rfl
theorem e_X6_greenGoes_117 {X : mX} {call : Nat → List mV → mG → mR} {g : mG} {x1 x2 x3 s0 : Int32} : mEv X call 0 t_X6_greenGoes (mDrop t_X6_greenGoes 117) [some (mr 7 20), some (mi x1), some (mi x2), some (mi x3)] [mi s0] g = if s0 = 2 then mEv X call 0 t_X6_greenGoes (mDrop t_X6_greenGoes 121) [some (mr 7 20), some (mi x1), some (mi x2), some (mi x3)] [] g else mEv X call 0 t_X6_greenGoes (mDrop t_X6_greenGoes 137) [some (mr 7 20), some (mi x1), some (mi x2), some (mi x3)] [] g := (mEv_2 _ _ _ _).trans rfl
theorem e_X6_greenGoes_121 {X : mX} {call : Nat → List mV → mG → mR} {g : mG} {x1 x2 x3 : Int32} : mEv X call 0 t_X6_greenGoes (mDrop t_X6_greenGoes 121) [some (mr 7 20), some (mi x1), some (mi x2), some (mi x3)] [] g = mAns (mEv X call 0 t_X6_greenGoes) (mDrop t_X6_greenGoes 132) [some (mr 7 20), some (mi x1), some (mi x2), some (mi x3)] [mi 7, mi x1, mr 7 20] (call 163 [mr 7 20, mi x1, mi 7] g) := (mEv_7 _ _ _ _).trans rfl
theorem e_X6_greenGoes_132 {X : mX} {call : Nat → List mV → mG → mR} {g : mG} {x1 x2 x3 s1 s2 s3 : Int32} : mEv X call 0 t_X6_greenGoes (mDrop t_X6_greenGoes 132) [some (mr 7 20), some (mi x1), some (mi x2), some (mi x3)] [mi s3, mi s2, mi s1, mr 7 20] g = mAns (mEv X call 0 t_X6_greenGoes) (mDrop t_X6_greenGoes 137) [some (mr 7 20), some (mi x1), some (mi x2), some (mi x3)] [] (call 164 [mr 7 20, mi s1, mi s2, mi (s3 + 1)] g) := (mEv_3 _ _ _ _).trans rfl
theorem e_X6_greenGoes_137 {X : mX} {call : Nat → List mV → mG → mR} {g : mG} {x1 x2 x3 : Int32} : mEv X call 0 t_X6_greenGoes (mDrop t_X6_greenGoes 137) [some (mr 7 20), some (mi x1), some (mi x2), some (mi x3)] [] g = mAns (mEv X call 0 t_X6_greenGoes) (mDrop t_X6_greenGoes 144) [some (mr 7 20), some (mi x1), some (mi x2), some (mi x3)] [] (call 163 [mr 7 20, mi x1, mi 6] g) := (mEv_4 _ _ _ _).trans rfl
theorem e_X6_greenGoes_144 {X : mX} {call : Nat → List mV → mG → mR} {g : mG} {x1 x2 x3 s0 : Int32} : mEv X call 0 t_X6_greenGoes (mDrop t_X6_greenGoes 144) [some (mr 7 20), some (mi x1), some (mi x2), some (mi x3)] [mi s0] g = if s0 = 1 then mEv X call 0 t_X6_greenGoes (mDrop t_X6_greenGoes 148) [some (mr 7 20), some (mi x1), some (mi x2), some (mi x3)] [] g else mEv X call 0 t_X6_greenGoes (mDrop t_X6_greenGoes 171) [some (mr 7 20), some (mi x1), some (mi x2), some (mi x3)] [] g := (mEv_2 _ _ _ _).trans rfl
theorem e_X6_greenGoes_148 {X : mX} {call : Nat → List mV → mG → mR} {g : mG} {x1 x2 x3 : Int32} : mEv X call 0 t_X6_greenGoes (mDrop t_X6_greenGoes 148) [some (mr 7 20), some (mi x1), some (mi x2), some (mi x3)] [] g = mAns (mEv X call 0 t_X6_greenGoes) (mDrop t_X6_greenGoes 154) [some (mr 7 20), some (mi x1), some (mi x2), some (mi x3)] [] (call 163 [mr 7 20, mi x1, mi 2] g) := (mEv_4 _ _ _ _).trans rfl
theorem e_X6_greenGoes_154 {X : mX} {call : Nat → List mV → mG → mR} {g : mG} {x1 x2 x3 s0 : Int32} : mEv X call 0 t_X6_greenGoes (mDrop t_X6_greenGoes 154) [some (mr 7 20), some (mi x1), some (mi x2), some (mi x3)] [mi s0] g = mAns (mEv X call 0 t_X6_greenGoes) (mDrop t_X6_greenGoes 160) [some (mr 7 20), some (mi x1), some (mi x2), some (mi x3)] [mi s0] (call 167 [mr 7 20, mi x2, mi 5] g) := (mEv_4 _ _ _ _).trans rfl
theorem e_X6_greenGoes_160 {X : mX} {call : Nat → List mV → mG → mR} {g : mG} {x1 x2 x3 s0 s1 : Int32} : mEv X call 0 t_X6_greenGoes (mDrop t_X6_greenGoes 160) [some (mr 7 20), some (mi x1), some (mi x2), some (mi x3)] [mi s1, mi s0] g = if s0 < s1 then mEv X call 0 t_X6_greenGoes (mDrop t_X6_greenGoes 171) [some (mr 7 20), some (mi x1), some (mi x2), some (mi x3)] [] g else mEv X call 0 t_X6_greenGoes (mDrop t_X6_greenGoes 163) [some (mr 7 20), some (mi x1), some (mi x2), some (mi x3)] [] g := (mEv_1 _ _ _ _).trans rfl
theorem e_X6_greenGoes_171 {X : mX} {call : Nat → List mV → mG → mR} {g : mG} {x1 x2 x3 : Int32} : mEv X call 0 t_X6_greenGoes (mDrop t_X6_greenGoes 171) [some (mr 7 20), some (mi x1), some (mi x2), some (mi x3)] [] g = mAns (mEv X call 0 t_X6_greenGoes) (mDrop t_X6_greenGoes 178) [some (mr 7 20), some (mi x1), some (mi x2), some (mi x3)] [] (call 163 [mr 7 20, mi x1, mi 6] g) := (mEv_4 _ _ _ _).trans rfl
theorem e_X6_greenGoes_178 {X : mX} {call : Nat → List mV → mG → mR} {g : mG} {x1 x2 x3 s0 : Int32} : mEv X call 0 t_X6_greenGoes (mDrop t_X6_greenGoes 178) [some (mr 7 20), some (mi x1), some (mi x2), some (mi x3)] [mi s0] g = if s0 = 2 then mEv X call 0 t_X6_greenGoes (mDrop t_X6_greenGoes 182) [some (mr 7 20), some (mi x1), some (mi x2), some (mi x3)] [] g else mEv X call 0 t_X6_greenGoes (mDrop t_X6_greenGoes 207) [some (mr 7 20), some (mi x1), some (mi x2), some (mi x3)] [] g := (mEv_2 _ _ _ _).trans rfl
theorem e_X6_greenGoes_182 {X : mX} {call : Nat → List mV → mG → mR} {g : mG} {x1 x2 x3 : Int32} : mEv X call 0 t_X6_greenGoes (mDrop t_X6_greenGoes 182) [some (mr 7 20), some (mi x1), some (mi x2), some (mi x3)] [] g = mAns (mEv X call 0 t_X6_greenGoes) (mDrop t_X6_greenGoes 189) [some (mr 7 20), some (mi x1), some (mi x2), some (mi x3)] [] (call 163 [mr 7 20, mi x1, mi 7] g) := (mEv_4 _ _ _ _).trans rfl
theorem e_X6_greenGoes_189 {X : mX} {call : Nat → List mV → mG → mR} {g : mG} {x1 x2 x3 s0 : Int32} : mEv X call 0 t_X6_greenGoes (mDrop t_X6_greenGoes 189) [some (mr 7 20), some (mi x1), some (mi x2), some (mi x3)] [mi s0] g = mAns (mEv X call 0 t_X6_greenGoes) (mDrop t_X6_greenGoes 196) [some (mr 7 20), some (mi x1), some (mi x2), some (mi x3)] [mi s0] (call 167 [mr 7 20, mi x2, mi 6] g) := (mEv_4 _ _ _ _).trans rfl
theorem e_X6_greenGoes_196 {X : mX} {call : Nat → List mV → mG → mR} {g : mG} {x1 x2 x3 s0 s1 : Int32} : mEv X call 0 t_X6_greenGoes (mDrop t_X6_greenGoes 196) [some (mr 7 20), some (mi x1), some (mi x2), some (mi x3)] [mi s1, mi s0] g = if s0 < s1 then mEv X call 0 t_X6_greenGoes (mDrop t_X6_greenGoes 207) [some (mr 7 20), some (mi x1), some (mi x2), some (mi x3)] [] g else mEv X call 0 t_X6_greenGoes (mDrop t_X6_greenGoes 199) [some (mr 7 20), some (mi x1), some (mi x2), some (mi x3)] [] g := (mEv_1 _ _ _ _).trans rfl
theorem e_X6_greenGoes_207 {X : mX} {call : Nat → List mV → mG → mR} {g : mG} {x1 x2 x3 : Int32} : mEv X call 0 t_X6_greenGoes (mDrop t_X6_greenGoes 207) [some (mr 7 20), some (mi x1), some (mi x2), some (mi x3)] [] g = some (none, g) := (mEv_1 _ _ _ _).trans rfl
theorem e_X6_greenGoes_199 {X : mX} {call : Nat → List mV → mG → mR} {g : mG} {x1 x2 x3 : Int32} : mEv X call 0 t_X6_greenGoes (mDrop t_X6_greenGoes 199) [some (mr 7 20), some (mi x1), some (mi x2), some (mi x3)] [] g = mAns (mEv X call 0 t_X6_greenGoes) (mDrop t_X6_greenGoes 207) [some (mr 7 20), some (mi x1), some (mi x2), some (mi x3)] [] (call 164 [mr 7 20, mi x1, mi 6, mi 0] g) := (mEv_5 _ _ _ _).trans rfl
noncomputable def J_X6_greenGoes_171 (c : mC) (x1 : Int32) (x2 : Int32) : (Option (mC)) := (mBo (α := Int32) none (P_X6_ofRing c x1 6) (fun v1 => (if v1 = 2 then (mBo (α := Int32) none (P_X6_ofRing c x1 7) (fun v2 => (mBo (α := Int32) none (P_X6_mark c x2 6) (fun v3 => (if v2 < v3 then (some c) else (mBo (α := mC) none (P_X6_putsRing c x1 6 0) (fun c4 => (some c4)))))))) else (some c))))
theorem rj_X6_greenGoes_171 (d : Nat) {X : mX} {g : mG} {x1 x2 x3 : Int32} {c : mC} : mEv X (mCall mD X (d + 6)) 0 t_X6_greenGoes (mDrop t_X6_greenGoes 171) [some (mr 7 20), some (mi x1), some (mi x2), some (mi x3)] [] (mU g 7 c) = (wO (wV g 7)) (J_X6_greenGoes_171 c x1 x2) := by
  refine Eq.trans (e_X6_greenGoes_171) ?_
  try simp only [mU_same, mU_mU]
  refine mw_oI ?_ (rr_X6_ofRing (d + 4)) (fun v1 => ?_)
  · rfl
  refine Eq.trans (e_X6_greenGoes_178) ?_
  try simp only [mU_same, mU_mU]
  refine mw_ite (fun h6 => ?_) (fun h6 => ?_)
  · refine Eq.trans (e_X6_greenGoes_182) ?_
    try simp only [mU_same, mU_mU]
    refine mw_oI ?_ (rr_X6_ofRing (d + 4)) (fun v2 => ?_)
    · rfl
    refine Eq.trans (e_X6_greenGoes_189) ?_
    try simp only [mU_same, mU_mU]
    refine mw_oI ?_ (rr_X6_mark (d + 3)) (fun v3 => ?_)
    · rfl
    refine Eq.trans (e_X6_greenGoes_196) ?_
    try simp only [mU_same, mU_mU]
    refine mw_ite (fun h5 => ?_) (fun h5 => ?_)
    · refine Eq.trans (e_X6_greenGoes_207) ?_
      try simp only [mU_same, mU_mU]
      all_goals rfl
    · refine Eq.trans (e_X6_greenGoes_199) ?_
      try simp only [mU_same, mU_mU]
      refine mw_oV ?_ (rr_X6_putsRing (d + 4)) (fun c4 => ?_)
      · rfl
      refine Eq.trans (e_X6_greenGoes_207) ?_
      try simp only [mU_same, mU_mU]
      all_goals rfl
  · refine Eq.trans (e_X6_greenGoes_207) ?_
    try simp only [mU_same, mU_mU]
    all_goals rfl
theorem e_X6_greenGoes_163 {X : mX} {call : Nat → List mV → mG → mR} {g : mG} {x1 x2 x3 : Int32} : mEv X call 0 t_X6_greenGoes (mDrop t_X6_greenGoes 163) [some (mr 7 20), some (mi x1), some (mi x2), some (mi x3)] [] g = mAns (mEv X call 0 t_X6_greenGoes) (mDrop t_X6_greenGoes 171) [some (mr 7 20), some (mi x1), some (mi x2), some (mi x3)] [] (call 164 [mr 7 20, mi x1, mi 6, mi 2] g) := (mEv_5 _ _ _ _).trans rfl
noncomputable def J_X6_greenGoes_137 (c : mC) (x1 : Int32) (x2 : Int32) : (Option (mC)) := (mBo (α := Int32) none (P_X6_ofRing c x1 6) (fun v1 => (if v1 = 1 then (mBo (α := Int32) none (P_X6_ofRing c x1 2) (fun v2 => (mBo (α := Int32) none (P_X6_mark c x2 5) (fun v3 => (if v2 < v3 then (J_X6_greenGoes_171 c x1 x2) else (mBo (α := mC) none (P_X6_putsRing c x1 6 2) (fun c4 => (J_X6_greenGoes_171 c4 x1 x2)))))))) else (J_X6_greenGoes_171 c x1 x2))))
theorem rj_X6_greenGoes_137 (d : Nat) {X : mX} {g : mG} {x1 x2 x3 : Int32} {c : mC} : mEv X (mCall mD X (d + 6)) 0 t_X6_greenGoes (mDrop t_X6_greenGoes 137) [some (mr 7 20), some (mi x1), some (mi x2), some (mi x3)] [] (mU g 7 c) = (wO (wV g 7)) (J_X6_greenGoes_137 c x1 x2) := by
  refine Eq.trans (e_X6_greenGoes_137) ?_
  try simp only [mU_same, mU_mU]
  refine mw_oI ?_ (rr_X6_ofRing (d + 4)) (fun v1 => ?_)
  · rfl
  refine Eq.trans (e_X6_greenGoes_144) ?_
  try simp only [mU_same, mU_mU]
  refine mw_ite (fun h6 => ?_) (fun h6 => ?_)
  · refine Eq.trans (e_X6_greenGoes_148) ?_
    try simp only [mU_same, mU_mU]
    refine mw_oI ?_ (rr_X6_ofRing (d + 4)) (fun v2 => ?_)
    · rfl
    refine Eq.trans (e_X6_greenGoes_154) ?_
    try simp only [mU_same, mU_mU]
    refine mw_oI ?_ (rr_X6_mark (d + 3)) (fun v3 => ?_)
    · rfl
    refine Eq.trans (e_X6_greenGoes_160) ?_
    try simp only [mU_same, mU_mU]
    refine mw_ite (fun h5 => ?_) (fun h5 => ?_)
    · exact rj_X6_greenGoes_171 d
    · refine Eq.trans (e_X6_greenGoes_163) ?_
      try simp only [mU_same, mU_mU]
      refine mw_oV ?_ (rr_X6_putsRing (d + 4)) (fun c4 => ?_)
      · rfl
      exact rj_X6_greenGoes_171 d
  · exact rj_X6_greenGoes_171 d
noncomputable def J_X6_greenGoes_110 (c : mC) (x1 : Int32) (x2 : Int32) : (Option (mC)) := (mBo (α := Int32) none (P_X6_ofRing c x1 6) (fun v1 => (if v1 = 2 then (mBo (α := Int32) none (P_X6_ofRing c x1 7) (fun v2 => (mBo (α := mC) none (P_X6_putsRing c x1 7 (v2 + 1)) (fun c3 => (J_X6_greenGoes_137 c3 x1 x2))))) else (J_X6_greenGoes_137 c x1 x2))))
theorem rj_X6_greenGoes_110 (d : Nat) {X : mX} {g : mG} {x1 x2 x3 : Int32} {c : mC} : mEv X (mCall mD X (d + 6)) 0 t_X6_greenGoes (mDrop t_X6_greenGoes 110) [some (mr 7 20), some (mi x1), some (mi x2), some (mi x3)] [] (mU g 7 c) = (wO (wV g 7)) (J_X6_greenGoes_110 c x1 x2) := by
  refine Eq.trans (e_X6_greenGoes_110) ?_
  try simp only [mU_same, mU_mU]
  refine mw_oI ?_ (rr_X6_ofRing (d + 4)) (fun v1 => ?_)
  · rfl
  refine Eq.trans (e_X6_greenGoes_117) ?_
  try simp only [mU_same, mU_mU]
  refine mw_ite (fun h4 => ?_) (fun h4 => ?_)
  · refine Eq.trans (e_X6_greenGoes_121) ?_
    try simp only [mU_same, mU_mU]
    refine mw_oI ?_ (rr_X6_ofRing (d + 4)) (fun v2 => ?_)
    · rfl
    refine Eq.trans (e_X6_greenGoes_132) ?_
    try simp only [mU_same, mU_mU]
    refine mw_oV ?_ (rr_X6_putsRing (d + 4)) (fun c3 => ?_)
    · rfl
    exact rj_X6_greenGoes_137 d
  · exact rj_X6_greenGoes_137 d
theorem e_X6_greenGoes_96 {X : mX} {call : Nat → List mV → mG → mR} {g : mG} {x1 x2 x3 : Int32} : mEv X call 0 t_X6_greenGoes (mDrop t_X6_greenGoes 96) [some (mr 7 20), some (mi x1), some (mi x2), some (mi x3)] [] g = mAns (mEv X call 0 t_X6_greenGoes) (mDrop t_X6_greenGoes 105) [some (mr 7 20), some (mi x1), some (mi x2), some (mi x3)] [mi 5, mi x1, mr 7 20] (call 163 [mr 7 20, mi x1, mi 5] g) := (mEv_7 _ _ _ _).trans rfl
theorem e_X6_greenGoes_105 {X : mX} {call : Nat → List mV → mG → mR} {g : mG} {x1 x2 x3 s1 s2 s3 : Int32} : mEv X call 0 t_X6_greenGoes (mDrop t_X6_greenGoes 105) [some (mr 7 20), some (mi x1), some (mi x2), some (mi x3)] [mi s3, mi s2, mi s1, mr 7 20] g = mAns (mEv X call 0 t_X6_greenGoes) (mDrop t_X6_greenGoes 110) [some (mr 7 20), some (mi x1), some (mi x2), some (mi x3)] [] (call 164 [mr 7 20, mi s1, mi s2, mi (s3 + 1)] g) := (mEv_3 _ _ _ _).trans rfl
noncomputable def J_X6_greenGoes_88 (c : mC) (x1 : Int32) (x2 : Int32) : (Option (mC)) := (mBo (α := Int32) none (P_X6_isFoeAsked c x2) (fun v1 => (if v1 = 0 then (J_X6_greenGoes_110 c x1 x2) else (mBo (α := Int32) none (P_X6_ofRing c x1 5) (fun v2 => (mBo (α := mC) none (P_X6_putsRing c x1 5 (v2 + 1)) (fun c3 => (J_X6_greenGoes_110 c3 x1 x2))))))))
theorem rj_X6_greenGoes_88 (d : Nat) {X : mX} {g : mG} {x1 x2 x3 : Int32} {c : mC} : mEv X (mCall mD X (d + 6)) 0 t_X6_greenGoes (mDrop t_X6_greenGoes 88) [some (mr 7 20), some (mi x1), some (mi x2), some (mi x3)] [] (mU g 7 c) = (wO (wV g 7)) (J_X6_greenGoes_88 c x1 x2) := by
  refine Eq.trans (e_X6_greenGoes_88) ?_
  try simp only [mU_same, mU_mU]
  refine mw_oZ ?_ (rr_X6_isFoeAsked d) rfl (fun v1 hv1 => ?_)
  · rfl
  refine Eq.trans (e_X6_greenGoes_93) ?_
  try simp only [mU_same, mU_mU]
  refine mw_ite (fun h4 => ?_) (fun h4 => ?_)
  · exact rj_X6_greenGoes_110 d
  · refine Eq.trans (e_X6_greenGoes_96) ?_
    try simp only [mU_same, mU_mU]
    refine mw_oI ?_ (rr_X6_ofRing (d + 4)) (fun v2 => ?_)
    · rfl
    refine Eq.trans (e_X6_greenGoes_105) ?_
    try simp only [mU_same, mU_mU]
    refine mw_oV ?_ (rr_X6_putsRing (d + 4)) (fun c3 => ?_)
    · rfl
    exact rj_X6_greenGoes_110 d
theorem e_X6_greenGoes_52 {X : mX} {call : Nat → List mV → mG → mR} {g : mG} {x1 x2 x3 : Int32} : mEv X call 0 t_X6_greenGoes (mDrop t_X6_greenGoes 52) [some (mr 7 20), some (mi x1), some (mi x2), some (mi x3)] [] g = mAns (mEv X call 0 t_X6_greenGoes) (mDrop t_X6_greenGoes 62) [some (mr 7 20), some (mi x1), some (mi x2), some (mi x3)] [] (call 166 [mr 7 20, mi x2, mi 12, mi (x3 - 1)] g) := (mEv_7 _ _ _ _).trans rfl
theorem e_X6_greenGoes_62 {X : mX} {call : Nat → List mV → mG → mR} {g : mG} {x1 x2 x3 : Int32} : mEv X call 0 t_X6_greenGoes (mDrop t_X6_greenGoes 62) [some (mr 7 20), some (mi x1), some (mi x2), some (mi x3)] [] g = mAns (mEv X call 0 t_X6_greenGoes) (mDrop t_X6_greenGoes 73) [some (mr 7 20), some (mi x1), some (mi x2), some (mi x3)] [mi 15, mi x2, mr 7 20] (call 165 [mr 7 20, mi x2, mi 15] g) := (mEv_7 _ _ _ _).trans rfl
theorem e_X6_greenGoes_73 {X : mX} {call : Nat → List mV → mG → mR} {g : mG} {x1 x2 x3 s1 s2 s3 : Int32} : mEv X call 0 t_X6_greenGoes (mDrop t_X6_greenGoes 73) [some (mr 7 20), some (mi x1), some (mi x2), some (mi x3)] [mi s3, mi s2, mi s1, mr 7 20] g = mAns (mEv X call 0 t_X6_greenGoes) (mDrop t_X6_greenGoes 78) [some (mr 7 20), some (mi x1), some (mi x2), some (mi x3)] [] (call 166 [mr 7 20, mi s1, mi s2, mi (s3 + 1)] g) := (mEv_3 _ _ _ _).trans rfl
theorem e_X6_greenGoes_78 {X : mX} {call : Nat → List mV → mG → mR} {g : mG} {x1 x2 x3 : Int32} : mEv X call 0 t_X6_greenGoes (mDrop t_X6_greenGoes 78) [some (mr 7 20), some (mi x1), some (mi x2), some (mi x3)] [] g = mEv X call 0 t_X6_greenGoes (mDrop t_X6_greenGoes 88) [some (mr 7 20), some (mi x1), some (mi x2), some (mi x3)] [] (mU g 7 (mP (g 7) 20 4 ((g 7 20 4) + 1))) := (mEv_6 _ _ _ _).trans rfl
noncomputable def J_X6_greenGoes_45 (c : mC) (x1 : Int32) (x2 : Int32) (x3 : Int32) (s1 : Int32) (s2 : Int32) (s3 : Int32) : (Option (mC)) := (mBo (α := mC) none (P_X6_putsRing c s1 s2 s3) (fun c1 => (if x3 ≤ 0 then (J_X6_greenGoes_88 c1 x1 x2) else (mBo (α := mC) none (P_X6_putsPhase c1 x2 12 (x3 - 1)) (fun c2 => (mBo (α := Int32) none (P_X6_ofPhase c2 x2 15) (fun v3 => (mBo (α := mC) none (P_X6_putsPhase c2 x2 15 (v3 + 1)) (fun c4 => (J_X6_greenGoes_88 (mP c4 20 4 ((c4 20 4) + 1)) x1 x2))))))))))
theorem rj_X6_greenGoes_45 (d : Nat) {X : mX} {g : mG} {x1 x2 x3 s1 s2 s3 : Int32} {c : mC} : mEv X (mCall mD X (d + 6)) 0 t_X6_greenGoes (mDrop t_X6_greenGoes 45) [some (mr 7 20), some (mi x1), some (mi x2), some (mi x3)] [mi s3, mi s2, mi s1, mr 7 20] (mU g 7 c) = (wO (wV g 7)) (J_X6_greenGoes_45 c x1 x2 x3 s1 s2 s3) := by
  refine Eq.trans (e_X6_greenGoes_45) ?_
  try simp only [mU_same, mU_mU]
  refine mw_oV ?_ (rr_X6_putsRing (d + 4)) (fun c1 => ?_)
  · rfl
  refine Eq.trans (e_X6_greenGoes_48) ?_
  try simp only [mU_same, mU_mU]
  refine mw_ite (fun h5 => ?_) (fun h5 => ?_)
  · exact rj_X6_greenGoes_88 d
  · refine Eq.trans (e_X6_greenGoes_52) ?_
    try simp only [mU_same, mU_mU]
    refine mw_oV ?_ (rr_X6_putsPhase (d + 4)) (fun c2 => ?_)
    · rfl
    refine Eq.trans (e_X6_greenGoes_62) ?_
    try simp only [mU_same, mU_mU]
    refine mw_oI ?_ (rr_X6_ofPhase (d + 4)) (fun v3 => ?_)
    · rfl
    refine Eq.trans (e_X6_greenGoes_73) ?_
    try simp only [mU_same, mU_mU]
    refine mw_oV ?_ (rr_X6_putsPhase (d + 4)) (fun c4 => ?_)
    · rfl
    refine Eq.trans (e_X6_greenGoes_78) ?_
    try simp only [mU_same, mU_mU]
    exact rj_X6_greenGoes_88 d
noncomputable def J_X6_greenGoes_33 (c : mC) (x1 : Int32) (x2 : Int32) (x3 : Int32) (s1 : Int32) (s2 : Int32) : (Option (mC)) := (J_X6_greenGoes_45 c x1 x2 x3 s1 s2 0)
theorem rj_X6_greenGoes_33 (d : Nat) {X : mX} {g : mG} {x1 x2 x3 s1 s2 : Int32} {c : mC} : mEv X (mCall mD X (d + 6)) 0 t_X6_greenGoes (mDrop t_X6_greenGoes 33) [some (mr 7 20), some (mi x1), some (mi x2), some (mi x3)] [mi s2, mi s1, mr 7 20] (mU g 7 c) = (wO (wV g 7)) (J_X6_greenGoes_33 c x1 x2 x3 s1 s2) := by
  refine Eq.trans (e_X6_greenGoes_33) ?_
  try simp only [mU_same, mU_mU]
  exact rj_X6_greenGoes_45 d
theorem e_X6_greenGoes_22 {X : mX} {call : Nat → List mV → mG → mR} {g : mG} {x1 x2 x3 s1 s2 : Int32} : mEv X call 0 t_X6_greenGoes (mDrop t_X6_greenGoes 22) [some (mr 7 20), some (mi x1), some (mi x2), some (mi x3)] [mi s2, mi s1, mr 7 20] g = mAns (mEv X call 0 t_X6_greenGoes) (mDrop t_X6_greenGoes 29) [some (mr 7 20), some (mi x1), some (mi x2), some (mi x3)] [mi s2, mi s1, mr 7 20] (call 165 [mr 7 20, mi x2, mi 16] g) := (mEv_4 _ _ _ _).trans rfl
theorem e_X6_greenGoes_29 {X : mX} {call : Nat → List mV → mG → mR} {g : mG} {x1 x2 x3 s1 s2 s3 : Int32} : mEv X call 0 t_X6_greenGoes (mDrop t_X6_greenGoes 29) [some (mr 7 20), some (mi x1), some (mi x2), some (mi x3)] [mi s3, mi s2, mi s1, mr 7 20] g = if s3 = 1 then mEv X call 0 t_X6_greenGoes (mDrop t_X6_greenGoes 33) [some (mr 7 20), some (mi x1), some (mi x2), some (mi x3)] [mi s2, mi s1, mr 7 20] g else mEv X call 0 t_X6_greenGoes (mDrop t_X6_greenGoes 37) [some (mr 7 20), some (mi x1), some (mi x2), some (mi x3)] [mi s2, mi s1, mr 7 20] g := (mEv_2 _ _ _ _).trans rfl
theorem e_X6_greenGoes_37 {X : mX} {call : Nat → List mV → mG → mR} {g : mG} {x1 x2 x3 s1 s2 : Int32} : mEv X call 0 t_X6_greenGoes (mDrop t_X6_greenGoes 37) [some (mr 7 20), some (mi x1), some (mi x2), some (mi x3)] [mi s2, mi s1, mr 7 20] g = mAns (mEv X call 0 t_X6_greenGoes) (mDrop t_X6_greenGoes 43) [some (mr 7 20), some (mi x1), some (mi x2), some (mi x3)] [mi s2, mi s1, mr 7 20] (call 163 [mr 7 20, mi x1, mi 4] g) := (mEv_4 _ _ _ _).trans rfl
theorem e_X6_greenGoes_43 {X : mX} {call : Nat → List mV → mG → mR} {g : mG} {x1 x2 x3 s1 s2 s3 : Int32} : mEv X call 0 t_X6_greenGoes (mDrop t_X6_greenGoes 43) [some (mr 7 20), some (mi x1), some (mi x2), some (mi x3)] [mi s3, mi s2, mi s1, mr 7 20] g = mEv X call 0 t_X6_greenGoes (mDrop t_X6_greenGoes 45) [some (mr 7 20), some (mi x1), some (mi x2), some (mi x3)] [mi (s3 + 1), mi s2, mi s1, mr 7 20] g := (mEv_2 _ _ _ _).trans rfl
noncomputable def P_X6_greenGoes (c : mC) (x1 : Int32) : (Option (mC)) := (mBo (α := Int32) none (P_X6_ofRing c x1 0) (fun v1 => (mBo (α := Int32) none (P_X6_ofPhase c v1 12) (fun v2 => (if 0 < v2 then (J_X6_greenGoes_33 c x1 v1 v2 x1 4) else (mBo (α := Int32) none (P_X6_ofPhase c v1 16) (fun v3 => (if v3 = 1 then (J_X6_greenGoes_33 c x1 v1 v2 x1 4) else (mBo (α := Int32) none (P_X6_ofRing c x1 4) (fun v4 => (J_X6_greenGoes_45 c x1 v1 v2 x1 4 (v4 + 1))))))))))))
theorem rr_X6_greenGoes (d : Nat) {X : mX} {g : mG} {x1 : Int32} {c : mC} : mCall mD X (d + 7) 190 [mr 7 20, mi x1] (mU g 7 c) = (wO (wV g 7)) (P_X6_greenGoes c x1) := by
  refine Eq.trans (mCall_eq (d := d + 6) rfl) ?_
  show mEv X (mCall mD X (d + 6)) 0 t_X6_greenGoes (mDrop t_X6_greenGoes 0) [some (mr 7 20), some (mi x1), none, none] [] (mU g 7 c) = _
  refine Eq.trans (e_X6_greenGoes_0) ?_
  try simp only [mU_same, mU_mU]
  refine mw_oI ?_ (rr_X6_ofRing (d + 4)) (fun v1 => ?_)
  · rfl
  refine Eq.trans (e_X6_greenGoes_6) ?_
  try simp only [mU_same, mU_mU]
  refine mw_oI ?_ (rr_X6_ofPhase (d + 4)) (fun v2 => ?_)
  · rfl
  refine Eq.trans (e_X6_greenGoes_14) ?_
  try simp only [mU_same, mU_mU]
  refine mw_ite (fun h6 => ?_) (fun h6 => ?_)
  · exact rj_X6_greenGoes_33 d
  · refine Eq.trans (e_X6_greenGoes_22) ?_
    try simp only [mU_same, mU_mU]
    refine mw_oI ?_ (rr_X6_ofPhase (d + 4)) (fun v3 => ?_)
    · rfl
    refine Eq.trans (e_X6_greenGoes_29) ?_
    try simp only [mU_same, mU_mU]
    refine mw_ite (fun h5 => ?_) (fun h5 => ?_)
    · exact rj_X6_greenGoes_33 d
    · refine Eq.trans (e_X6_greenGoes_37) ?_
      try simp only [mU_same, mU_mU]
      refine mw_oI ?_ (rr_X6_ofRing (d + 4)) (fun v4 => ?_)
      · rfl
      refine Eq.trans (e_X6_greenGoes_43) ?_
      try simp only [mU_same, mU_mU]
      exact rj_X6_greenGoes_45 d
theorem rr_X6_greenGoes_at (d : Nat) {X : mX} {g : mG} {x1 : Int32} : mCall mD X (d + 7) 190 [mr 7 20, mi x1] g = wO (wV g 7) (P_X6_greenGoes (g 7) x1) := by
  have h := rr_X6_greenGoes (X := X) d (g := g) (c := g 7) (x1 := x1)
  rw [mU_self] at h
  exact h
theorem e_X6_ringGoes_0 {X : mX} {call : Nat → List mV → mG → mR} {g : mG} {x1 : Int32} : mEv X call 0 t_X6_ringGoes (mDrop t_X6_ringGoes 0) [some (mr 7 20), some (mi x1), none, none] [] g = mAns (mEv X call 0 t_X6_ringGoes) (mDrop t_X6_ringGoes 5) [some (mr 7 20), some (mi x1), none, none] [] (call 180 [mr 7 20, mi x1] g) := (mEv_3 _ _ _ _).trans rfl
theorem e_X6_ringGoes_5 {X : mX} {call : Nat → List mV → mG → mR} {g : mG} {x1 s0 : Int32} : mEv X call 0 t_X6_ringGoes (mDrop t_X6_ringGoes 5) [some (mr 7 20), some (mi x1), none, none] [mi s0] g = if s0 = 0 then mEv X call 0 t_X6_ringGoes (mDrop t_X6_ringGoes 8) [some (mr 7 20), some (mi x1), none, none] [] g else mEv X call 0 t_X6_ringGoes (mDrop t_X6_ringGoes 9) [some (mr 7 20), some (mi x1), none, none] [] g := (mEv_1 _ _ _ _).trans rfl
theorem e_X6_ringGoes_8 {X : mX} {call : Nat → List mV → mG → mR} {g : mG} {x1 : Int32} : mEv X call 0 t_X6_ringGoes (mDrop t_X6_ringGoes 8) [some (mr 7 20), some (mi x1), none, none] [] g = some (none, g) := (mEv_1 _ _ _ _).trans rfl
theorem e_X6_ringGoes_9 {X : mX} {call : Nat → List mV → mG → mR} {g : mG} {x1 : Int32} : mEv X call 0 t_X6_ringGoes (mDrop t_X6_ringGoes 9) [some (mr 7 20), some (mi x1), none, none] [] g = mAns (mEv X call 0 t_X6_ringGoes) (mDrop t_X6_ringGoes 15) [some (mr 7 20), some (mi x1), none, none] [] (call 163 [mr 7 20, mi x1, mi 0] g) := (mEv_4 _ _ _ _).trans rfl
theorem e_X6_ringGoes_15 {X : mX} {call : Nat → List mV → mG → mR} {g : mG} {x1 s0 : Int32} : mEv X call 0 t_X6_ringGoes (mDrop t_X6_ringGoes 15) [some (mr 7 20), some (mi x1), none, none] [mi s0] g = mAns (mEv X call 0 t_X6_ringGoes) (mDrop t_X6_ringGoes 25) [some (mr 7 20), some (mi x1), some (mi s0), none] [mi 2, mi x1, mr 7 20] (call 163 [mr 7 20, mi x1, mi 2] g) := (mEv_8 _ _ _ _).trans rfl
theorem e_X6_ringGoes_25 {X : mX} {call : Nat → List mV → mG → mR} {g : mG} {x1 x2 s1 s2 s3 : Int32} : mEv X call 0 t_X6_ringGoes (mDrop t_X6_ringGoes 25) [some (mr 7 20), some (mi x1), some (mi x2), none] [mi s3, mi s2, mi s1, mr 7 20] g = mAns (mEv X call 0 t_X6_ringGoes) (mDrop t_X6_ringGoes 30) [some (mr 7 20), some (mi x1), some (mi x2), none] [] (call 164 [mr 7 20, mi s1, mi s2, mi (s3 + 1)] g) := (mEv_3 _ _ _ _).trans rfl
theorem e_X6_ringGoes_30 {X : mX} {call : Nat → List mV → mG → mR} {g : mG} {x1 x2 : Int32} : mEv X call 0 t_X6_ringGoes (mDrop t_X6_ringGoes 30) [some (mr 7 20), some (mi x1), some (mi x2), none] [] g = mAns (mEv X call 0 t_X6_ringGoes) (mDrop t_X6_ringGoes 35) [some (mr 7 20), some (mi x1), some (mi x2), none] [] (call 181 [mr 7 20, mi x1] g) := (mEv_3 _ _ _ _).trans rfl
theorem e_X6_ringGoes_35 {X : mX} {call : Nat → List mV → mG → mR} {g : mG} {x1 x2 s0 : Int32} : mEv X call 0 t_X6_ringGoes (mDrop t_X6_ringGoes 35) [some (mr 7 20), some (mi x1), some (mi x2), none] [mi s0] g = if s0 = 0 then mEv X call 0 t_X6_ringGoes (mDrop t_X6_ringGoes 44) [some (mr 7 20), some (mi x1), some (mi x2), none] [] g else mEv X call 0 t_X6_ringGoes (mDrop t_X6_ringGoes 38) [some (mr 7 20), some (mi x1), some (mi x2), none] [] g := (mEv_1 _ _ _ _).trans rfl
theorem e_X6_ringGoes_44 {X : mX} {call : Nat → List mV → mG → mR} {g : mG} {x1 x2 : Int32} : mEv X call 0 t_X6_ringGoes (mDrop t_X6_ringGoes 44) [some (mr 7 20), some (mi x1), some (mi x2), none] [] g = mAns (mEv X call 0 t_X6_ringGoes) (mDrop t_X6_ringGoes 50) [some (mr 7 20), some (mi x1), some (mi x2), none] [] (call 163 [mr 7 20, mi x1, mi 1] g) := (mEv_4 _ _ _ _).trans rfl
theorem e_X6_ringGoes_50 {X : mX} {call : Nat → List mV → mG → mR} {g : mG} {x1 x2 s0 : Int32} : mEv X call 0 t_X6_ringGoes (mDrop t_X6_ringGoes 50) [some (mr 7 20), some (mi x1), some (mi x2), none] [mi s0] g = if s0 = 1 then mEv X call 0 t_X6_ringGoes (mDrop t_X6_ringGoes 54) [some (mr 7 20), some (mi x1), some (mi x2), none] [] g else mEv X call 0 t_X6_ringGoes (mDrop t_X6_ringGoes 83) [some (mr 7 20), some (mi x1), some (mi x2), none] [] g := (mEv_2 _ _ _ _).trans rfl
theorem e_X6_ringGoes_54 {X : mX} {call : Nat → List mV → mG → mR} {g : mG} {x1 x2 : Int32} : mEv X call 0 t_X6_ringGoes (mDrop t_X6_ringGoes 54) [some (mr 7 20), some (mi x1), some (mi x2), none] [] g = mAns (mEv X call 0 t_X6_ringGoes) (mDrop t_X6_ringGoes 60) [some (mr 7 20), some (mi x1), some (mi x2), none] [] (call 163 [mr 7 20, mi x1, mi 2] g) := (mEv_4 _ _ _ _).trans rfl
theorem e_X6_ringGoes_60 {X : mX} {call : Nat → List mV → mG → mR} {g : mG} {x1 x2 s0 : Int32} : mEv X call 0 t_X6_ringGoes (mDrop t_X6_ringGoes 60) [some (mr 7 20), some (mi x1), some (mi x2), none] [mi s0] g = mAns (mEv X call 0 t_X6_ringGoes) (mDrop t_X6_ringGoes 66) [some (mr 7 20), some (mi x1), some (mi x2), none] [mi s0] (call 167 [mr 7 20, mi x2, mi 3] g) := (mEv_4 _ _ _ _).trans rfl
theorem e_X6_ringGoes_66 {X : mX} {call : Nat → List mV → mG → mR} {g : mG} {x1 x2 s0 s1 : Int32} : mEv X call 0 t_X6_ringGoes (mDrop t_X6_ringGoes 66) [some (mr 7 20), some (mi x1), some (mi x2), none] [mi s1, mi s0] g = if s0 < s1 then mEv X call 0 t_X6_ringGoes (mDrop t_X6_ringGoes 83) [some (mr 7 20), some (mi x1), some (mi x2), none] [] g else mEv X call 0 t_X6_ringGoes (mDrop t_X6_ringGoes 69) [some (mr 7 20), some (mi x1), some (mi x2), none] [] g := (mEv_1 _ _ _ _).trans rfl
theorem e_X6_ringGoes_83 {X : mX} {call : Nat → List mV → mG → mR} {g : mG} {x1 x2 : Int32} : mEv X call 0 t_X6_ringGoes (mDrop t_X6_ringGoes 83) [some (mr 7 20), some (mi x1), some (mi x2), none] [] g = mAns (mEv X call 0 t_X6_ringGoes) (mDrop t_X6_ringGoes 89) [some (mr 7 20), some (mi x1), some (mi x2), none] [] (call 163 [mr 7 20, mi x1, mi 1] g) := (mEv_4 _ _ _ _).trans rfl
theorem e_X6_ringGoes_89 {X : mX} {call : Nat → List mV → mG → mR} {g : mG} {x1 x2 s0 : Int32} : mEv X call 0 t_X6_ringGoes (mDrop t_X6_ringGoes 89) [some (mr 7 20), some (mi x1), some (mi x2), none] [mi s0] g = if s0 = 2 then mEv X call 0 t_X6_ringGoes (mDrop t_X6_ringGoes 93) [some (mr 7 20), some (mi x1), some (mi x2), none] [] g else mEv X call 0 t_X6_ringGoes (mDrop t_X6_ringGoes 108) [some (mr 7 20), some (mi x1), some (mi x2), none] [] g := (mEv_2 _ _ _ _).trans rfl
theorem e_X6_ringGoes_93 {X : mX} {call : Nat → List mV → mG → mR} {g : mG} {x1 x2 : Int32} : mEv X call 0 t_X6_ringGoes (mDrop t_X6_ringGoes 93) [some (mr 7 20), some (mi x1), some (mi x2), none] [] g = mAns (mEv X call 0 t_X6_ringGoes) (mDrop t_X6_ringGoes 99) [some (mr 7 20), some (mi x1), some (mi x2), none] [] (call 163 [mr 7 20, mi x1, mi 2] g) := (mEv_4 _ _ _ _).trans rfl
theorem e_X6_ringGoes_99 {X : mX} {call : Nat → List mV → mG → mR} {g : mG} {x1 x2 s0 : Int32} : mEv X call 0 t_X6_ringGoes (mDrop t_X6_ringGoes 99) [some (mr 7 20), some (mi x1), some (mi x2), none] [mi s0] g = mAns (mEv X call 0 t_X6_ringGoes) (mDrop t_X6_ringGoes 105) [some (mr 7 20), some (mi x1), some (mi x2), none] [mi s0] (call 167 [mr 7 20, mi x2, mi 4] g) := (mEv_4 _ _ _ _).trans rfl
theorem e_X6_ringGoes_105 {X : mX} {call : Nat → List mV → mG → mR} {g : mG} {x1 x2 s0 s1 : Int32} : mEv X call 0 t_X6_ringGoes (mDrop t_X6_ringGoes 105) [some (mr 7 20), some (mi x1), some (mi x2), none] [mi s1, mi s0] g = if s1 ≤ s0 then mEv X call 0 t_X6_ringGoes (mDrop t_X6_ringGoes 109) [some (mr 7 20), some (mi x1), some (mi x2), none] [] g else mEv X call 0 t_X6_ringGoes (mDrop t_X6_ringGoes 108) [some (mr 7 20), some (mi x1), some (mi x2), none] [] g := (mEv_1 _ _ _ _).trans rfl
theorem e_X6_ringGoes_109 {X : mX} {call : Nat → List mV → mG → mR} {g : mG} {x1 x2 : Int32} : mEv X call 0 t_X6_ringGoes (mDrop t_X6_ringGoes 109) [some (mr 7 20), some (mi x1), some (mi x2), none] [] g = mAns (mEv X call 0 t_X6_ringGoes) (mDrop t_X6_ringGoes 115) [some (mr 7 20), some (mi x1), some (mi x2), none] [] (call 163 [mr 7 20, mi x1, mi 3] g) := (mEv_4 _ _ _ _).trans rfl
theorem e_X6_ringGoes_115 {X : mX} {call : Nat → List mV → mG → mR} {g : mG} {x1 x2 s0 : Int32} : mEv X call 0 t_X6_ringGoes (mDrop t_X6_ringGoes 115) [some (mr 7 20), some (mi x1), some (mi x2), none] [mi s0] g = mAns (mEv X call 0 t_X6_ringGoes) (mDrop t_X6_ringGoes 121) [some (mr 7 20), some (mi x1), some (mi x2), some (mi s0)] [] (call 175 [mr 7 20, mi x1] g) := (mEv_4 _ _ _ _).trans rfl
theorem e_X6_ringGoes_121 {X : mX} {call : Nat → List mV → mG → mR} {g : mG} {x1 x2 x3 : Int32} : mEv X call 0 t_X6_ringGoes (mDrop t_X6_ringGoes 121) [some (mr 7 20), some (mi x1), some (mi x2), some (mi x3)] [] g = mAns (mEv X call 0 t_X6_ringGoes) (mDrop t_X6_ringGoes 128) [some (mr 7 20), some (mi x1), some (mi x2), some (mi x3)] [] (call 164 [mr 7 20, mi x1, mi 3, mi x3] g) := (mEv_5 _ _ _ _).trans rfl
theorem e_X6_ringGoes_128 {X : mX} {call : Nat → List mV → mG → mR} {g : mG} {x1 x2 x3 : Int32} : mEv X call 0 t_X6_ringGoes (mDrop t_X6_ringGoes 128) [some (mr 7 20), some (mi x1), some (mi x2), some (mi x3)] [] g = some (none, g) := (mEv_1 _ _ _ _).trans rfl
theorem e_X6_ringGoes_108 {X : mX} {call : Nat → List mV → mG → mR} {g : mG} {x1 x2 : Int32} : mEv X call 0 t_X6_ringGoes (mDrop t_X6_ringGoes 108) [some (mr 7 20), some (mi x1), some (mi x2), none] [] g = some (none, g) := (mEv_1 _ _ _ _).trans rfl
noncomputable def J_X6_ringGoes_83 (c : mC) (x1 : Int32) (x2 : Int32) : (Option (mC)) := (mBo (α := Int32) none (P_X6_ofRing c x1 1) (fun v1 => (if v1 = 2 then (mBo (α := Int32) none (P_X6_ofRing c x1 2) (fun v2 => (mBo (α := Int32) none (P_X6_mark c x2 4) (fun v3 => (if v3 ≤ v2 then (mBo (α := Int32) none (P_X6_ofRing c x1 3) (fun v4 => (mBo (α := mC) none (P_X6_clearsRing c x1) (fun c5 => (mBo (α := mC) none (P_X6_putsRing c5 x1 3 v4) (fun c6 => (some c6))))))) else (some c)))))) else (some c))))
theorem rj_X6_ringGoes_83 (d : Nat) {X : mX} {g : mG} {x1 x2 : Int32} {c : mC} : mEv X (mCall mD X (d + 7)) 0 t_X6_ringGoes (mDrop t_X6_ringGoes 83) [some (mr 7 20), some (mi x1), some (mi x2), none] [] (mU g 7 c) = (wO (wV g 7)) (J_X6_ringGoes_83 c x1 x2) := by
  refine Eq.trans (e_X6_ringGoes_83) ?_
  try simp only [mU_same, mU_mU]
  refine mw_oI ?_ (rr_X6_ofRing (d + 5)) (fun v1 => ?_)
  · rfl
  refine Eq.trans (e_X6_ringGoes_89) ?_
  try simp only [mU_same, mU_mU]
  refine mw_ite (fun h8 => ?_) (fun h8 => ?_)
  · refine Eq.trans (e_X6_ringGoes_93) ?_
    try simp only [mU_same, mU_mU]
    refine mw_oI ?_ (rr_X6_ofRing (d + 5)) (fun v2 => ?_)
    · rfl
    refine Eq.trans (e_X6_ringGoes_99) ?_
    try simp only [mU_same, mU_mU]
    refine mw_oI ?_ (rr_X6_mark (d + 4)) (fun v3 => ?_)
    · rfl
    refine Eq.trans (e_X6_ringGoes_105) ?_
    try simp only [mU_same, mU_mU]
    refine mw_ite (fun h7 => ?_) (fun h7 => ?_)
    · refine Eq.trans (e_X6_ringGoes_109) ?_
      try simp only [mU_same, mU_mU]
      refine mw_oI ?_ (rr_X6_ofRing (d + 5)) (fun v4 => ?_)
      · rfl
      refine Eq.trans (e_X6_ringGoes_115) ?_
      try simp only [mU_same, mU_mU]
      refine mw_oV ?_ (rr_X6_clearsRing (d + 4)) (fun c5 => ?_)
      · rfl
      refine Eq.trans (e_X6_ringGoes_121) ?_
      try simp only [mU_same, mU_mU]
      refine mw_oV ?_ (rr_X6_putsRing (d + 5)) (fun c6 => ?_)
      · rfl
      refine Eq.trans (e_X6_ringGoes_128) ?_
      try simp only [mU_same, mU_mU]
      all_goals rfl
    · refine Eq.trans (e_X6_ringGoes_108) ?_
      try simp only [mU_same, mU_mU]
      all_goals rfl
  · refine Eq.trans (e_X6_ringGoes_108) ?_
    try simp only [mU_same, mU_mU]
    all_goals rfl
theorem e_X6_ringGoes_69 {X : mX} {call : Nat → List mV → mG → mR} {g : mG} {x1 x2 : Int32} : mEv X call 0 t_X6_ringGoes (mDrop t_X6_ringGoes 69) [some (mr 7 20), some (mi x1), some (mi x2), none] [] g = mAns (mEv X call 0 t_X6_ringGoes) (mDrop t_X6_ringGoes 76) [some (mr 7 20), some (mi x1), some (mi x2), none] [] (call 164 [mr 7 20, mi x1, mi 1, mi 2] g) := (mEv_5 _ _ _ _).trans rfl
theorem e_X6_ringGoes_76 {X : mX} {call : Nat → List mV → mG → mR} {g : mG} {x1 x2 : Int32} : mEv X call 0 t_X6_ringGoes (mDrop t_X6_ringGoes 76) [some (mr 7 20), some (mi x1), some (mi x2), none] [] g = mAns (mEv X call 0 t_X6_ringGoes) (mDrop t_X6_ringGoes 83) [some (mr 7 20), some (mi x1), some (mi x2), none] [] (call 164 [mr 7 20, mi x1, mi 2, mi 0] g) := (mEv_5 _ _ _ _).trans rfl
theorem e_X6_ringGoes_38 {X : mX} {call : Nat → List mV → mG → mR} {g : mG} {x1 x2 : Int32} : mEv X call 0 t_X6_ringGoes (mDrop t_X6_ringGoes 38) [some (mr 7 20), some (mi x1), some (mi x2), none] [] g = mAns (mEv X call 0 t_X6_ringGoes) (mDrop t_X6_ringGoes 43) [some (mr 7 20), some (mi x1), some (mi x2), none] [] (call 190 [mr 7 20, mi x1] g) := (mEv_3 _ _ _ _).trans rfl
theorem e_X6_ringGoes_43 {X : mX} {call : Nat → List mV → mG → mR} {g : mG} {x1 x2 : Int32} : mEv X call 0 t_X6_ringGoes (mDrop t_X6_ringGoes 43) [some (mr 7 20), some (mi x1), some (mi x2), none] [] g = some (none, g) := (mEv_1 _ _ _ _).trans rfl
noncomputable def P_X6_ringGoes (c : mC) (x1 : Int32) : (Option (mC)) := (mBo (α := Int32) none (P_X6_isHolding c x1) (fun v1 => (if v1 = 0 then (some c) else (mBo (α := Int32) none (P_X6_ofRing c x1 0) (fun v2 => (mBo (α := Int32) none (P_X6_ofRing c x1 2) (fun v3 => (mBo (α := mC) none (P_X6_putsRing c x1 2 (v3 + 1)) (fun c4 => (mBo (α := Int32) none (P_X6_isGreen c4 x1) (fun v5 => (if v5 = 0 then (mBo (α := Int32) none (P_X6_ofRing c4 x1 1) (fun v6 => (if v6 = 1 then (mBo (α := Int32) none (P_X6_ofRing c4 x1 2) (fun v7 => (mBo (α := Int32) none (P_X6_mark c4 v2 3) (fun v8 => (if v7 < v8 then (J_X6_ringGoes_83 c4 x1 v2) else (mBo (α := mC) none (P_X6_putsRing c4 x1 1 2) (fun c9 => (mBo (α := mC) none (P_X6_putsRing c9 x1 2 0) (fun c10 => (J_X6_ringGoes_83 c10 x1 v2)))))))))) else (J_X6_ringGoes_83 c4 x1 v2)))) else (mBo (α := mC) none (P_X6_greenGoes c4 x1) (fun c13 => (some c13)))))))))))))))
theorem rr_X6_ringGoes (d : Nat) {X : mX} {g : mG} {x1 : Int32} {c : mC} : mCall mD X (d + 8) 191 [mr 7 20, mi x1] (mU g 7 c) = (wO (wV g 7)) (P_X6_ringGoes c x1) := by
  refine Eq.trans (mCall_eq (d := d + 7) rfl) ?_
  show mEv X (mCall mD X (d + 7)) 0 t_X6_ringGoes (mDrop t_X6_ringGoes 0) [some (mr 7 20), some (mi x1), none, none] [] (mU g 7 c) = _
  refine Eq.trans (e_X6_ringGoes_0) ?_
  try simp only [mU_same, mU_mU]
  refine mw_oZ ?_ (rr_X6_isHolding (d + 4)) rfl (fun v1 hv1 => ?_)
  · rfl
  refine Eq.trans (e_X6_ringGoes_5) ?_
  try simp only [mU_same, mU_mU]
  refine mw_ite (fun h15 => ?_) (fun h15 => ?_)
  · refine Eq.trans (e_X6_ringGoes_8) ?_
    try simp only [mU_same, mU_mU]
    all_goals rfl
  · refine Eq.trans (e_X6_ringGoes_9) ?_
    try simp only [mU_same, mU_mU]
    refine mw_oI ?_ (rr_X6_ofRing (d + 5)) (fun v2 => ?_)
    · rfl
    refine Eq.trans (e_X6_ringGoes_15) ?_
    try simp only [mU_same, mU_mU]
    refine mw_oI ?_ (rr_X6_ofRing (d + 5)) (fun v3 => ?_)
    · rfl
    refine Eq.trans (e_X6_ringGoes_25) ?_
    try simp only [mU_same, mU_mU]
    refine mw_oV ?_ (rr_X6_putsRing (d + 5)) (fun c4 => ?_)
    · rfl
    refine Eq.trans (e_X6_ringGoes_30) ?_
    try simp only [mU_same, mU_mU]
    refine mw_oZ ?_ (rr_X6_isGreen (d + 4)) rfl (fun v5 hv5 => ?_)
    · rfl
    refine Eq.trans (e_X6_ringGoes_35) ?_
    try simp only [mU_same, mU_mU]
    refine mw_ite (fun h14 => ?_) (fun h14 => ?_)
    · refine Eq.trans (e_X6_ringGoes_44) ?_
      try simp only [mU_same, mU_mU]
      refine mw_oI ?_ (rr_X6_ofRing (d + 5)) (fun v6 => ?_)
      · rfl
      refine Eq.trans (e_X6_ringGoes_50) ?_
      try simp only [mU_same, mU_mU]
      refine mw_ite (fun h12 => ?_) (fun h12 => ?_)
      · refine Eq.trans (e_X6_ringGoes_54) ?_
        try simp only [mU_same, mU_mU]
        refine mw_oI ?_ (rr_X6_ofRing (d + 5)) (fun v7 => ?_)
        · rfl
        refine Eq.trans (e_X6_ringGoes_60) ?_
        try simp only [mU_same, mU_mU]
        refine mw_oI ?_ (rr_X6_mark (d + 4)) (fun v8 => ?_)
        · rfl
        refine Eq.trans (e_X6_ringGoes_66) ?_
        try simp only [mU_same, mU_mU]
        refine mw_ite (fun h11 => ?_) (fun h11 => ?_)
        · exact rj_X6_ringGoes_83 d
        · refine Eq.trans (e_X6_ringGoes_69) ?_
          try simp only [mU_same, mU_mU]
          refine mw_oV ?_ (rr_X6_putsRing (d + 5)) (fun c9 => ?_)
          · rfl
          refine Eq.trans (e_X6_ringGoes_76) ?_
          try simp only [mU_same, mU_mU]
          refine mw_oV ?_ (rr_X6_putsRing (d + 5)) (fun c10 => ?_)
          · rfl
          exact rj_X6_ringGoes_83 d
      · exact rj_X6_ringGoes_83 d
    · refine Eq.trans (e_X6_ringGoes_38) ?_
      try simp only [mU_same, mU_mU]
      refine mw_oV ?_ (rr_X6_greenGoes d) (fun c13 => ?_)
      · rfl
      refine Eq.trans (e_X6_ringGoes_43) ?_
      try simp only [mU_same, mU_mU]
      all_goals rfl
theorem rr_X6_ringGoes_at (d : Nat) {X : mX} {g : mG} {x1 : Int32} : mCall mD X (d + 8) 191 [mr 7 20, mi x1] g = wO (wV g 7) (P_X6_ringGoes (g 7) x1) := by
  have h := rr_X6_ringGoes (X := X) d (g := g) (c := g 7) (x1 := x1)
  rw [mU_self] at h
  exact h
theorem e_X6_endOf_0 {X : mX} {call : Nat → List mV → mG → mR} {g : mG} {x1 : Int32} : mEv X call 1 t_X6_endOf (mDrop t_X6_endOf 0) [some (mr 7 20), some (mi x1), none, none, none] [] g = mEv X call 1 t_X6_endOf (mDrop t_X6_endOf 4) [some (mr 7 20), some (mi x1), some (mi 0), some (mi 0), none] [] g := (mEv_4 _ _ _ _).trans rfl
theorem hk_X6_endOf_4 {X : mX} {call : Nat → List mV → mG → mR} {g : mG} {x1 x2 x3 : Int32} {k4 : Option mV} : mEv X call 1 t_X6_endOf (mDrop t_X6_endOf 4) [some (mr 7 20), some (mi x1), some (mi x2), some (mi x3), k4] [] g = mEv X call 1 t_X6_endOf (mDrop t_X6_endOf 4) [some (mr 7 20), some (mi x1), some (mi x2), some (mi x3), none] [] g := Eq.trans (mEv_1 _ _ _ _) (Eq.symm (Eq.trans (mEv_1 _ _ _ _) rfl))
theorem e_X6_endOf_4 {X : mX} {call : Nat → List mV → mG → mR} {g : mG} {x1 x2 x3 : Int32} {u4 : Option mV} : mEv X call 1 t_X6_endOf (mDrop t_X6_endOf 4) [some (mr 7 20), some (mi x1), some (mi x2), some (mi x3), u4] [] g = mAns (mEv X call 1 t_X6_endOf) (mDrop t_X6_endOf 10) [some (mr 7 20), some (mi x1), some (mi x2), some (mi x3), none] [mi x3] (call 158 [mr 7 20, mi 0] g) := (mEv_4 _ _ _ _).trans rfl
theorem e_X6_endOf_10 {X : mX} {call : Nat → List mV → mG → mR} {g : mG} {x1 x2 x3 s0 s1 : Int32} {u4 : Option mV} : mEv X call 1 t_X6_endOf (mDrop t_X6_endOf 10) [some (mr 7 20), some (mi x1), some (mi x2), some (mi x3), u4] [mi s1, mi s0] g = if s1 ≤ s0 then mEv X call 1 t_X6_endOf (mDrop t_X6_endOf 95) [some (mr 7 20), some (mi x1), some (mi x2), some (mi x3), u4] [] g else mEv X call 1 t_X6_endOf (mDrop t_X6_endOf 13) [some (mr 7 20), some (mi x1), some (mi x2), some (mi x3), u4] [] g := (mEv_1 _ _ _ _).trans rfl
theorem e_X6_endOf_95 {X : mX} {call : Nat → List mV → mG → mR} {g : mG} {x1 x2 x3 : Int32} {u4 : Option mV} : mEv X call 1 t_X6_endOf (mDrop t_X6_endOf 95) [some (mr 7 20), some (mi x1), some (mi x2), some (mi x3), u4] [] g = some (some (mi x2), g) := (mEv_2 _ _ _ _).trans rfl
theorem e_X6_endOf_13 {X : mX} {call : Nat → List mV → mG → mR} {g : mG} {x1 x2 x3 : Int32} {u4 : Option mV} : mEv X call 1 t_X6_endOf (mDrop t_X6_endOf 13) [some (mr 7 20), some (mi x1), some (mi x2), some (mi x3), u4] [] g = mAns (mEv X call 1 t_X6_endOf) (mDrop t_X6_endOf 19) [some (mr 7 20), some (mi x1), some (mi x2), some (mi x3), u4] [] (call 165 [mr 7 20, mi x3, mi 1] g) := (mEv_4 _ _ _ _).trans rfl
theorem e_X6_endOf_19 {X : mX} {call : Nat → List mV → mG → mR} {g : mG} {x1 x2 x3 s0 : Int32} {u4 : Option mV} : mEv X call 1 t_X6_endOf (mDrop t_X6_endOf 19) [some (mr 7 20), some (mi x1), some (mi x2), some (mi x3), u4] [mi s0] g = mAns (mEv X call 1 t_X6_endOf) (mDrop t_X6_endOf 25) [some (mr 7 20), some (mi x1), some (mi x2), some (mi x3), u4] [mi s0] (call 165 [mr 7 20, mi x1, mi 1] g) := (mEv_4 _ _ _ _).trans rfl
theorem e_X6_endOf_25 {X : mX} {call : Nat → List mV → mG → mR} {g : mG} {x1 x2 x3 s0 s1 : Int32} {u4 : Option mV} : mEv X call 1 t_X6_endOf (mDrop t_X6_endOf 25) [some (mr 7 20), some (mi x1), some (mi x2), some (mi x3), u4] [mi s1, mi s0] g = if s0 < s1 then mEv X call 1 t_X6_endOf (mDrop t_X6_endOf 48) [some (mr 7 20), some (mi x1), some (mi x2), some (mi x3), u4] [] g else mEv X call 1 t_X6_endOf (mDrop t_X6_endOf 28) [some (mr 7 20), some (mi x1), some (mi x2), some (mi x3), u4] [] g := (mEv_1 _ _ _ _).trans rfl
theorem e_X6_endOf_48 {X : mX} {call : Nat → List mV → mG → mR} {g : mG} {x1 x2 x3 : Int32} {u4 : Option mV} : mEv X call 1 t_X6_endOf (mDrop t_X6_endOf 48) [some (mr 7 20), some (mi x1), some (mi x2), some (mi x3), u4] [] g = mEv X call 1 t_X6_endOf (mDrop t_X6_endOf 53) [some (mr 7 20), some (mi x1), some (mi x2), some (mi x3), u4] [mi 1] g := (mEv_2 _ _ _ _).trans rfl
theorem e_X6_endOf_53 {X : mX} {call : Nat → List mV → mG → mR} {g : mG} {x1 x2 x3 s0 : Int32} {u4 : Option mV} : mEv X call 1 t_X6_endOf (mDrop t_X6_endOf 53) [some (mr 7 20), some (mi x1), some (mi x2), some (mi x3), u4] [mi s0] g = mAns (mEv X call 1 t_X6_endOf) (mDrop t_X6_endOf 62) [some (mr 7 20), some (mi x1), some (mi x2), some (mi x3), some (mi s0)] [mi x2] (call 165 [mr 7 20, mi x3, mi 0] g) := (mEv_6 _ _ _ _).trans rfl
theorem e_X6_endOf_62 {X : mX} {call : Nat → List mV → mG → mR} {g : mG} {x1 x2 x3 x4 s0 s1 : Int32} : mEv X call 1 t_X6_endOf (mDrop t_X6_endOf 62) [some (mr 7 20), some (mi x1), some (mi x2), some (mi x3), some (mi x4)] [mi s1, mi s0] g = mAns (mEv X call 1 t_X6_endOf) (mDrop t_X6_endOf 68) [some (mr 7 20), some (mi x1), some (mi x2), some (mi x3), some (mi x4)] [mi s1, mi s0] (call 165 [mr 7 20, mi x1, mi 0] g) := (mEv_4 _ _ _ _).trans rfl
theorem e_X6_endOf_68 {X : mX} {call : Nat → List mV → mG → mR} {g : mG} {x1 x2 x3 x4 s0 s1 s2 : Int32} : mEv X call 1 t_X6_endOf (mDrop t_X6_endOf 68) [some (mr 7 20), some (mi x1), some (mi x2), some (mi x3), some (mi x4)] [mi s2, mi s1, mi s0] g = if s1 = s2 then mEv X call 1 t_X6_endOf (mDrop t_X6_endOf 71) [some (mr 7 20), some (mi x1), some (mi x2), some (mi x3), some (mi x4)] [mi s0] g else mEv X call 1 t_X6_endOf (mDrop t_X6_endOf 86) [some (mr 7 20), some (mi x1), some (mi x2), some (mi x3), some (mi x4)] [mi s0] g := (mEv_1 _ _ _ _).trans rfl
theorem e_X6_endOf_71 {X : mX} {call : Nat → List mV → mG → mR} {g : mG} {x1 x2 x3 x4 s0 : Int32} : mEv X call 1 t_X6_endOf (mDrop t_X6_endOf 71) [some (mr 7 20), some (mi x1), some (mi x2), some (mi x3), some (mi x4)] [mi s0] g = if x4 = 0 then mEv X call 1 t_X6_endOf (mDrop t_X6_endOf 86) [some (mr 7 20), some (mi x1), some (mi x2), some (mi x3), some (mi x4)] [mi s0] g else mEv X call 1 t_X6_endOf (mDrop t_X6_endOf 76) [some (mr 7 20), some (mi x1), some (mi x2), some (mi x3), some (mi x4)] [mi s0] g := (mEv_2 _ _ _ _).trans rfl
theorem e_X6_endOf_86 {X : mX} {call : Nat → List mV → mG → mR} {g : mG} {x1 x2 x3 x4 s0 : Int32} : mEv X call 1 t_X6_endOf (mDrop t_X6_endOf 86) [some (mr 7 20), some (mi x1), some (mi x2), some (mi x3), some (mi x4)] [mi s0] g = mEv X call 1 t_X6_endOf (mDrop t_X6_endOf 87) [some (mr 7 20), some (mi x1), some (mi x2), some (mi x3), some (mi x4)] [mi 0, mi s0] g := (mEv_1 _ _ _ _).trans rfl
theorem e_X6_endOf_87 {X : mX} {call : Nat → List mV → mG → mR} {g : mG} {x1 x2 x3 x4 s0 s1 : Int32} : mEv X call 1 t_X6_endOf (mDrop t_X6_endOf 87) [some (mr 7 20), some (mi x1), some (mi x2), some (mi x3), some (mi x4)] [mi s1, mi s0] g = mEv X call 1 t_X6_endOf (mDrop t_X6_endOf 4) [some (mr 7 20), some (mi x1), some (mi (s0 + s1)), some (mi (x3 + 1)), some (mi x4)] [] g := (mEv_4 _ _ _ _).trans rfl
noncomputable def J_X6_endOf_87 (c : mC) (x1 : Int32) (x3 : Int32) (s0 : Int32) (s1 : Int32) : ((Int32 × Int32) ⊕ (Option (Int32))) := (.inl ((s0 + s1), (x3 + 1)))
theorem rj_X6_endOf_87 (d : Nat) {X : mX} {g : mG} {x1 x2 x3 x4 s0 s1 : Int32} {c : mC} : mEv X (mCall mD X (d + 3)) 1 t_X6_endOf (mDrop t_X6_endOf 87) [some (mr 7 20), some (mi x1), some (mi x2), some (mi x3), some (mi x4)] [mi s1, mi s0] (mU g 7 c) = (wB (fun s : (Int32 × Int32) => match s with | (x2, x3) => mEv X (mCall mD X (d + 3)) 1 t_X6_endOf (mDrop t_X6_endOf 4) [some (mr 7 20), some (mi x1), some (mi x2), some (mi x3), none] [] (mU g 7 c)) (wO (wI g 7 c))) (J_X6_endOf_87 c x1 x3 s0 s1) := by
  refine Eq.trans (e_X6_endOf_87) ?_
  try simp only [mU_same, mU_mU]
  exact mw_inl hk_X6_endOf_4
noncomputable def J_X6_endOf_86 (c : mC) (x1 : Int32) (x3 : Int32) (s0 : Int32) : ((Int32 × Int32) ⊕ (Option (Int32))) := (J_X6_endOf_87 c x1 x3 s0 0)
theorem rj_X6_endOf_86 (d : Nat) {X : mX} {g : mG} {x1 x2 x3 x4 s0 : Int32} {c : mC} : mEv X (mCall mD X (d + 3)) 1 t_X6_endOf (mDrop t_X6_endOf 86) [some (mr 7 20), some (mi x1), some (mi x2), some (mi x3), some (mi x4)] [mi s0] (mU g 7 c) = (wB (fun s : (Int32 × Int32) => match s with | (x2, x3) => mEv X (mCall mD X (d + 3)) 1 t_X6_endOf (mDrop t_X6_endOf 4) [some (mr 7 20), some (mi x1), some (mi x2), some (mi x3), none] [] (mU g 7 c)) (wO (wI g 7 c))) (J_X6_endOf_86 c x1 x3 s0) := by
  refine Eq.trans (e_X6_endOf_86) ?_
  try simp only [mU_same, mU_mU]
  exact rj_X6_endOf_87 d
theorem e_X6_endOf_76 {X : mX} {call : Nat → List mV → mG → mR} {g : mG} {x1 x2 x3 x4 s0 : Int32} : mEv X call 1 t_X6_endOf (mDrop t_X6_endOf 76) [some (mr 7 20), some (mi x1), some (mi x2), some (mi x3), some (mi x4)] [mi s0] g = mAns (mEv X call 1 t_X6_endOf) (mDrop t_X6_endOf 83) [some (mr 7 20), some (mi x1), some (mi x2), some (mi x3), some (mi x4)] [mi s0] (call 167 [mr 7 20, mi x3, mi 8] g) := (mEv_4 _ _ _ _).trans rfl
theorem e_X6_endOf_83 {X : mX} {call : Nat → List mV → mG → mR} {g : mG} {x1 x2 x3 x4 s0 s1 : Int32} : mEv X call 1 t_X6_endOf (mDrop t_X6_endOf 83) [some (mr 7 20), some (mi x1), some (mi x2), some (mi x3), some (mi x4)] [mi s1, mi s0] g = mEv X call 1 t_X6_endOf (mDrop t_X6_endOf 87) [some (mr 7 20), some (mi x1), some (mi x2), some (mi x3), some (mi x4)] [mi s1, mi s0] g := (mEv_1 _ _ _ _).trans rfl
noncomputable def J_X6_endOf_53 (c : mC) (x1 : Int32) (x2 : Int32) (x3 : Int32) (s0 : Int32) : ((Int32 × Int32) ⊕ (Option (Int32))) := (mBo (α := Int32) (.inr none) (P_X6_ofPhase c x3 0) (fun v1 => (mBo (α := Int32) (.inr none) (P_X6_ofPhase c x1 0) (fun v2 => (if v1 = v2 then (if s0 = 0 then (J_X6_endOf_86 c x1 x3 x2) else (mBo (α := Int32) (.inr none) (P_X6_mark c x3 8) (fun v3 => (J_X6_endOf_87 c x1 x3 x2 v3)))) else (J_X6_endOf_86 c x1 x3 x2))))))
theorem rj_X6_endOf_53 (d : Nat) {X : mX} {g : mG} {x1 x2 x3 s0 : Int32} {u4 : Option mV} {c : mC} : mEv X (mCall mD X (d + 3)) 1 t_X6_endOf (mDrop t_X6_endOf 53) [some (mr 7 20), some (mi x1), some (mi x2), some (mi x3), u4] [mi s0] (mU g 7 c) = (wB (fun s : (Int32 × Int32) => match s with | (x2, x3) => mEv X (mCall mD X (d + 3)) 1 t_X6_endOf (mDrop t_X6_endOf 4) [some (mr 7 20), some (mi x1), some (mi x2), some (mi x3), none] [] (mU g 7 c)) (wO (wI g 7 c))) (J_X6_endOf_53 c x1 x2 x3 s0) := by
  refine Eq.trans (e_X6_endOf_53) ?_
  try simp only [mU_same, mU_mU]
  refine mw_oI ?_ (rr_X6_ofPhase (d + 1)) (fun v1 => ?_)
  · rfl
  refine Eq.trans (e_X6_endOf_62) ?_
  try simp only [mU_same, mU_mU]
  refine mw_oI ?_ (rr_X6_ofPhase (d + 1)) (fun v2 => ?_)
  · rfl
  refine Eq.trans (e_X6_endOf_68) ?_
  try simp only [mU_same, mU_mU]
  refine mw_ite (fun h5 => ?_) (fun h5 => ?_)
  · refine Eq.trans (e_X6_endOf_71) ?_
    try simp only [mU_same, mU_mU]
    refine mw_ite (fun h4 => ?_) (fun h4 => ?_)
    · exact rj_X6_endOf_86 d
    · refine Eq.trans (e_X6_endOf_76) ?_
      try simp only [mU_same, mU_mU]
      refine mw_oI ?_ (rr_X6_mark d) (fun v3 => ?_)
      · rfl
      refine Eq.trans (e_X6_endOf_83) ?_
      try simp only [mU_same, mU_mU]
      exact rj_X6_endOf_87 d
  · exact rj_X6_endOf_86 d
noncomputable def J_X6_endOf_48 (c : mC) (x1 : Int32) (x2 : Int32) (x3 : Int32) : ((Int32 × Int32) ⊕ (Option (Int32))) := (J_X6_endOf_53 c x1 x2 x3 1)
theorem rj_X6_endOf_48 (d : Nat) {X : mX} {g : mG} {x1 x2 x3 : Int32} {u4 : Option mV} {c : mC} : mEv X (mCall mD X (d + 3)) 1 t_X6_endOf (mDrop t_X6_endOf 48) [some (mr 7 20), some (mi x1), some (mi x2), some (mi x3), u4] [] (mU g 7 c) = (wB (fun s : (Int32 × Int32) => match s with | (x2, x3) => mEv X (mCall mD X (d + 3)) 1 t_X6_endOf (mDrop t_X6_endOf 4) [some (mr 7 20), some (mi x1), some (mi x2), some (mi x3), none] [] (mU g 7 c)) (wO (wI g 7 c))) (J_X6_endOf_48 c x1 x2 x3) := by
  refine Eq.trans (e_X6_endOf_48) ?_
  try simp only [mU_same, mU_mU]
  exact rj_X6_endOf_53 d
theorem e_X6_endOf_28 {X : mX} {call : Nat → List mV → mG → mR} {g : mG} {x1 x2 x3 : Int32} {u4 : Option mV} : mEv X call 1 t_X6_endOf (mDrop t_X6_endOf 28) [some (mr 7 20), some (mi x1), some (mi x2), some (mi x3), u4] [] g = mAns (mEv X call 1 t_X6_endOf) (mDrop t_X6_endOf 34) [some (mr 7 20), some (mi x1), some (mi x2), some (mi x3), u4] [] (call 165 [mr 7 20, mi x3, mi 1] g) := (mEv_4 _ _ _ _).trans rfl
theorem e_X6_endOf_34 {X : mX} {call : Nat → List mV → mG → mR} {g : mG} {x1 x2 x3 s0 : Int32} {u4 : Option mV} : mEv X call 1 t_X6_endOf (mDrop t_X6_endOf 34) [some (mr 7 20), some (mi x1), some (mi x2), some (mi x3), u4] [mi s0] g = mAns (mEv X call 1 t_X6_endOf) (mDrop t_X6_endOf 40) [some (mr 7 20), some (mi x1), some (mi x2), some (mi x3), u4] [mi s0] (call 165 [mr 7 20, mi x1, mi 1] g) := (mEv_4 _ _ _ _).trans rfl
theorem e_X6_endOf_40 {X : mX} {call : Nat → List mV → mG → mR} {g : mG} {x1 x2 x3 s0 s1 : Int32} {u4 : Option mV} : mEv X call 1 t_X6_endOf (mDrop t_X6_endOf 40) [some (mr 7 20), some (mi x1), some (mi x2), some (mi x3), u4] [mi s1, mi s0] g = if s0 = s1 then mEv X call 1 t_X6_endOf (mDrop t_X6_endOf 43) [some (mr 7 20), some (mi x1), some (mi x2), some (mi x3), u4] [] g else mEv X call 1 t_X6_endOf (mDrop t_X6_endOf 52) [some (mr 7 20), some (mi x1), some (mi x2), some (mi x3), u4] [] g := (mEv_1 _ _ _ _).trans rfl
theorem e_X6_endOf_43 {X : mX} {call : Nat → List mV → mG → mR} {g : mG} {x1 x2 x3 : Int32} {u4 : Option mV} : mEv X call 1 t_X6_endOf (mDrop t_X6_endOf 43) [some (mr 7 20), some (mi x1), some (mi x2), some (mi x3), u4] [] g = if x1 < x3 then mEv X call 1 t_X6_endOf (mDrop t_X6_endOf 52) [some (mr 7 20), some (mi x1), some (mi x2), some (mi x3), u4] [] g else mEv X call 1 t_X6_endOf (mDrop t_X6_endOf 48) [some (mr 7 20), some (mi x1), some (mi x2), some (mi x3), u4] [] g := (mEv_3 _ _ _ _).trans rfl
theorem e_X6_endOf_52 {X : mX} {call : Nat → List mV → mG → mR} {g : mG} {x1 x2 x3 : Int32} {u4 : Option mV} : mEv X call 1 t_X6_endOf (mDrop t_X6_endOf 52) [some (mr 7 20), some (mi x1), some (mi x2), some (mi x3), u4] [] g = mEv X call 1 t_X6_endOf (mDrop t_X6_endOf 53) [some (mr 7 20), some (mi x1), some (mi x2), some (mi x3), u4] [mi 0] g := (mEv_1 _ _ _ _).trans rfl
noncomputable def J_X6_endOf_52 (c : mC) (x1 : Int32) (x2 : Int32) (x3 : Int32) : ((Int32 × Int32) ⊕ (Option (Int32))) := (J_X6_endOf_53 c x1 x2 x3 0)
theorem rj_X6_endOf_52 (d : Nat) {X : mX} {g : mG} {x1 x2 x3 : Int32} {u4 : Option mV} {c : mC} : mEv X (mCall mD X (d + 3)) 1 t_X6_endOf (mDrop t_X6_endOf 52) [some (mr 7 20), some (mi x1), some (mi x2), some (mi x3), u4] [] (mU g 7 c) = (wB (fun s : (Int32 × Int32) => match s with | (x2, x3) => mEv X (mCall mD X (d + 3)) 1 t_X6_endOf (mDrop t_X6_endOf 4) [some (mr 7 20), some (mi x1), some (mi x2), some (mi x3), none] [] (mU g 7 c)) (wO (wI g 7 c))) (J_X6_endOf_52 c x1 x2 x3) := by
  refine Eq.trans (e_X6_endOf_52) ?_
  try simp only [mU_same, mU_mU]
  exact rj_X6_endOf_53 d
noncomputable def B_X6_endOf_4 (c : mC) (x1 : Int32) : (Int32 × Int32) → (Int32 × Int32) ⊕ (Option (Int32)) := fun s => match s with | (x2, x3) => (mBo (α := Int32) (.inr none) (P_X6_of c 0) (fun v1 => (if v1 ≤ x3 then (.inr (some x2)) else (mBo (α := Int32) (.inr none) (P_X6_ofPhase c x3 1) (fun v2 => (mBo (α := Int32) (.inr none) (P_X6_ofPhase c x1 1) (fun v3 => (if v2 < v3 then (J_X6_endOf_48 c x1 x2 x3) else (mBo (α := Int32) (.inr none) (P_X6_ofPhase c x3 1) (fun v4 => (mBo (α := Int32) (.inr none) (P_X6_ofPhase c x1 1) (fun v5 => (if v4 = v5 then (if x1 < x3 then (J_X6_endOf_52 c x1 x2 x3) else (J_X6_endOf_48 c x1 x2 x3)) else (J_X6_endOf_52 c x1 x2 x3))))))))))))))
set_option maxRecDepth 100000 in
theorem tm_X6_endOf_4 {c : mC} {x1 : Int32} : mTm (B_X6_endOf_4 c x1) := by
  refine ⟨fun s => match s with | (x2, x3) => mMx x3, fun s s2 h => ?_⟩
  obtain ⟨x2, x3⟩ := s
  simp only [B_X6_endOf_4, J_X6_endOf_48, J_X6_endOf_53, J_X6_endOf_86, J_X6_endOf_87, J_X6_endOf_52, mBd, mBo] at h
  (repeat' split at h) <;> first | (have h2 := Sum.inl.inj h; subst h2; dsimp only; first | exact mtm_max (by assumption) | exact mtm_lt (by assumption)) | (cases h; done)
theorem rl_X6_endOf_4 (d : Nat) {X : mX} {g : mG} {x1 x2 x3 : Int32} {c : mC} : mEv X (mCall mD X (d + 3)) 1 t_X6_endOf (mDrop t_X6_endOf 4) [some (mr 7 20), some (mi x1), some (mi x2), some (mi x3), none] [] (mU g 7 c) = (wO (wI g 7 c)) (mWh none (B_X6_endOf_4 c x1) (x2, x3)) := by
  refine mWh_ev (B := (B_X6_endOf_4 c x1)) (ev := fun s : (Int32 × Int32) => match s with | (x2, x3) => mEv X (mCall mD X (d + 3)) 1 t_X6_endOf (mDrop t_X6_endOf 4) [some (mr 7 20), some (mi x1), some (mi x2), some (mi x3), none] [] (mU g 7 c)) (w := (wO (wI g 7 c))) (tm_X6_endOf_4) ?_ (x2, x3)
  rintro ⟨x2, x3⟩
  show mEv X (mCall mD X (d + 3)) 1 t_X6_endOf (mDrop t_X6_endOf 4) [some (mr 7 20), some (mi x1), some (mi x2), some (mi x3), none] [] (mU g 7 c) = wB (fun s : (Int32 × Int32) => match s with | (x2, x3) => mEv X (mCall mD X (d + 3)) 1 t_X6_endOf (mDrop t_X6_endOf 4) [some (mr 7 20), some (mi x1), some (mi x2), some (mi x3), none] [] (mU g 7 c)) (wO (wI g 7 c)) (mBo (α := Int32) (.inr none) (P_X6_of c 0) (fun v1 => (if v1 ≤ x3 then (.inr (some x2)) else (mBo (α := Int32) (.inr none) (P_X6_ofPhase c x3 1) (fun v2 => (mBo (α := Int32) (.inr none) (P_X6_ofPhase c x1 1) (fun v3 => (if v2 < v3 then (J_X6_endOf_48 c x1 x2 x3) else (mBo (α := Int32) (.inr none) (P_X6_ofPhase c x3 1) (fun v4 => (mBo (α := Int32) (.inr none) (P_X6_ofPhase c x1 1) (fun v5 => (if v4 = v5 then (if x1 < x3 then (J_X6_endOf_52 c x1 x2 x3) else (J_X6_endOf_48 c x1 x2 x3)) else (J_X6_endOf_52 c x1 x2 x3))))))))))))))
  refine Eq.trans (e_X6_endOf_4) ?_
  try simp only [mU_same, mU_mU]
  refine mw_oI ?_ (rr_X6_of (d + 2)) (fun v1 => ?_)
  · rfl
  refine Eq.trans (e_X6_endOf_10) ?_
  try simp only [mU_same, mU_mU]
  refine mw_ite (fun h9 => ?_) (fun h9 => ?_)
  · refine mw_inr ?_
    refine Eq.trans (e_X6_endOf_95) ?_
    try simp only [mU_same, mU_mU]
    all_goals rfl
  · refine Eq.trans (e_X6_endOf_13) ?_
    try simp only [mU_same, mU_mU]
    refine mw_oI ?_ (rr_X6_ofPhase (d + 1)) (fun v2 => ?_)
    · rfl
    refine Eq.trans (e_X6_endOf_19) ?_
    try simp only [mU_same, mU_mU]
    refine mw_oI ?_ (rr_X6_ofPhase (d + 1)) (fun v3 => ?_)
    · rfl
    refine Eq.trans (e_X6_endOf_25) ?_
    try simp only [mU_same, mU_mU]
    refine mw_ite (fun h8 => ?_) (fun h8 => ?_)
    · exact rj_X6_endOf_48 d
    · refine Eq.trans (e_X6_endOf_28) ?_
      try simp only [mU_same, mU_mU]
      refine mw_oI ?_ (rr_X6_ofPhase (d + 1)) (fun v4 => ?_)
      · rfl
      refine Eq.trans (e_X6_endOf_34) ?_
      try simp only [mU_same, mU_mU]
      refine mw_oI ?_ (rr_X6_ofPhase (d + 1)) (fun v5 => ?_)
      · rfl
      refine Eq.trans (e_X6_endOf_40) ?_
      try simp only [mU_same, mU_mU]
      refine mw_ite (fun h7 => ?_) (fun h7 => ?_)
      · refine Eq.trans (e_X6_endOf_43) ?_
        try simp only [mU_same, mU_mU]
        refine mw_ite (fun h6 => ?_) (fun h6 => ?_)
        · exact rj_X6_endOf_52 d
        · exact rj_X6_endOf_48 d
      · exact rj_X6_endOf_52 d
noncomputable def P_X6_endOf (c : mC) (x1 : Int32) : (Option (Int32)) := (mWh none (B_X6_endOf_4 c x1) (0, 0))
theorem rr_X6_endOf (d : Nat) {X : mX} {g : mG} {x1 : Int32} {c : mC} : mCall mD X (d + 4) 192 [mr 7 20, mi x1] (mU g 7 c) = (wO (wI g 7 c)) (P_X6_endOf c x1) := by
  refine Eq.trans (mCall_eq (d := d + 3) rfl) ?_
  show mEv X (mCall mD X (d + 3)) 1 t_X6_endOf (mDrop t_X6_endOf 0) [some (mr 7 20), some (mi x1), none, none, none] [] (mU g 7 c) = _
  refine Eq.trans (e_X6_endOf_0) ?_
  try simp only [mU_same, mU_mU]
  exact Eq.trans hk_X6_endOf_4 (rl_X6_endOf_4 d)
theorem rr_X6_endOf_at (d : Nat) {X : mX} {g : mG} {x1 : Int32} : mCall mD X (d + 4) 192 [mr 7 20, mi x1] g = wO (wN g) (P_X6_endOf (g 7) x1) := by
  have h := rr_X6_endOf (X := X) d (g := g) (c := g 7) (x1 := x1)
  rw [mU_self] at h
  exact h.trans (wOI_self _ _ _)
theorem e_X6_isForced_0 {X : mX} {call : Nat → List mV → mG → mR} {g : mG} {x1 : Int32} : mEv X call 2 t_X6_isForced (mDrop t_X6_isForced 0) [some (mr 7 20), some (mi x1)] [] g = mAns (mEv X call 2 t_X6_isForced) (mDrop t_X6_isForced 5) [some (mr 7 20), some (mi x1)] [] (call 158 [mr 7 20, mi 2] g) := (mEv_3 _ _ _ _).trans rfl
theorem e_X6_isForced_5 {X : mX} {call : Nat → List mV → mG → mR} {g : mG} {x1 s0 : Int32} : mEv X call 2 t_X6_isForced (mDrop t_X6_isForced 5) [some (mr 7 20), some (mi x1)] [mi s0] g = if s0 ≤ 0 then mEv X call 2 t_X6_isForced (mDrop t_X6_isForced 41) [some (mr 7 20), some (mi x1)] [] g else mEv X call 2 t_X6_isForced (mDrop t_X6_isForced 8) [some (mr 7 20), some (mi x1)] [] g := (mEv_1 _ _ _ _).trans rfl
theorem e_X6_isForced_41 {X : mX} {call : Nat → List mV → mG → mR} {g : mG} {x1 : Int32} : mEv X call 2 t_X6_isForced (mDrop t_X6_isForced 41) [some (mr 7 20), some (mi x1)] [] g = mEv X call 2 t_X6_isForced (mDrop t_X6_isForced 42) [some (mr 7 20), some (mi x1)] [mi 0] g := (mEv_1 _ _ _ _).trans rfl
theorem e_X6_isForced_42 {X : mX} {call : Nat → List mV → mG → mR} {g : mG} {x1 s0 : Int32} : mEv X call 2 t_X6_isForced (mDrop t_X6_isForced 42) [some (mr 7 20), some (mi x1)] [mi s0] g = if (s0 : Int32) &&& 1 = s0 then some (some (mi s0), g) else none := (mEv_1 _ _ _ _).trans rfl
noncomputable def J_X6_isForced_41 (c : mC) : (Option (Int32)) := (some 0)
theorem rj_X6_isForced_41 (d : Nat) {X : mX} {g : mG} {x1 : Int32} {c : mC} : mEv X (mCall mD X (d + 4)) 2 t_X6_isForced (mDrop t_X6_isForced 41) [some (mr 7 20), some (mi x1)] [] (mU g 7 c) = (wO (wI g 7 c)) (J_X6_isForced_41 c) := by
  refine Eq.trans (e_X6_isForced_41) ?_
  try simp only [mU_same, mU_mU]
  refine Eq.trans (e_X6_isForced_42) ?_
  try simp only [mU_same, mU_mU]
  exact if_pos (by decide)
theorem e_X6_isForced_8 {X : mX} {call : Nat → List mV → mG → mR} {g : mG} {x1 : Int32} : mEv X call 2 t_X6_isForced (mDrop t_X6_isForced 8) [some (mr 7 20), some (mi x1)] [] g = mAns (mEv X call 2 t_X6_isForced) (mDrop t_X6_isForced 13) [some (mr 7 20), some (mi x1)] [] (call 158 [mr 7 20, mi 4] g) := (mEv_3 _ _ _ _).trans rfl
theorem e_X6_isForced_13 {X : mX} {call : Nat → List mV → mG → mR} {g : mG} {x1 s0 : Int32} : mEv X call 2 t_X6_isForced (mDrop t_X6_isForced 13) [some (mr 7 20), some (mi x1)] [mi s0] g = mAns (mEv X call 2 t_X6_isForced) (mDrop t_X6_isForced 18) [some (mr 7 20), some (mi x1)] [mi s0] (call 192 [mr 7 20, mi x1] g) := (mEv_3 _ _ _ _).trans rfl
theorem e_X6_isForced_18 {X : mX} {call : Nat → List mV → mG → mR} {g : mG} {x1 s0 s1 : Int32} : mEv X call 2 t_X6_isForced (mDrop t_X6_isForced 18) [some (mr 7 20), some (mi x1)] [mi s1, mi s0] g = mAns (mEv X call 2 t_X6_isForced) (mDrop t_X6_isForced 24) [some (mr 7 20), some (mi x1)] [mi (s0 - s1)] (call 158 [mr 7 20, mi 2] g) := (mEv_4 _ _ _ _).trans rfl
theorem e_X6_isForced_24 {X : mX} {call : Nat → List mV → mG → mR} {g : mG} {x1 s0 s1 : Int32} : mEv X call 2 t_X6_isForced (mDrop t_X6_isForced 24) [some (mr 7 20), some (mi x1)] [mi s1, mi s0] g = mAns (mEv X call 2 t_X6_isForced) (mDrop t_X6_isForced 27) [some (mr 7 20), some (mi x1)] [] (call 157 [mi s0, mi s1] g) := (mEv_1 _ _ _ _).trans rfl
theorem e_X6_isForced_27 {X : mX} {call : Nat → List mV → mG → mR} {g : mG} {x1 s0 : Int32} : mEv X call 2 t_X6_isForced (mDrop t_X6_isForced 27) [some (mr 7 20), some (mi x1)] [mi s0] g = mAns (mEv X call 2 t_X6_isForced) (mDrop t_X6_isForced 32) [some (mr 7 20), some (mi x1)] [mi s0] (call 158 [mr 7 20, mi 2] g) := (mEv_3 _ _ _ _).trans rfl
theorem e_X6_isForced_32 {X : mX} {call : Nat → List mV → mG → mR} {g : mG} {x1 s0 s1 : Int32} : mEv X call 2 t_X6_isForced (mDrop t_X6_isForced 32) [some (mr 7 20), some (mi x1)] [mi s1, mi s0] g = if (2 : Int32) = 0 then none else mEv X call 2 t_X6_isForced (mDrop t_X6_isForced 34) [some (mr 7 20), some (mi x1)] [mi (s1 / 2), mi s0] g := (mEv_2 _ _ _ _).trans rfl
theorem e_X6_isForced_34 {X : mX} {call : Nat → List mV → mG → mR} {g : mG} {x1 s0 s1 : Int32} : mEv X call 2 t_X6_isForced (mDrop t_X6_isForced 34) [some (mr 7 20), some (mi x1)] [mi s1, mi s0] g = if s1 ≤ s0 then mEv X call 2 t_X6_isForced (mDrop t_X6_isForced 41) [some (mr 7 20), some (mi x1)] [] g else mEv X call 2 t_X6_isForced (mDrop t_X6_isForced 37) [some (mr 7 20), some (mi x1)] [] g := (mEv_1 _ _ _ _).trans rfl
theorem e_X6_isForced_37 {X : mX} {call : Nat → List mV → mG → mR} {g : mG} {x1 : Int32} : mEv X call 2 t_X6_isForced (mDrop t_X6_isForced 37) [some (mr 7 20), some (mi x1)] [] g = mEv X call 2 t_X6_isForced (mDrop t_X6_isForced 42) [some (mr 7 20), some (mi x1)] [mi 1] g := (mEv_2 _ _ _ _).trans rfl
noncomputable def P_X6_isForced (c : mC) (x1 : Int32) : (Option (Int32)) := (mBo (α := Int32) none (P_X6_of c 2) (fun v1 => (if v1 ≤ 0 then (J_X6_isForced_41 c) else (mBo (α := Int32) none (P_X6_of c 4) (fun v2 => (mBo (α := Int32) none (P_X6_endOf c x1) (fun v3 => (mBo (α := Int32) none (P_X6_of c 2) (fun v4 => (mBo (α := Int32) none (P_X6_left (v2 - v3) v4) (fun v5 => (mBo (α := Int32) none (P_X6_of c 2) (fun v6 => (if (v6 / 2) ≤ v5 then (J_X6_isForced_41 c) else (some 1)))))))))))))))
theorem rr_X6_isForced (d : Nat) {X : mX} {g : mG} {x1 : Int32} {c : mC} : mCall mD X (d + 5) 193 [mr 7 20, mi x1] (mU g 7 c) = (wO (wI g 7 c)) (P_X6_isForced c x1) := by
  refine Eq.trans (mCall_eq (d := d + 4) rfl) ?_
  show mEv X (mCall mD X (d + 4)) 2 t_X6_isForced (mDrop t_X6_isForced 0) [some (mr 7 20), some (mi x1)] [] (mU g 7 c) = _
  refine Eq.trans (e_X6_isForced_0) ?_
  try simp only [mU_same, mU_mU]
  refine mw_oI ?_ (rr_X6_of (d + 3)) (fun v1 => ?_)
  · rfl
  refine Eq.trans (e_X6_isForced_5) ?_
  try simp only [mU_same, mU_mU]
  refine mw_ite (fun h8 => ?_) (fun h8 => ?_)
  · exact rj_X6_isForced_41 d
  · refine Eq.trans (e_X6_isForced_8) ?_
    try simp only [mU_same, mU_mU]
    refine mw_oI ?_ (rr_X6_of (d + 3)) (fun v2 => ?_)
    · rfl
    refine Eq.trans (e_X6_isForced_13) ?_
    try simp only [mU_same, mU_mU]
    refine mw_oI ?_ (rr_X6_endOf d) (fun v3 => ?_)
    · rfl
    refine Eq.trans (e_X6_isForced_18) ?_
    try simp only [mU_same, mU_mU]
    refine mw_oI ?_ (rr_X6_of (d + 3)) (fun v4 => ?_)
    · rfl
    refine Eq.trans (e_X6_isForced_24) ?_
    try simp only [mU_same, mU_mU]
    refine mw_oN ?_ (rr_X6_left (d + 3)) (fun v5 => ?_)
    · rfl
    refine Eq.trans (e_X6_isForced_27) ?_
    try simp only [mU_same, mU_mU]
    refine mw_oI ?_ (rr_X6_of (d + 3)) (fun v6 => ?_)
    · rfl
    refine Eq.trans (e_X6_isForced_32) ?_
    try simp only [mU_same, mU_mU]
    refine Eq.trans (if_neg (by decide)) ?_
    refine Eq.trans (e_X6_isForced_34) ?_
    try simp only [mU_same, mU_mU]
    refine mw_ite (fun h7 => ?_) (fun h7 => ?_)
    · exact rj_X6_isForced_41 d
    · refine Eq.trans (e_X6_isForced_37) ?_
      try simp only [mU_same, mU_mU]
      refine Eq.trans (e_X6_isForced_42) ?_
      try simp only [mU_same, mU_mU]
      exact if_pos (by decide)
theorem rr_X6_isForced_at (d : Nat) {X : mX} {g : mG} {x1 : Int32} : mCall mD X (d + 5) 193 [mr 7 20, mi x1] g = wO (wN g) (P_X6_isForced (g 7) x1) := by
  have h := rr_X6_isForced (X := X) d (g := g) (c := g 7) (x1 := x1)
  rw [mU_self] at h
  exact h.trans (wOI_self _ _ _)
theorem e_X6_isFirst_0 {X : mX} {call : Nat → List mV → mG → mR} {g : mG} {x1 : Int32} : mEv X call 2 t_X6_isFirst (mDrop t_X6_isFirst 0) [some (mr 7 20), some (mi x1), none, none] [] g = mAns (mEv X call 2 t_X6_isFirst) (mDrop t_X6_isFirst 6) [some (mr 7 20), some (mi x1), none, none] [] (call 165 [mr 7 20, mi x1, mi 0] g) := (mEv_4 _ _ _ _).trans rfl
theorem e_X6_isFirst_6 {X : mX} {call : Nat → List mV → mG → mR} {g : mG} {x1 s0 : Int32} : mEv X call 2 t_X6_isFirst (mDrop t_X6_isFirst 6) [some (mr 7 20), some (mi x1), none, none] [mi s0] g = mAns (mEv X call 2 t_X6_isFirst) (mDrop t_X6_isFirst 15) [some (mr 7 20), some (mi x1), some (mi s0), none] [] (call 173 [mr 7 20, mi s0, mi 0, mi (-1), mi 0] g) := (mEv_7 _ _ _ _).trans rfl
theorem e_X6_isFirst_15 {X : mX} {call : Nat → List mV → mG → mR} {g : mG} {x1 x2 s0 : Int32} : mEv X call 2 t_X6_isFirst (mDrop t_X6_isFirst 15) [some (mr 7 20), some (mi x1), some (mi x2), none] [mi s0] g = if s0 = (-1) then mEv X call 2 t_X6_isFirst (mDrop t_X6_isFirst 22) [some (mr 7 20), some (mi x1), some (mi x2), some (mi s0)] [mi x1] g else mEv X call 2 t_X6_isFirst (mDrop t_X6_isFirst 33) [some (mr 7 20), some (mi x1), some (mi x2), some (mi s0)] [mi x1] g := (mEv_5 _ _ _ _).trans rfl
theorem e_X6_isFirst_22 {X : mX} {call : Nat → List mV → mG → mR} {g : mG} {x1 x2 x3 s0 : Int32} : mEv X call 2 t_X6_isFirst (mDrop t_X6_isFirst 22) [some (mr 7 20), some (mi x1), some (mi x2), some (mi x3)] [mi s0] g = mAns (mEv X call 2 t_X6_isFirst) (mDrop t_X6_isFirst 30) [some (mr 7 20), some (mi x1), some (mi x2), some (mi x3)] [mi s0] (call 173 [mr 7 20, mi x2, mi 1, mi (-1), mi 0] g) := (mEv_6 _ _ _ _).trans rfl
theorem e_X6_isFirst_30 {X : mX} {call : Nat → List mV → mG → mR} {g : mG} {x1 x2 x3 s0 s1 : Int32} : mEv X call 2 t_X6_isFirst (mDrop t_X6_isFirst 30) [some (mr 7 20), some (mi x1), some (mi x2), some (mi x3)] [mi s1, mi s0] g = mEv X call 2 t_X6_isFirst (mDrop t_X6_isFirst 34) [some (mr 7 20), some (mi x1), some (mi x2), some (mi x3)] [mi s1, mi s0] g := (mEv_1 _ _ _ _).trans rfl
theorem e_X6_isFirst_34 {X : mX} {call : Nat → List mV → mG → mR} {g : mG} {x1 x2 x3 s0 s1 : Int32} : mEv X call 2 t_X6_isFirst (mDrop t_X6_isFirst 34) [some (mr 7 20), some (mi x1), some (mi x2), some (mi x3)] [mi s1, mi s0] g = if s0 = s1 then mEv X call 2 t_X6_isFirst (mDrop t_X6_isFirst 37) [some (mr 7 20), some (mi x1), some (mi x2), some (mi x3)] [] g else mEv X call 2 t_X6_isFirst (mDrop t_X6_isFirst 41) [some (mr 7 20), some (mi x1), some (mi x2), some (mi x3)] [] g := (mEv_1 _ _ _ _).trans rfl
theorem e_X6_isFirst_37 {X : mX} {call : Nat → List mV → mG → mR} {g : mG} {x1 x2 x3 : Int32} : mEv X call 2 t_X6_isFirst (mDrop t_X6_isFirst 37) [some (mr 7 20), some (mi x1), some (mi x2), some (mi x3)] [] g = mEv X call 2 t_X6_isFirst (mDrop t_X6_isFirst 42) [some (mr 7 20), some (mi x1), some (mi x2), some (mi x3)] [mi 1] g := (mEv_2 _ _ _ _).trans rfl
theorem e_X6_isFirst_42 {X : mX} {call : Nat → List mV → mG → mR} {g : mG} {x1 x2 x3 s0 : Int32} : mEv X call 2 t_X6_isFirst (mDrop t_X6_isFirst 42) [some (mr 7 20), some (mi x1), some (mi x2), some (mi x3)] [mi s0] g = if (s0 : Int32) &&& 1 = s0 then some (some (mi s0), g) else none := (mEv_1 _ _ _ _).trans rfl
theorem e_X6_isFirst_41 {X : mX} {call : Nat → List mV → mG → mR} {g : mG} {x1 x2 x3 : Int32} : mEv X call 2 t_X6_isFirst (mDrop t_X6_isFirst 41) [some (mr 7 20), some (mi x1), some (mi x2), some (mi x3)] [] g = mEv X call 2 t_X6_isFirst (mDrop t_X6_isFirst 42) [some (mr 7 20), some (mi x1), some (mi x2), some (mi x3)] [mi 0] g := (mEv_1 _ _ _ _).trans rfl
noncomputable def J_X6_isFirst_34 (c : mC) (s0 : Int32) (s1 : Int32) : (Option (Int32)) := (if s0 = s1 then (some 1) else (some 0))
theorem rj_X6_isFirst_34 (d : Nat) {X : mX} {g : mG} {x1 x2 x3 s0 s1 : Int32} {c : mC} : mEv X (mCall mD X (d + 6)) 2 t_X6_isFirst (mDrop t_X6_isFirst 34) [some (mr 7 20), some (mi x1), some (mi x2), some (mi x3)] [mi s1, mi s0] (mU g 7 c) = (wO (wI g 7 c)) (J_X6_isFirst_34 c s0 s1) := by
  refine Eq.trans (e_X6_isFirst_34) ?_
  try simp only [mU_same, mU_mU]
  refine mw_ite (fun h1 => ?_) (fun h1 => ?_)
  · refine Eq.trans (e_X6_isFirst_37) ?_
    try simp only [mU_same, mU_mU]
    refine Eq.trans (e_X6_isFirst_42) ?_
    try simp only [mU_same, mU_mU]
    exact if_pos (by decide)
  · refine Eq.trans (e_X6_isFirst_41) ?_
    try simp only [mU_same, mU_mU]
    refine Eq.trans (e_X6_isFirst_42) ?_
    try simp only [mU_same, mU_mU]
    exact if_pos (by decide)
theorem e_X6_isFirst_33 {X : mX} {call : Nat → List mV → mG → mR} {g : mG} {x1 x2 x3 s0 : Int32} : mEv X call 2 t_X6_isFirst (mDrop t_X6_isFirst 33) [some (mr 7 20), some (mi x1), some (mi x2), some (mi x3)] [mi s0] g = mEv X call 2 t_X6_isFirst (mDrop t_X6_isFirst 34) [some (mr 7 20), some (mi x1), some (mi x2), some (mi x3)] [mi x3, mi s0] g := (mEv_1 _ _ _ _).trans rfl
noncomputable def P_X6_isFirst (c : mC) (x1 : Int32) : (Option (Int32)) := (mBo (α := Int32) none (P_X6_ofPhase c x1 0) (fun v1 => (mBo (α := Int32) none (P_X6_firstOf c v1 0 (-1) 0) (fun v2 => (if v2 = (-1) then (mBo (α := Int32) none (P_X6_firstOf c v1 1 (-1) 0) (fun v3 => (J_X6_isFirst_34 c x1 v3))) else (J_X6_isFirst_34 c x1 v2))))))
theorem rr_X6_isFirst (d : Nat) {X : mX} {g : mG} {x1 : Int32} {c : mC} : mCall mD X (d + 7) 194 [mr 7 20, mi x1] (mU g 7 c) = (wO (wI g 7 c)) (P_X6_isFirst c x1) := by
  refine Eq.trans (mCall_eq (d := d + 6) rfl) ?_
  show mEv X (mCall mD X (d + 6)) 2 t_X6_isFirst (mDrop t_X6_isFirst 0) [some (mr 7 20), some (mi x1), none, none] [] (mU g 7 c) = _
  refine Eq.trans (e_X6_isFirst_0) ?_
  try simp only [mU_same, mU_mU]
  refine mw_oI ?_ (rr_X6_ofPhase (d + 4)) (fun v1 => ?_)
  · rfl
  refine Eq.trans (e_X6_isFirst_6) ?_
  try simp only [mU_same, mU_mU]
  refine mw_oI ?_ (rr_X6_firstOf d) (fun v2 => ?_)
  · rfl
  refine Eq.trans (e_X6_isFirst_15) ?_
  try simp only [mU_same, mU_mU]
  refine mw_ite (fun h4 => ?_) (fun h4 => ?_)
  · refine Eq.trans (e_X6_isFirst_22) ?_
    try simp only [mU_same, mU_mU]
    refine mw_oI ?_ (rr_X6_firstOf d) (fun v3 => ?_)
    · rfl
    refine Eq.trans (e_X6_isFirst_30) ?_
    try simp only [mU_same, mU_mU]
    exact rj_X6_isFirst_34 d
  · refine Eq.trans (e_X6_isFirst_33) ?_
    try simp only [mU_same, mU_mU]
    exact rj_X6_isFirst_34 d
theorem rr_X6_isFirst_at (d : Nat) {X : mX} {g : mG} {x1 : Int32} : mCall mD X (d + 7) 194 [mr 7 20, mi x1] g = wO (wN g) (P_X6_isFirst (g 7) x1) := by
  have h := rr_X6_isFirst (X := X) d (g := g) (c := g 7) (x1 := x1)
  rw [mU_self] at h
  exact h.trans (wOI_self _ _ _)
theorem e_X6_isDone_0 {X : mX} {call : Nat → List mV → mG → mR} {g : mG} {x1 : Int32} : mEv X call 2 t_X6_isDone (mDrop t_X6_isDone 0) [some (mr 7 20), some (mi x1), none, none] [] g = mAns (mEv X call 2 t_X6_isDone) (mDrop t_X6_isDone 5) [some (mr 7 20), some (mi x1), none, none] [] (call 181 [mr 7 20, mi x1] g) := (mEv_3 _ _ _ _).trans rfl
theorem e_X6_isDone_5 {X : mX} {call : Nat → List mV → mG → mR} {g : mG} {x1 s0 : Int32} : mEv X call 2 t_X6_isDone (mDrop t_X6_isDone 5) [some (mr 7 20), some (mi x1), none, none] [mi s0] g = if s0 = 0 then mEv X call 2 t_X6_isDone (mDrop t_X6_isDone 8) [some (mr 7 20), some (mi x1), none, none] [] g else mEv X call 2 t_X6_isDone (mDrop t_X6_isDone 10) [some (mr 7 20), some (mi x1), none, none] [] g := (mEv_1 _ _ _ _).trans rfl
theorem e_X6_isDone_8 {X : mX} {call : Nat → List mV → mG → mR} {g : mG} {x1 : Int32} : mEv X call 2 t_X6_isDone (mDrop t_X6_isDone 8) [some (mr 7 20), some (mi x1), none, none] [] g = if (0 : Int32) &&& 1 = 0 then some (some (mi 0), g) else none := (mEv_2 _ _ _ _).trans rfl
theorem e_X6_isDone_10 {X : mX} {call : Nat → List mV → mG → mR} {g : mG} {x1 : Int32} : mEv X call 2 t_X6_isDone (mDrop t_X6_isDone 10) [some (mr 7 20), some (mi x1), none, none] [] g = mAns (mEv X call 2 t_X6_isDone) (mDrop t_X6_isDone 16) [some (mr 7 20), some (mi x1), none, none] [] (call 163 [mr 7 20, mi x1, mi 0] g) := (mEv_4 _ _ _ _).trans rfl
theorem e_X6_isDone_16 {X : mX} {call : Nat → List mV → mG → mR} {g : mG} {x1 s0 : Int32} : mEv X call 2 t_X6_isDone (mDrop t_X6_isDone 16) [some (mr 7 20), some (mi x1), none, none] [mi s0] g = mAns (mEv X call 2 t_X6_isDone) (mDrop t_X6_isDone 23) [some (mr 7 20), some (mi x1), some (mi s0), none] [] (call 163 [mr 7 20, mi x1, mi 2] g) := (mEv_5 _ _ _ _).trans rfl
theorem e_X6_isDone_23 {X : mX} {call : Nat → List mV → mG → mR} {g : mG} {x1 x2 s0 : Int32} : mEv X call 2 t_X6_isDone (mDrop t_X6_isDone 23) [some (mr 7 20), some (mi x1), some (mi x2), none] [mi s0] g = mAns (mEv X call 2 t_X6_isDone) (mDrop t_X6_isDone 29) [some (mr 7 20), some (mi x1), some (mi x2), none] [mi s0] (call 167 [mr 7 20, mi x2, mi 0] g) := (mEv_4 _ _ _ _).trans rfl
theorem e_X6_isDone_29 {X : mX} {call : Nat → List mV → mG → mR} {g : mG} {x1 x2 s0 s1 : Int32} : mEv X call 2 t_X6_isDone (mDrop t_X6_isDone 29) [some (mr 7 20), some (mi x1), some (mi x2), none] [mi s1, mi s0] g = if s0 < s1 then mEv X call 2 t_X6_isDone (mDrop t_X6_isDone 42) [some (mr 7 20), some (mi x1), some (mi x2), none] [] g else mEv X call 2 t_X6_isDone (mDrop t_X6_isDone 32) [some (mr 7 20), some (mi x1), some (mi x2), none] [] g := (mEv_1 _ _ _ _).trans rfl
theorem e_X6_isDone_42 {X : mX} {call : Nat → List mV → mG → mR} {g : mG} {x1 x2 : Int32} : mEv X call 2 t_X6_isDone (mDrop t_X6_isDone 42) [some (mr 7 20), some (mi x1), some (mi x2), none] [] g = if (0 : Int32) &&& 1 = 0 then some (some (mi 0), g) else none := (mEv_2 _ _ _ _).trans rfl
noncomputable def J_X6_isDone_42 (c : mC) : (Option (Int32)) := (some 0)
theorem rj_X6_isDone_42 (d : Nat) {X : mX} {g : mG} {x1 x2 : Int32} {c : mC} : mEv X (mCall mD X (d + 7)) 2 t_X6_isDone (mDrop t_X6_isDone 42) [some (mr 7 20), some (mi x1), some (mi x2), none] [] (mU g 7 c) = (wO (wI g 7 c)) (J_X6_isDone_42 c) := by
  refine Eq.trans (e_X6_isDone_42) ?_
  try simp only [mU_same, mU_mU]
  exact if_pos (by decide)
theorem e_X6_isDone_32 {X : mX} {call : Nat → List mV → mG → mR} {g : mG} {x1 x2 : Int32} : mEv X call 2 t_X6_isDone (mDrop t_X6_isDone 32) [some (mr 7 20), some (mi x1), some (mi x2), none] [] g = mAns (mEv X call 2 t_X6_isDone) (mDrop t_X6_isDone 39) [some (mr 7 20), some (mi x1), some (mi x2), none] [] (call 163 [mr 7 20, mi x1, mi 6] g) := (mEv_4 _ _ _ _).trans rfl
theorem e_X6_isDone_39 {X : mX} {call : Nat → List mV → mG → mR} {g : mG} {x1 x2 s0 : Int32} : mEv X call 2 t_X6_isDone (mDrop t_X6_isDone 39) [some (mr 7 20), some (mi x1), some (mi x2), none] [mi s0] g = if s0 = 0 then mEv X call 2 t_X6_isDone (mDrop t_X6_isDone 44) [some (mr 7 20), some (mi x1), some (mi x2), none] [] g else mEv X call 2 t_X6_isDone (mDrop t_X6_isDone 42) [some (mr 7 20), some (mi x1), some (mi x2), none] [] g := (mEv_1 _ _ _ _).trans rfl
theorem e_X6_isDone_44 {X : mX} {call : Nat → List mV → mG → mR} {g : mG} {x1 x2 : Int32} : mEv X call 2 t_X6_isDone (mDrop t_X6_isDone 44) [some (mr 7 20), some (mi x1), some (mi x2), none] [] g = mAns (mEv X call 2 t_X6_isDone) (mDrop t_X6_isDone 50) [some (mr 7 20), some (mi x1), some (mi x2), none] [] (call 163 [mr 7 20, mi x1, mi 4] g) := (mEv_4 _ _ _ _).trans rfl
theorem e_X6_isDone_50 {X : mX} {call : Nat → List mV → mG → mR} {g : mG} {x1 x2 s0 : Int32} : mEv X call 2 t_X6_isDone (mDrop t_X6_isDone 50) [some (mr 7 20), some (mi x1), some (mi x2), none] [mi s0] g = mAns (mEv X call 2 t_X6_isDone) (mDrop t_X6_isDone 56) [some (mr 7 20), some (mi x1), some (mi x2), none] [mi s0] (call 167 [mr 7 20, mi x2, mi 1] g) := (mEv_4 _ _ _ _).trans rfl
theorem e_X6_isDone_56 {X : mX} {call : Nat → List mV → mG → mR} {g : mG} {x1 x2 s0 s1 : Int32} : mEv X call 2 t_X6_isDone (mDrop t_X6_isDone 56) [some (mr 7 20), some (mi x1), some (mi x2), none] [mi s1, mi s0] g = if s0 < s1 then mEv X call 2 t_X6_isDone (mDrop t_X6_isDone 63) [some (mr 7 20), some (mi x1), some (mi x2), none] [] g else mEv X call 2 t_X6_isDone (mDrop t_X6_isDone 59) [some (mr 7 20), some (mi x1), some (mi x2), none] [] g := (mEv_1 _ _ _ _).trans rfl
theorem e_X6_isDone_63 {X : mX} {call : Nat → List mV → mG → mR} {g : mG} {x1 x2 : Int32} : mEv X call 2 t_X6_isDone (mDrop t_X6_isDone 63) [some (mr 7 20), some (mi x1), some (mi x2), none] [] g = mEv X call 2 t_X6_isDone (mDrop t_X6_isDone 64) [some (mr 7 20), some (mi x1), some (mi x2), none] [mi 0] g := (mEv_1 _ _ _ _).trans rfl
theorem e_X6_isDone_64 {X : mX} {call : Nat → List mV → mG → mR} {g : mG} {x1 x2 s0 : Int32} : mEv X call 2 t_X6_isDone (mDrop t_X6_isDone 64) [some (mr 7 20), some (mi x1), some (mi x2), none] [mi s0] g = mAns (mEv X call 2 t_X6_isDone) (mDrop t_X6_isDone 70) [some (mr 7 20), some (mi x1), some (mi x2), some (mi s0)] [] (call 158 [mr 7 20, mi 2] g) := (mEv_4 _ _ _ _).trans rfl
theorem e_X6_isDone_70 {X : mX} {call : Nat → List mV → mG → mR} {g : mG} {x1 x2 x3 s0 : Int32} : mEv X call 2 t_X6_isDone (mDrop t_X6_isDone 70) [some (mr 7 20), some (mi x1), some (mi x2), some (mi x3)] [mi s0] g = if s0 ≤ 0 then mEv X call 2 t_X6_isDone (mDrop t_X6_isDone 99) [some (mr 7 20), some (mi x1), some (mi x2), some (mi x3)] [] g else mEv X call 2 t_X6_isDone (mDrop t_X6_isDone 73) [some (mr 7 20), some (mi x1), some (mi x2), some (mi x3)] [] g := (mEv_1 _ _ _ _).trans rfl
theorem e_X6_isDone_99 {X : mX} {call : Nat → List mV → mG → mR} {g : mG} {x1 x2 x3 : Int32} : mEv X call 2 t_X6_isDone (mDrop t_X6_isDone 99) [some (mr 7 20), some (mi x1), some (mi x2), some (mi x3)] [] g = if x3 = 0 then mEv X call 2 t_X6_isDone (mDrop t_X6_isDone 114) [some (mr 7 20), some (mi x1), some (mi x2), some (mi x3)] [] g else mEv X call 2 t_X6_isDone (mDrop t_X6_isDone 103) [some (mr 7 20), some (mi x1), some (mi x2), some (mi x3)] [] g := (mEv_2 _ _ _ _).trans rfl
theorem e_X6_isDone_114 {X : mX} {call : Nat → List mV → mG → mR} {g : mG} {x1 x2 x3 : Int32} : mEv X call 2 t_X6_isDone (mDrop t_X6_isDone 114) [some (mr 7 20), some (mi x1), some (mi x2), some (mi x3)] [] g = mAns (mEv X call 2 t_X6_isDone) (mDrop t_X6_isDone 120) [some (mr 7 20), some (mi x1), some (mi x2), some (mi x3)] [] (call 163 [mr 7 20, mi x1, mi 5] g) := (mEv_4 _ _ _ _).trans rfl
theorem e_X6_isDone_120 {X : mX} {call : Nat → List mV → mG → mR} {g : mG} {x1 x2 x3 s0 : Int32} : mEv X call 2 t_X6_isDone (mDrop t_X6_isDone 120) [some (mr 7 20), some (mi x1), some (mi x2), some (mi x3)] [mi s0] g = mAns (mEv X call 2 t_X6_isDone) (mDrop t_X6_isDone 126) [some (mr 7 20), some (mi x1), some (mi x2), some (mi x3)] [mi s0] (call 167 [mr 7 20, mi x2, mi 2] g) := (mEv_4 _ _ _ _).trans rfl
theorem e_X6_isDone_126 {X : mX} {call : Nat → List mV → mG → mR} {g : mG} {x1 x2 x3 s0 s1 : Int32} : mEv X call 2 t_X6_isDone (mDrop t_X6_isDone 126) [some (mr 7 20), some (mi x1), some (mi x2), some (mi x3)] [mi s1, mi s0] g = if s0 < s1 then mEv X call 2 t_X6_isDone (mDrop t_X6_isDone 133) [some (mr 7 20), some (mi x1), some (mi x2), some (mi x3)] [] g else mEv X call 2 t_X6_isDone (mDrop t_X6_isDone 129) [some (mr 7 20), some (mi x1), some (mi x2), some (mi x3)] [] g := (mEv_1 _ _ _ _).trans rfl
theorem e_X6_isDone_133 {X : mX} {call : Nat → List mV → mG → mR} {g : mG} {x1 x2 x3 : Int32} : mEv X call 2 t_X6_isDone (mDrop t_X6_isDone 133) [some (mr 7 20), some (mi x1), some (mi x2), some (mi x3)] [] g = mEv X call 2 t_X6_isDone (mDrop t_X6_isDone 134) [some (mr 7 20), some (mi x1), some (mi x2), some (mi x3)] [mi 0] g := (mEv_1 _ _ _ _).trans rfl
theorem e_X6_isDone_134 {X : mX} {call : Nat → List mV → mG → mR} {g : mG} {x1 x2 x3 s0 : Int32} : mEv X call 2 t_X6_isDone (mDrop t_X6_isDone 134) [some (mr 7 20), some (mi x1), some (mi x2), some (mi x3)] [mi s0] g = if (s0 : Int32) &&& 1 = s0 then some (some (mi s0), g) else none := (mEv_1 _ _ _ _).trans rfl
theorem e_X6_isDone_129 {X : mX} {call : Nat → List mV → mG → mR} {g : mG} {x1 x2 x3 : Int32} : mEv X call 2 t_X6_isDone (mDrop t_X6_isDone 129) [some (mr 7 20), some (mi x1), some (mi x2), some (mi x3)] [] g = mEv X call 2 t_X6_isDone (mDrop t_X6_isDone 134) [some (mr 7 20), some (mi x1), some (mi x2), some (mi x3)] [mi 1] g := (mEv_2 _ _ _ _).trans rfl
noncomputable def J_X6_isDone_129 (c : mC) : (Option (Int32)) := (some 1)
theorem rj_X6_isDone_129 (d : Nat) {X : mX} {g : mG} {x1 x2 x3 : Int32} {c : mC} : mEv X (mCall mD X (d + 7)) 2 t_X6_isDone (mDrop t_X6_isDone 129) [some (mr 7 20), some (mi x1), some (mi x2), some (mi x3)] [] (mU g 7 c) = (wO (wI g 7 c)) (J_X6_isDone_129 c) := by
  refine Eq.trans (e_X6_isDone_129) ?_
  try simp only [mU_same, mU_mU]
  refine Eq.trans (e_X6_isDone_134) ?_
  try simp only [mU_same, mU_mU]
  exact if_pos (by decide)
noncomputable def J_X6_isDone_114 (c : mC) (x1 : Int32) (x2 : Int32) : (Option (Int32)) := (mBo (α := Int32) none (P_X6_ofRing c x1 5) (fun v1 => (mBo (α := Int32) none (P_X6_mark c x2 2) (fun v2 => (if v1 < v2 then (some 0) else (J_X6_isDone_129 c))))))
theorem rj_X6_isDone_114 (d : Nat) {X : mX} {g : mG} {x1 x2 x3 : Int32} {c : mC} : mEv X (mCall mD X (d + 7)) 2 t_X6_isDone (mDrop t_X6_isDone 114) [some (mr 7 20), some (mi x1), some (mi x2), some (mi x3)] [] (mU g 7 c) = (wO (wI g 7 c)) (J_X6_isDone_114 c x1 x2) := by
  refine Eq.trans (e_X6_isDone_114) ?_
  try simp only [mU_same, mU_mU]
  refine mw_oI ?_ (rr_X6_ofRing (d + 5)) (fun v1 => ?_)
  · rfl
  refine Eq.trans (e_X6_isDone_120) ?_
  try simp only [mU_same, mU_mU]
  refine mw_oI ?_ (rr_X6_mark (d + 4)) (fun v2 => ?_)
  · rfl
  refine Eq.trans (e_X6_isDone_126) ?_
  try simp only [mU_same, mU_mU]
  refine mw_ite (fun h3 => ?_) (fun h3 => ?_)
  · refine Eq.trans (e_X6_isDone_133) ?_
    try simp only [mU_same, mU_mU]
    refine Eq.trans (e_X6_isDone_134) ?_
    try simp only [mU_same, mU_mU]
    exact if_pos (by decide)
  · exact rj_X6_isDone_129 d
theorem e_X6_isDone_103 {X : mX} {call : Nat → List mV → mG → mR} {g : mG} {x1 x2 x3 : Int32} : mEv X call 2 t_X6_isDone (mDrop t_X6_isDone 103) [some (mr 7 20), some (mi x1), some (mi x2), some (mi x3)] [] g = mAns (mEv X call 2 t_X6_isDone) (mDrop t_X6_isDone 110) [some (mr 7 20), some (mi x1), some (mi x2), some (mi x3)] [] (call 167 [mr 7 20, mi x2, mi 7] g) := (mEv_4 _ _ _ _).trans rfl
theorem e_X6_isDone_110 {X : mX} {call : Nat → List mV → mG → mR} {g : mG} {x1 x2 x3 s0 : Int32} : mEv X call 2 t_X6_isDone (mDrop t_X6_isDone 110) [some (mr 7 20), some (mi x1), some (mi x2), some (mi x3)] [mi s0] g = if s0 = 2 then mEv X call 2 t_X6_isDone (mDrop t_X6_isDone 114) [some (mr 7 20), some (mi x1), some (mi x2), some (mi x3)] [] g else mEv X call 2 t_X6_isDone (mDrop t_X6_isDone 129) [some (mr 7 20), some (mi x1), some (mi x2), some (mi x3)] [] g := (mEv_2 _ _ _ _).trans rfl
theorem e_X6_isDone_73 {X : mX} {call : Nat → List mV → mG → mR} {g : mG} {x1 x2 x3 : Int32} : mEv X call 2 t_X6_isDone (mDrop t_X6_isDone 73) [some (mr 7 20), some (mi x1), some (mi x2), some (mi x3)] [] g = mAns (mEv X call 2 t_X6_isDone) (mDrop t_X6_isDone 78) [some (mr 7 20), some (mi x1), some (mi x2), some (mi x3)] [] (call 193 [mr 7 20, mi x2] g) := (mEv_3 _ _ _ _).trans rfl
theorem e_X6_isDone_78 {X : mX} {call : Nat → List mV → mG → mR} {g : mG} {x1 x2 x3 s0 : Int32} : mEv X call 2 t_X6_isDone (mDrop t_X6_isDone 78) [some (mr 7 20), some (mi x1), some (mi x2), some (mi x3)] [mi s0] g = if s0 = 0 then mEv X call 2 t_X6_isDone (mDrop t_X6_isDone 81) [some (mr 7 20), some (mi x1), some (mi x2), some (mi x3)] [] g else mEv X call 2 t_X6_isDone (mDrop t_X6_isDone 93) [some (mr 7 20), some (mi x1), some (mi x2), some (mi x3)] [] g := (mEv_1 _ _ _ _).trans rfl
theorem e_X6_isDone_81 {X : mX} {call : Nat → List mV → mG → mR} {g : mG} {x1 x2 x3 : Int32} : mEv X call 2 t_X6_isDone (mDrop t_X6_isDone 81) [some (mr 7 20), some (mi x1), some (mi x2), some (mi x3)] [] g = mAns (mEv X call 2 t_X6_isDone) (mDrop t_X6_isDone 86) [some (mr 7 20), some (mi x1), some (mi x2), some (mi x3)] [] (call 194 [mr 7 20, mi x2] g) := (mEv_3 _ _ _ _).trans rfl
theorem e_X6_isDone_86 {X : mX} {call : Nat → List mV → mG → mR} {g : mG} {x1 x2 x3 s0 : Int32} : mEv X call 2 t_X6_isDone (mDrop t_X6_isDone 86) [some (mr 7 20), some (mi x1), some (mi x2), some (mi x3)] [mi s0] g = if s0 = 0 then mEv X call 2 t_X6_isDone (mDrop t_X6_isDone 89) [some (mr 7 20), some (mi x1), some (mi x2), some (mi x3)] [] g else mEv X call 2 t_X6_isDone (mDrop t_X6_isDone 97) [some (mr 7 20), some (mi x1), some (mi x2), some (mi x3)] [] g := (mEv_1 _ _ _ _).trans rfl
theorem e_X6_isDone_89 {X : mX} {call : Nat → List mV → mG → mR} {g : mG} {x1 x2 x3 : Int32} : mEv X call 2 t_X6_isDone (mDrop t_X6_isDone 89) [some (mr 7 20), some (mi x1), some (mi x2), some (mi x3)] [] g = if x3 = 0 then mEv X call 2 t_X6_isDone (mDrop t_X6_isDone 97) [some (mr 7 20), some (mi x1), some (mi x2), some (mi x3)] [] g else mEv X call 2 t_X6_isDone (mDrop t_X6_isDone 93) [some (mr 7 20), some (mi x1), some (mi x2), some (mi x3)] [] g := (mEv_2 _ _ _ _).trans rfl
theorem e_X6_isDone_97 {X : mX} {call : Nat → List mV → mG → mR} {g : mG} {x1 x2 x3 : Int32} : mEv X call 2 t_X6_isDone (mDrop t_X6_isDone 97) [some (mr 7 20), some (mi x1), some (mi x2), some (mi x3)] [] g = mEv X call 2 t_X6_isDone (mDrop t_X6_isDone 98) [some (mr 7 20), some (mi x1), some (mi x2), some (mi x3)] [mi 0] g := (mEv_1 _ _ _ _).trans rfl
theorem e_X6_isDone_98 {X : mX} {call : Nat → List mV → mG → mR} {g : mG} {x1 x2 x3 s0 : Int32} : mEv X call 2 t_X6_isDone (mDrop t_X6_isDone 98) [some (mr 7 20), some (mi x1), some (mi x2), some (mi x3)] [mi s0] g = if (s0 : Int32) &&& 1 = s0 then some (some (mi s0), g) else none := (mEv_1 _ _ _ _).trans rfl
noncomputable def J_X6_isDone_97 (c : mC) : (Option (Int32)) := (some 0)
theorem rj_X6_isDone_97 (d : Nat) {X : mX} {g : mG} {x1 x2 x3 : Int32} {c : mC} : mEv X (mCall mD X (d + 7)) 2 t_X6_isDone (mDrop t_X6_isDone 97) [some (mr 7 20), some (mi x1), some (mi x2), some (mi x3)] [] (mU g 7 c) = (wO (wI g 7 c)) (J_X6_isDone_97 c) := by
  refine Eq.trans (e_X6_isDone_97) ?_
  try simp only [mU_same, mU_mU]
  refine Eq.trans (e_X6_isDone_98) ?_
  try simp only [mU_same, mU_mU]
  exact if_pos (by decide)
theorem e_X6_isDone_93 {X : mX} {call : Nat → List mV → mG → mR} {g : mG} {x1 x2 x3 : Int32} : mEv X call 2 t_X6_isDone (mDrop t_X6_isDone 93) [some (mr 7 20), some (mi x1), some (mi x2), some (mi x3)] [] g = mEv X call 2 t_X6_isDone (mDrop t_X6_isDone 98) [some (mr 7 20), some (mi x1), some (mi x2), some (mi x3)] [mi 1] g := (mEv_2 _ _ _ _).trans rfl
noncomputable def J_X6_isDone_93 (c : mC) : (Option (Int32)) := (some 1)
theorem rj_X6_isDone_93 (d : Nat) {X : mX} {g : mG} {x1 x2 x3 : Int32} {c : mC} : mEv X (mCall mD X (d + 7)) 2 t_X6_isDone (mDrop t_X6_isDone 93) [some (mr 7 20), some (mi x1), some (mi x2), some (mi x3)] [] (mU g 7 c) = (wO (wI g 7 c)) (J_X6_isDone_93 c) := by
  refine Eq.trans (e_X6_isDone_93) ?_
  try simp only [mU_same, mU_mU]
  refine Eq.trans (e_X6_isDone_98) ?_
  try simp only [mU_same, mU_mU]
  exact if_pos (by decide)
noncomputable def J_X6_isDone_64 (c : mC) (x1 : Int32) (x2 : Int32) (s0 : Int32) : (Option (Int32)) := (mBo (α := Int32) none (P_X6_of c 2) (fun v1 => (if v1 ≤ 0 then (if s0 = 0 then (J_X6_isDone_114 c x1 x2) else (mBo (α := Int32) none (P_X6_mark c x2 7) (fun v2 => (if v2 = 2 then (J_X6_isDone_114 c x1 x2) else (J_X6_isDone_129 c))))) else (mBo (α := Int32) none (P_X6_isForced c x2) (fun v5 => (if v5 = 0 then (mBo (α := Int32) none (P_X6_isFirst c x2) (fun v6 => (if v6 = 0 then (if s0 = 0 then (J_X6_isDone_97 c) else (J_X6_isDone_93 c)) else (J_X6_isDone_97 c)))) else (J_X6_isDone_93 c)))))))
theorem rj_X6_isDone_64 (d : Nat) {X : mX} {g : mG} {x1 x2 s0 : Int32} {c : mC} : mEv X (mCall mD X (d + 7)) 2 t_X6_isDone (mDrop t_X6_isDone 64) [some (mr 7 20), some (mi x1), some (mi x2), none] [mi s0] (mU g 7 c) = (wO (wI g 7 c)) (J_X6_isDone_64 c x1 x2 s0) := by
  refine Eq.trans (e_X6_isDone_64) ?_
  try simp only [mU_same, mU_mU]
  refine mw_oI ?_ (rr_X6_of (d + 6)) (fun v1 => ?_)
  · rfl
  refine Eq.trans (e_X6_isDone_70) ?_
  try simp only [mU_same, mU_mU]
  refine mw_ite (fun h10 => ?_) (fun h10 => ?_)
  · refine Eq.trans (e_X6_isDone_99) ?_
    try simp only [mU_same, mU_mU]
    refine mw_ite (fun h4 => ?_) (fun h4 => ?_)
    · exact rj_X6_isDone_114 d
    · refine Eq.trans (e_X6_isDone_103) ?_
      try simp only [mU_same, mU_mU]
      refine mw_oI ?_ (rr_X6_mark (d + 4)) (fun v2 => ?_)
      · rfl
      refine Eq.trans (e_X6_isDone_110) ?_
      try simp only [mU_same, mU_mU]
      refine mw_ite (fun h3 => ?_) (fun h3 => ?_)
      · exact rj_X6_isDone_114 d
      · exact rj_X6_isDone_129 d
  · refine Eq.trans (e_X6_isDone_73) ?_
    try simp only [mU_same, mU_mU]
    refine mw_oZ ?_ (rr_X6_isForced (d + 2)) rfl (fun v5 hv5 => ?_)
    · rfl
    refine Eq.trans (e_X6_isDone_78) ?_
    try simp only [mU_same, mU_mU]
    refine mw_ite (fun h9 => ?_) (fun h9 => ?_)
    · refine Eq.trans (e_X6_isDone_81) ?_
      try simp only [mU_same, mU_mU]
      refine mw_oZ ?_ (rr_X6_isFirst d) rfl (fun v6 hv6 => ?_)
      · rfl
      refine Eq.trans (e_X6_isDone_86) ?_
      try simp only [mU_same, mU_mU]
      refine mw_ite (fun h8 => ?_) (fun h8 => ?_)
      · refine Eq.trans (e_X6_isDone_89) ?_
        try simp only [mU_same, mU_mU]
        refine mw_ite (fun h7 => ?_) (fun h7 => ?_)
        · exact rj_X6_isDone_97 d
        · exact rj_X6_isDone_93 d
      · exact rj_X6_isDone_97 d
    · exact rj_X6_isDone_93 d
theorem e_X6_isDone_59 {X : mX} {call : Nat → List mV → mG → mR} {g : mG} {x1 x2 : Int32} : mEv X call 2 t_X6_isDone (mDrop t_X6_isDone 59) [some (mr 7 20), some (mi x1), some (mi x2), none] [] g = mEv X call 2 t_X6_isDone (mDrop t_X6_isDone 64) [some (mr 7 20), some (mi x1), some (mi x2), none] [mi 1] g := (mEv_2 _ _ _ _).trans rfl
noncomputable def P_X6_isDone (c : mC) (x1 : Int32) : (Option (Int32)) := (mBo (α := Int32) none (P_X6_isGreen c x1) (fun v1 => (if v1 = 0 then (some 0) else (mBo (α := Int32) none (P_X6_ofRing c x1 0) (fun v2 => (mBo (α := Int32) none (P_X6_ofRing c x1 2) (fun v3 => (mBo (α := Int32) none (P_X6_mark c v2 0) (fun v4 => (if v3 < v4 then (J_X6_isDone_42 c) else (mBo (α := Int32) none (P_X6_ofRing c x1 6) (fun v5 => (if v5 = 0 then (mBo (α := Int32) none (P_X6_ofRing c x1 4) (fun v6 => (mBo (α := Int32) none (P_X6_mark c v2 1) (fun v7 => (if v6 < v7 then (J_X6_isDone_64 c x1 v2 0) else (J_X6_isDone_64 c x1 v2 1)))))) else (J_X6_isDone_42 c))))))))))))))
theorem rr_X6_isDone (d : Nat) {X : mX} {g : mG} {x1 : Int32} {c : mC} : mCall mD X (d + 8) 195 [mr 7 20, mi x1] (mU g 7 c) = (wO (wI g 7 c)) (P_X6_isDone c x1) := by
  refine Eq.trans (mCall_eq (d := d + 7) rfl) ?_
  show mEv X (mCall mD X (d + 7)) 2 t_X6_isDone (mDrop t_X6_isDone 0) [some (mr 7 20), some (mi x1), none, none] [] (mU g 7 c) = _
  refine Eq.trans (e_X6_isDone_0) ?_
  try simp only [mU_same, mU_mU]
  refine mw_oZ ?_ (rr_X6_isGreen (d + 4)) rfl (fun v1 hv1 => ?_)
  · rfl
  refine Eq.trans (e_X6_isDone_5) ?_
  try simp only [mU_same, mU_mU]
  refine mw_ite (fun h11 => ?_) (fun h11 => ?_)
  · refine Eq.trans (e_X6_isDone_8) ?_
    try simp only [mU_same, mU_mU]
    exact if_pos (by decide)
  · refine Eq.trans (e_X6_isDone_10) ?_
    try simp only [mU_same, mU_mU]
    refine mw_oI ?_ (rr_X6_ofRing (d + 5)) (fun v2 => ?_)
    · rfl
    refine Eq.trans (e_X6_isDone_16) ?_
    try simp only [mU_same, mU_mU]
    refine mw_oI ?_ (rr_X6_ofRing (d + 5)) (fun v3 => ?_)
    · rfl
    refine Eq.trans (e_X6_isDone_23) ?_
    try simp only [mU_same, mU_mU]
    refine mw_oI ?_ (rr_X6_mark (d + 4)) (fun v4 => ?_)
    · rfl
    refine Eq.trans (e_X6_isDone_29) ?_
    try simp only [mU_same, mU_mU]
    refine mw_ite (fun h10 => ?_) (fun h10 => ?_)
    · exact rj_X6_isDone_42 d
    · refine Eq.trans (e_X6_isDone_32) ?_
      try simp only [mU_same, mU_mU]
      refine mw_oI ?_ (rr_X6_ofRing (d + 5)) (fun v5 => ?_)
      · rfl
      refine Eq.trans (e_X6_isDone_39) ?_
      try simp only [mU_same, mU_mU]
      refine mw_ite (fun h9 => ?_) (fun h9 => ?_)
      · refine Eq.trans (e_X6_isDone_44) ?_
        try simp only [mU_same, mU_mU]
        refine mw_oI ?_ (rr_X6_ofRing (d + 5)) (fun v6 => ?_)
        · rfl
        refine Eq.trans (e_X6_isDone_50) ?_
        try simp only [mU_same, mU_mU]
        refine mw_oI ?_ (rr_X6_mark (d + 4)) (fun v7 => ?_)
        · rfl
        refine Eq.trans (e_X6_isDone_56) ?_
        try simp only [mU_same, mU_mU]
        refine mw_ite (fun h8 => ?_) (fun h8 => ?_)
        · refine Eq.trans (e_X6_isDone_63) ?_
          try simp only [mU_same, mU_mU]
          exact rj_X6_isDone_64 d
        · refine Eq.trans (e_X6_isDone_59) ?_
          try simp only [mU_same, mU_mU]
          exact rj_X6_isDone_64 d
      · exact rj_X6_isDone_42 d
theorem rr_X6_isDone_at (d : Nat) {X : mX} {g : mG} {x1 : Int32} : mCall mD X (d + 8) 195 [mr 7 20, mi x1] g = wO (wN g) (P_X6_isDone (g 7) x1) := by
  have h := rr_X6_isDone (X := X) d (g := g) (c := g 7) (x1 := x1)
  rw [mU_self] at h
  exact h.trans (wOI_self _ _ _)
theorem e_X6_goesOn_0 {X : mX} {call : Nat → List mV → mG → mR} {g : mG} : mEv X call 0 t_X6_goesOn (mDrop t_X6_goesOn 0) [some (mr 7 20), none, none, none, none, none, none, none] [] g = mEv X call 0 t_X6_goesOn (mDrop t_X6_goesOn 12) [some (mr 7 20), some (mi 0), some (mi 0), some (mi 1), some (mi 0), some (mi 0), none, none] [] g := (mEv_10 _ _ _ _).trans rfl
theorem hk_X6_goesOn_12 {X : mX} {call : Nat → List mV → mG → mR} {g : mG} {x1 x2 x3 x4 x5 : Int32} {k6 k7 : Option mV} : mEv X call 0 t_X6_goesOn (mDrop t_X6_goesOn 12) [some (mr 7 20), some (mi x1), some (mi x2), some (mi x3), some (mi x4), some (mi x5), k6, k7] [] g = mEv X call 0 t_X6_goesOn (mDrop t_X6_goesOn 12) [some (mr 7 20), some (mi x1), some (mi x2), some (mi x3), some (mi x4), some (mi x5), none, none] [] g := Eq.trans (mEv_1 _ _ _ _) (Eq.symm (Eq.trans (mEv_1 _ _ _ _) rfl))
theorem e_X6_goesOn_12 {X : mX} {call : Nat → List mV → mG → mR} {g : mG} {x1 x2 x3 x4 x5 : Int32} {u6 u7 : Option mV} : mEv X call 0 t_X6_goesOn (mDrop t_X6_goesOn 12) [some (mr 7 20), some (mi x1), some (mi x2), some (mi x3), some (mi x4), some (mi x5), u6, u7] [] g = if 2 ≤ x5 then mEv X call 0 t_X6_goesOn (mDrop t_X6_goesOn 120) [some (mr 7 20), some (mi x1), some (mi x2), some (mi x3), some (mi x4), some (mi x5), none, none] [] g else mEv X call 0 t_X6_goesOn (mDrop t_X6_goesOn 18) [some (mr 7 20), some (mi x1), some (mi x2), some (mi x3), some (mi x4), some (mi x5), none, none] [] g := (mEv_3 _ _ _ _).trans rfl
theorem e_X6_goesOn_120 {X : mX} {call : Nat → List mV → mG → mR} {g : mG} {x1 x2 x3 x4 x5 : Int32} {u6 u7 : Option mV} : mEv X call 0 t_X6_goesOn (mDrop t_X6_goesOn 120) [some (mr 7 20), some (mi x1), some (mi x2), some (mi x3), some (mi x4), some (mi x5), u6, u7] [] g = if x1 = 0 then mEv X call 0 t_X6_goesOn (mDrop t_X6_goesOn 124) [some (mr 7 20), some (mi x1), some (mi x2), some (mi x3), some (mi x4), some (mi x5), u6, u7] [] g else mEv X call 0 t_X6_goesOn (mDrop t_X6_goesOn 132) [some (mr 7 20), some (mi x1), some (mi x2), some (mi x3), some (mi x4), some (mi x5), u6, u7] [] g := (mEv_2 _ _ _ _).trans rfl
theorem e_X6_goesOn_124 {X : mX} {call : Nat → List mV → mG → mR} {g : mG} {x1 x2 x3 x4 x5 : Int32} {u6 u7 : Option mV} : mEv X call 0 t_X6_goesOn (mDrop t_X6_goesOn 124) [some (mr 7 20), some (mi x1), some (mi x2), some (mi x3), some (mi x4), some (mi x5), u6, u7] [] g = if x2 = 0 then mEv X call 0 t_X6_goesOn (mDrop t_X6_goesOn 132) [some (mr 7 20), some (mi x1), some (mi x2), some (mi x3), some (mi x4), some (mi x5), u6, u7] [] g else mEv X call 0 t_X6_goesOn (mDrop t_X6_goesOn 128) [some (mr 7 20), some (mi x1), some (mi x2), some (mi x3), some (mi x4), some (mi x5), u6, u7] [] g := (mEv_2 _ _ _ _).trans rfl
theorem e_X6_goesOn_132 {X : mX} {call : Nat → List mV → mG → mR} {g : mG} {x1 x2 x3 x4 x5 : Int32} {u6 u7 : Option mV} : mEv X call 0 t_X6_goesOn (mDrop t_X6_goesOn 132) [some (mr 7 20), some (mi x1), some (mi x2), some (mi x3), some (mi x4), some (mi x5), u6, u7] [] g = some (none, g) := (mEv_1 _ _ _ _).trans rfl
theorem e_X6_goesOn_128 {X : mX} {call : Nat → List mV → mG → mR} {g : mG} {x1 x2 x3 x4 x5 : Int32} {u6 u7 : Option mV} : mEv X call 0 t_X6_goesOn (mDrop t_X6_goesOn 128) [some (mr 7 20), some (mi x1), some (mi x2), some (mi x3), some (mi x4), some (mi x5), u6, u7] [] g = if x3 = 0 then mEv X call 0 t_X6_goesOn (mDrop t_X6_goesOn 132) [some (mr 7 20), some (mi x1), some (mi x2), some (mi x3), some (mi x4), some (mi x5), u6, u7] [] g else mEv X call 0 t_X6_goesOn (mDrop t_X6_goesOn 133) [some (mr 7 20), some (mi x1), some (mi x2), some (mi x3), some (mi x4), some (mi x5), u6, u7] [] g := (mEv_2 _ _ _ _).trans rfl
theorem e_X6_goesOn_133 {X : mX} {call : Nat → List mV → mG → mR} {g : mG} {x1 x2 x3 x4 x5 : Int32} {u6 u7 : Option mV} : mEv X call 0 t_X6_goesOn (mDrop t_X6_goesOn 133) [some (mr 7 20), some (mi x1), some (mi x2), some (mi x3), some (mi x4), some (mi x5), u6, u7] [] g = mAns (mEv X call 0 t_X6_goesOn) (mDrop t_X6_goesOn 144) [some (mr 7 20), some (mi x1), some (mi x2), some (mi x3), some (mi x4), some (mi x5), u6, u7] [] (call 173 [mr 7 20, mi 0, mi ((1 : Int32) - x4), mi (-1), mi 1] g) := (mEv_8 _ _ _ _).trans rfl
theorem e_X6_goesOn_144 {X : mX} {call : Nat → List mV → mG → mR} {g : mG} {x1 x2 x3 x4 x5 s0 : Int32} {u6 u7 : Option mV} : mEv X call 0 t_X6_goesOn (mDrop t_X6_goesOn 144) [some (mr 7 20), some (mi x1), some (mi x2), some (mi x3), some (mi x4), some (mi x5), u6, u7] [mi s0] g = if s0 = (-1) then mEv X call 0 t_X6_goesOn (mDrop t_X6_goesOn 148) [some (mr 7 20), some (mi x1), some (mi x2), some (mi x3), some (mi x4), some (mi x5), u6, u7] [] g else mEv X call 0 t_X6_goesOn (mDrop t_X6_goesOn 163) [some (mr 7 20), some (mi x1), some (mi x2), some (mi x3), some (mi x4), some (mi x5), u6, u7] [] g := (mEv_2 _ _ _ _).trans rfl
theorem e_X6_goesOn_148 {X : mX} {call : Nat → List mV → mG → mR} {g : mG} {x1 x2 x3 x4 x5 : Int32} {u6 u7 : Option mV} : mEv X call 0 t_X6_goesOn (mDrop t_X6_goesOn 148) [some (mr 7 20), some (mi x1), some (mi x2), some (mi x3), some (mi x4), some (mi x5), u6, u7] [] g = mAns (mEv X call 0 t_X6_goesOn) (mDrop t_X6_goesOn 159) [some (mr 7 20), some (mi x1), some (mi x2), some (mi x3), some (mi x4), some (mi x5), u6, u7] [] (call 173 [mr 7 20, mi 1, mi ((1 : Int32) - x4), mi (-1), mi 1] g) := (mEv_8 _ _ _ _).trans rfl
theorem e_X6_goesOn_159 {X : mX} {call : Nat → List mV → mG → mR} {g : mG} {x1 x2 x3 x4 x5 s0 : Int32} {u6 u7 : Option mV} : mEv X call 0 t_X6_goesOn (mDrop t_X6_goesOn 159) [some (mr 7 20), some (mi x1), some (mi x2), some (mi x3), some (mi x4), some (mi x5), u6, u7] [mi s0] g = if s0 = (-1) then mEv X call 0 t_X6_goesOn (mDrop t_X6_goesOn 167) [some (mr 7 20), some (mi x1), some (mi x2), some (mi x3), some (mi x4), some (mi x5), u6, u7] [] g else mEv X call 0 t_X6_goesOn (mDrop t_X6_goesOn 163) [some (mr 7 20), some (mi x1), some (mi x2), some (mi x3), some (mi x4), some (mi x5), u6, u7] [] g := (mEv_2 _ _ _ _).trans rfl
theorem e_X6_goesOn_167 {X : mX} {call : Nat → List mV → mG → mR} {g : mG} {x1 x2 x3 x4 x5 : Int32} {u6 u7 : Option mV} : mEv X call 0 t_X6_goesOn (mDrop t_X6_goesOn 167) [some (mr 7 20), some (mi x1), some (mi x2), some (mi x3), some (mi x4), some (mi x5), u6, u7] [] g = mEv X call 0 t_X6_goesOn (mDrop t_X6_goesOn 168) [some (mr 7 20), some (mi x1), some (mi x2), some (mi x3), some (mi x4), some (mi x5), u6, u7] [mi 0] g := (mEv_1 _ _ _ _).trans rfl
theorem e_X6_goesOn_168 {X : mX} {call : Nat → List mV → mG → mR} {g : mG} {x1 x2 x3 x4 x5 s0 : Int32} {u6 u7 : Option mV} : mEv X call 0 t_X6_goesOn (mDrop t_X6_goesOn 168) [some (mr 7 20), some (mi x1), some (mi x2), some (mi x3), some (mi x4), some (mi x5), u6, u7] [mi s0] g = mEv X call 0 t_X6_goesOn (mDrop t_X6_goesOn 173) [some (mr 7 20), some (mi x1), some (mi x2), some (mi x3), some (mi x4), some (mi s0), some (mi 0), u7] [] g := (mEv_3 _ _ _ _).trans rfl
theorem hk_X6_goesOn_173 {X : mX} {call : Nat → List mV → mG → mR} {g : mG} {x1 x2 x3 x4 x5 x6 : Int32} {k7 : Option mV} : mEv X call 0 t_X6_goesOn (mDrop t_X6_goesOn 173) [some (mr 7 20), some (mi x1), some (mi x2), some (mi x3), some (mi x4), some (mi x5), some (mi x6), k7] [] g = mEv X call 0 t_X6_goesOn (mDrop t_X6_goesOn 173) [some (mr 7 20), some (mi x1), some (mi x2), some (mi x3), some (mi x4), some (mi x5), some (mi x6), none] [] g := Eq.trans (mEv_1 _ _ _ _) (Eq.symm (Eq.trans (mEv_1 _ _ _ _) rfl))
theorem e_X6_goesOn_173 {X : mX} {call : Nat → List mV → mG → mR} {g : mG} {x1 x2 x3 x4 x5 x6 : Int32} {u7 : Option mV} : mEv X call 0 t_X6_goesOn (mDrop t_X6_goesOn 173) [some (mr 7 20), some (mi x1), some (mi x2), some (mi x3), some (mi x4), some (mi x5), some (mi x6), u7] [] g = if 2 ≤ x6 then mEv X call 0 t_X6_goesOn (mDrop t_X6_goesOn 293) [some (mr 7 20), some (mi x1), some (mi x2), some (mi x3), some (mi x4), some (mi x5), some (mi x6), none] [] g else mEv X call 0 t_X6_goesOn (mDrop t_X6_goesOn 179) [some (mr 7 20), some (mi x1), some (mi x2), some (mi x3), some (mi x4), some (mi x5), some (mi x6), none] [] g := (mEv_3 _ _ _ _).trans rfl
theorem e_X6_goesOn_293 {X : mX} {call : Nat → List mV → mG → mR} {g : mG} {x1 x2 x3 x4 x5 x6 : Int32} {u7 : Option mV} : mEv X call 0 t_X6_goesOn (mDrop t_X6_goesOn 293) [some (mr 7 20), some (mi x1), some (mi x2), some (mi x3), some (mi x4), some (mi x5), some (mi x6), u7] [] g = some (none, g) := (mEv_1 _ _ _ _).trans rfl
theorem e_X6_goesOn_179 {X : mX} {call : Nat → List mV → mG → mR} {g : mG} {x1 x2 x3 x4 x5 x6 : Int32} {u7 : Option mV} : mEv X call 0 t_X6_goesOn (mDrop t_X6_goesOn 179) [some (mr 7 20), some (mi x1), some (mi x2), some (mi x3), some (mi x4), some (mi x5), some (mi x6), u7] [] g = if x5 = 0 then mEv X call 0 t_X6_goesOn (mDrop t_X6_goesOn 230) [some (mr 7 20), some (mi x1), some (mi x2), some (mi x3), some (mi x4), some (mi x5), some (mi x6), u7] [] g else mEv X call 0 t_X6_goesOn (mDrop t_X6_goesOn 184) [some (mr 7 20), some (mi x1), some (mi x2), some (mi x3), some (mi x4), some (mi x5), some (mi x6), u7] [] g := (mEv_2 _ _ _ _).trans rfl
theorem e_X6_goesOn_230 {X : mX} {call : Nat → List mV → mG → mR} {g : mG} {x1 x2 x3 x4 x5 x6 : Int32} {u7 : Option mV} : mEv X call 0 t_X6_goesOn (mDrop t_X6_goesOn 230) [some (mr 7 20), some (mi x1), some (mi x2), some (mi x3), some (mi x4), some (mi x5), some (mi x6), u7] [] g = mAns (mEv X call 0 t_X6_goesOn) (mDrop t_X6_goesOn 240) [some (mr 7 20), some (mi x1), some (mi x2), some (mi x3), some (mi x4), some (mi x5), some (mi x6), u7] [] (call 173 [mr 7 20, mi x6, mi x4, mi (-1), mi 1] g) := (mEv_6 _ _ _ _).trans rfl
theorem e_X6_goesOn_240 {X : mX} {call : Nat → List mV → mG → mR} {g : mG} {x1 x2 x3 x4 x5 x6 s0 : Int32} {u7 : Option mV} : mEv X call 0 t_X6_goesOn (mDrop t_X6_goesOn 240) [some (mr 7 20), some (mi x1), some (mi x2), some (mi x3), some (mi x4), some (mi x5), some (mi x6), u7] [mi s0] g = if s0 = (-1) then mEv X call 0 t_X6_goesOn (mDrop t_X6_goesOn 273) [some (mr 7 20), some (mi x1), some (mi x2), some (mi x3), some (mi x4), some (mi x5), some (mi x6), some (mi s0)] [] g else mEv X call 0 t_X6_goesOn (mDrop t_X6_goesOn 248) [some (mr 7 20), some (mi x1), some (mi x2), some (mi x3), some (mi x4), some (mi x5), some (mi x6), some (mi s0)] [] g := (mEv_4 _ _ _ _).trans rfl
theorem e_X6_goesOn_273 {X : mX} {call : Nat → List mV → mG → mR} {g : mG} {x1 x2 x3 x4 x5 x6 x7 : Int32} : mEv X call 0 t_X6_goesOn (mDrop t_X6_goesOn 273) [some (mr 7 20), some (mi x1), some (mi x2), some (mi x3), some (mi x4), some (mi x5), some (mi x6), some (mi x7)] [] g = if x7 = (-1) then mEv X call 0 t_X6_goesOn (mDrop t_X6_goesOn 287) [some (mr 7 20), some (mi x1), some (mi x2), some (mi x3), some (mi x4), some (mi x5), some (mi x6), some (mi x7)] [] g else mEv X call 0 t_X6_goesOn (mDrop t_X6_goesOn 279) [some (mr 7 20), some (mi x1), some (mi x2), some (mi x3), some (mi x4), some (mi x5), some (mi x6), some (mi x7)] [] g := (mEv_3 _ _ _ _).trans rfl
theorem e_X6_goesOn_287 {X : mX} {call : Nat → List mV → mG → mR} {g : mG} {x1 x2 x3 x4 x5 x6 x7 : Int32} : mEv X call 0 t_X6_goesOn (mDrop t_X6_goesOn 287) [some (mr 7 20), some (mi x1), some (mi x2), some (mi x3), some (mi x4), some (mi x5), some (mi x6), some (mi x7)] [] g = mEv X call 0 t_X6_goesOn (mDrop t_X6_goesOn 173) [some (mr 7 20), some (mi x1), some (mi x2), some (mi x3), some (mi x4), some (mi x5), some (mi (x6 + 1)), some (mi x7)] [] g := (mEv_2 _ _ _ _).trans rfl
noncomputable def J_X6_goesOn_287 (c : mC) (x4 : Int32) (x5 : Int32) (x6 : Int32) : ((Int32 × mC) ⊕ (Option (mC))) := (.inl ((x6 + 1), c))
theorem rj_X6_goesOn_287 (d : Nat) {X : mX} {g : mG} {x1 x2 x3 x4 x5 x6 x7 : Int32} {c : mC} : mEv X (mCall mD X (d + 8)) 0 t_X6_goesOn (mDrop t_X6_goesOn 287) [some (mr 7 20), some (mi x1), some (mi x2), some (mi x3), some (mi x4), some (mi x5), some (mi x6), some (mi x7)] [] (mU g 7 c) = (wB (fun s : (Int32 × mC) => match s with | (x6, c) => mEv X (mCall mD X (d + 8)) 0 t_X6_goesOn (mDrop t_X6_goesOn 173) [some (mr 7 20), some (mi x1), some (mi x2), some (mi x3), some (mi x4), some (mi x5), some (mi x6), none] [] (mU g 7 c)) (wO (wV g 7))) (J_X6_goesOn_287 c x4 x5 x6) := by
  refine Eq.trans (e_X6_goesOn_287) ?_
  try simp only [mU_same, mU_mU]
  exact mw_inl hk_X6_goesOn_173
theorem e_X6_goesOn_279 {X : mX} {call : Nat → List mV → mG → mR} {g : mG} {x1 x2 x3 x4 x5 x6 x7 : Int32} : mEv X call 0 t_X6_goesOn (mDrop t_X6_goesOn 279) [some (mr 7 20), some (mi x1), some (mi x2), some (mi x3), some (mi x4), some (mi x5), some (mi x6), some (mi x7)] [] g = mAns (mEv X call 0 t_X6_goesOn) (mDrop t_X6_goesOn 287) [some (mr 7 20), some (mi x1), some (mi x2), some (mi x3), some (mi x4), some (mi x5), some (mi x6), some (mi x7)] [] (call 185 [mr 7 20, mi x6, mi x7] g) := (mEv_4 _ _ _ _).trans rfl
noncomputable def J_X6_goesOn_273 (c : mC) (x4 : Int32) (x5 : Int32) (x6 : Int32) (x7 : Int32) : ((Int32 × mC) ⊕ (Option (mC))) := (if x7 = (-1) then (J_X6_goesOn_287 c x4 x5 x6) else (mBo (α := mC) (.inr none) (P_X6_goes c x6 x7) (fun c1 => (J_X6_goesOn_287 c1 x4 x5 x6))))
theorem rj_X6_goesOn_273 (d : Nat) {X : mX} {g : mG} {x1 x2 x3 x4 x5 x6 x7 : Int32} {c : mC} : mEv X (mCall mD X (d + 8)) 0 t_X6_goesOn (mDrop t_X6_goesOn 273) [some (mr 7 20), some (mi x1), some (mi x2), some (mi x3), some (mi x4), some (mi x5), some (mi x6), some (mi x7)] [] (mU g 7 c) = (wB (fun s : (Int32 × mC) => match s with | (x6, c) => mEv X (mCall mD X (d + 8)) 0 t_X6_goesOn (mDrop t_X6_goesOn 173) [some (mr 7 20), some (mi x1), some (mi x2), some (mi x3), some (mi x4), some (mi x5), some (mi x6), none] [] (mU g 7 c)) (wO (wV g 7))) (J_X6_goesOn_273 c x4 x5 x6 x7) := by
  refine Eq.trans (e_X6_goesOn_273) ?_
  try simp only [mU_same, mU_mU]
  refine mw_ite (fun h2 => ?_) (fun h2 => ?_)
  · exact rj_X6_goesOn_287 d
  · refine Eq.trans (e_X6_goesOn_279) ?_
    try simp only [mU_same, mU_mU]
    refine mw_oV ?_ (rr_X6_goes (d + 3)) (fun c1 => ?_)
    · rfl
    exact rj_X6_goesOn_287 d
theorem e_X6_goesOn_248 {X : mX} {call : Nat → List mV → mG → mR} {g : mG} {x1 x2 x3 x4 x5 x6 x7 : Int32} : mEv X call 0 t_X6_goesOn (mDrop t_X6_goesOn 248) [some (mr 7 20), some (mi x1), some (mi x2), some (mi x3), some (mi x4), some (mi x5), some (mi x6), some (mi x7)] [] g = mAns (mEv X call 0 t_X6_goesOn) (mDrop t_X6_goesOn 257) [some (mr 7 20), some (mi x1), some (mi x2), some (mi x3), some (mi x4), some (mi x5), some (mi x6), some (mi x7)] [mi x7] (call 163 [mr 7 20, mi x6, mi 0] g) := (mEv_5 _ _ _ _).trans rfl
theorem e_X6_goesOn_257 {X : mX} {call : Nat → List mV → mG → mR} {g : mG} {x1 x2 x3 x4 x5 x6 x7 s0 s1 : Int32} : mEv X call 0 t_X6_goesOn (mDrop t_X6_goesOn 257) [some (mr 7 20), some (mi x1), some (mi x2), some (mi x3), some (mi x4), some (mi x5), some (mi x6), some (mi x7)] [mi s1, mi s0] g = if s0 = s1 then mEv X call 0 t_X6_goesOn (mDrop t_X6_goesOn 260) [some (mr 7 20), some (mi x1), some (mi x2), some (mi x3), some (mi x4), some (mi x5), some (mi x6), some (mi x7)] [] g else mEv X call 0 t_X6_goesOn (mDrop t_X6_goesOn 273) [some (mr 7 20), some (mi x1), some (mi x2), some (mi x3), some (mi x4), some (mi x5), some (mi x6), some (mi x7)] [] g := (mEv_1 _ _ _ _).trans rfl
theorem e_X6_goesOn_260 {X : mX} {call : Nat → List mV → mG → mR} {g : mG} {x1 x2 x3 x4 x5 x6 x7 : Int32} : mEv X call 0 t_X6_goesOn (mDrop t_X6_goesOn 260) [some (mr 7 20), some (mi x1), some (mi x2), some (mi x3), some (mi x4), some (mi x5), some (mi x6), some (mi x7)] [] g = mAns (mEv X call 0 t_X6_goesOn) (mDrop t_X6_goesOn 271) [some (mr 7 20), some (mi x1), some (mi x2), some (mi x3), some (mi x4), some (mi x5), some (mi x6), some (mi x7)] [] (call 173 [mr 7 20, mi x6, mi x4, mi x7, mi 1] g) := (mEv_6 _ _ _ _).trans rfl
theorem e_X6_goesOn_271 {X : mX} {call : Nat → List mV → mG → mR} {g : mG} {x1 x2 x3 x4 x5 x6 x7 s0 : Int32} : mEv X call 0 t_X6_goesOn (mDrop t_X6_goesOn 271) [some (mr 7 20), some (mi x1), some (mi x2), some (mi x3), some (mi x4), some (mi x5), some (mi x6), some (mi x7)] [mi s0] g = mEv X call 0 t_X6_goesOn (mDrop t_X6_goesOn 273) [some (mr 7 20), some (mi x1), some (mi x2), some (mi x3), some (mi x4), some (mi x5), some (mi x6), some (mi s0)] [] g := (mEv_1 _ _ _ _).trans rfl
theorem e_X6_goesOn_184 {X : mX} {call : Nat → List mV → mG → mR} {g : mG} {x1 x2 x3 x4 x5 x6 : Int32} {u7 : Option mV} : mEv X call 0 t_X6_goesOn (mDrop t_X6_goesOn 184) [some (mr 7 20), some (mi x1), some (mi x2), some (mi x3), some (mi x4), some (mi x5), some (mi x6), u7] [] g = mAns (mEv X call 0 t_X6_goesOn) (mDrop t_X6_goesOn 196) [some (mr 7 20), some (mi x1), some (mi x2), some (mi x3), some (mi x4), some (mi x5), some (mi x6), u7] [] (call 173 [mr 7 20, mi x6, mi ((1 : Int32) - x4), mi (-1), mi 1] g) := (mEv_8 _ _ _ _).trans rfl
theorem e_X6_goesOn_196 {X : mX} {call : Nat → List mV → mG → mR} {g : mG} {x1 x2 x3 x4 x5 x6 s0 : Int32} {u7 : Option mV} : mEv X call 0 t_X6_goesOn (mDrop t_X6_goesOn 196) [some (mr 7 20), some (mi x1), some (mi x2), some (mi x3), some (mi x4), some (mi x5), some (mi x6), u7] [mi s0] g = if s0 = (-1) then mEv X call 0 t_X6_goesOn (mDrop t_X6_goesOn 207) [some (mr 7 20), some (mi x1), some (mi x2), some (mi x3), some (mi x4), some (mi x5), some (mi x6), some (mi s0)] [mi x6, mr 7 20] g else mEv X call 0 t_X6_goesOn (mDrop t_X6_goesOn 222) [some (mr 7 20), some (mi x1), some (mi x2), some (mi x3), some (mi x4), some (mi x5), some (mi x6), some (mi s0)] [mi x6, mr 7 20] g := (mEv_6 _ _ _ _).trans rfl
theorem e_X6_goesOn_207 {X : mX} {call : Nat → List mV → mG → mR} {g : mG} {x1 x2 x3 x4 x5 x6 x7 s1 : Int32} : mEv X call 0 t_X6_goesOn (mDrop t_X6_goesOn 207) [some (mr 7 20), some (mi x1), some (mi x2), some (mi x3), some (mi x4), some (mi x5), some (mi x6), some (mi x7)] [mi s1, mr 7 20] g = mAns (mEv X call 0 t_X6_goesOn) (mDrop t_X6_goesOn 219) [some (mr 7 20), some (mi x1), some (mi x2), some (mi x3), some (mi x4), some (mi x5), some (mi x6), some (mi x7)] [mi s1, mr 7 20] (call 173 [mr 7 20, mi x6, mi ((1 : Int32) - x4), mi (-1), mi 0] g) := (mEv_8 _ _ _ _).trans rfl
theorem e_X6_goesOn_219 {X : mX} {call : Nat → List mV → mG → mR} {g : mG} {x1 x2 x3 x4 x5 x6 x7 s1 s2 : Int32} : mEv X call 0 t_X6_goesOn (mDrop t_X6_goesOn 219) [some (mr 7 20), some (mi x1), some (mi x2), some (mi x3), some (mi x4), some (mi x5), some (mi x6), some (mi x7)] [mi s2, mi s1, mr 7 20] g = mEv X call 0 t_X6_goesOn (mDrop t_X6_goesOn 224) [some (mr 7 20), some (mi x1), some (mi x2), some (mi x3), some (mi x4), some (mi x5), some (mi x6), some (mi x7)] [mi s2, mi s1, mr 7 20] g := (mEv_1 _ _ _ _).trans rfl
theorem e_X6_goesOn_224 {X : mX} {call : Nat → List mV → mG → mR} {g : mG} {x1 x2 x3 x4 x5 x6 x7 s1 s2 : Int32} : mEv X call 0 t_X6_goesOn (mDrop t_X6_goesOn 224) [some (mr 7 20), some (mi x1), some (mi x2), some (mi x3), some (mi x4), some (mi x5), some (mi x6), some (mi x7)] [mi s2, mi s1, mr 7 20] g = mAns (mEv X call 0 t_X6_goesOn) (mDrop t_X6_goesOn 227) [some (mr 7 20), some (mi x1), some (mi x2), some (mi x3), some (mi x4), some (mi x5), some (mi x6), some (mi x7)] [] (call 185 [mr 7 20, mi s1, mi s2] g) := (mEv_1 _ _ _ _).trans rfl
theorem e_X6_goesOn_227 {X : mX} {call : Nat → List mV → mG → mR} {g : mG} {x1 x2 x3 x4 x5 x6 x7 : Int32} : mEv X call 0 t_X6_goesOn (mDrop t_X6_goesOn 227) [some (mr 7 20), some (mi x1), some (mi x2), some (mi x3), some (mi x4), some (mi x5), some (mi x6), some (mi x7)] [] g = mEv X call 0 t_X6_goesOn (mDrop t_X6_goesOn 287) [some (mr 7 20), some (mi x1), some (mi x2), some (mi x3), some (mi x4), some (mi x5), some (mi x6), some (mi x7)] [] g := (mEv_1 _ _ _ _).trans rfl
noncomputable def J_X6_goesOn_224 (c : mC) (x4 : Int32) (x5 : Int32) (x6 : Int32) (s1 : Int32) (s2 : Int32) : ((Int32 × mC) ⊕ (Option (mC))) := (mBo (α := mC) (.inr none) (P_X6_goes c s1 s2) (fun c1 => (J_X6_goesOn_287 c1 x4 x5 x6)))
theorem rj_X6_goesOn_224 (d : Nat) {X : mX} {g : mG} {x1 x2 x3 x4 x5 x6 x7 s1 s2 : Int32} {c : mC} : mEv X (mCall mD X (d + 8)) 0 t_X6_goesOn (mDrop t_X6_goesOn 224) [some (mr 7 20), some (mi x1), some (mi x2), some (mi x3), some (mi x4), some (mi x5), some (mi x6), some (mi x7)] [mi s2, mi s1, mr 7 20] (mU g 7 c) = (wB (fun s : (Int32 × mC) => match s with | (x6, c) => mEv X (mCall mD X (d + 8)) 0 t_X6_goesOn (mDrop t_X6_goesOn 173) [some (mr 7 20), some (mi x1), some (mi x2), some (mi x3), some (mi x4), some (mi x5), some (mi x6), none] [] (mU g 7 c)) (wO (wV g 7))) (J_X6_goesOn_224 c x4 x5 x6 s1 s2) := by
  refine Eq.trans (e_X6_goesOn_224) ?_
  try simp only [mU_same, mU_mU]
  refine mw_oV ?_ (rr_X6_goes (d + 3)) (fun c1 => ?_)
  · rfl
  refine Eq.trans (e_X6_goesOn_227) ?_
  try simp only [mU_same, mU_mU]
  exact rj_X6_goesOn_287 d
theorem e_X6_goesOn_222 {X : mX} {call : Nat → List mV → mG → mR} {g : mG} {x1 x2 x3 x4 x5 x6 x7 s1 : Int32} : mEv X call 0 t_X6_goesOn (mDrop t_X6_goesOn 222) [some (mr 7 20), some (mi x1), some (mi x2), some (mi x3), some (mi x4), some (mi x5), some (mi x6), some (mi x7)] [mi s1, mr 7 20] g = mEv X call 0 t_X6_goesOn (mDrop t_X6_goesOn 224) [some (mr 7 20), some (mi x1), some (mi x2), some (mi x3), some (mi x4), some (mi x5), some (mi x6), some (mi x7)] [mi x7, mi s1, mr 7 20] g := (mEv_1 _ _ _ _).trans rfl
noncomputable def B_X6_goesOn_173 (x4 : Int32) (x5 : Int32) : (Int32 × mC) → (Int32 × mC) ⊕ (Option (mC)) := fun s => match s with | (x6, c) => (if 2 ≤ x6 then (.inr (some c)) else (if x5 = 0 then (mBo (α := Int32) (.inr none) (P_X6_firstOf c x6 x4 (-1) 1) (fun v1 => (if v1 = (-1) then (J_X6_goesOn_273 c x4 x5 x6 v1) else (mBo (α := Int32) (.inr none) (P_X6_ofRing c x6 0) (fun v2 => (if v1 = v2 then (mBo (α := Int32) (.inr none) (P_X6_firstOf c x6 x4 v1 1) (fun v3 => (J_X6_goesOn_273 c x4 x5 x6 v3))) else (J_X6_goesOn_273 c x4 x5 x6 v1))))))) else (mBo (α := Int32) (.inr none) (P_X6_firstOf c x6 ((1 : Int32) - x4) (-1) 1) (fun v6 => (if v6 = (-1) then (mBo (α := Int32) (.inr none) (P_X6_firstOf c x6 ((1 : Int32) - x4) (-1) 0) (fun v7 => (J_X6_goesOn_224 c x4 x5 x6 x6 v7))) else (J_X6_goesOn_224 c x4 x5 x6 x6 v6))))))
set_option maxRecDepth 100000 in
theorem tm_X6_goesOn_173 {x4 : Int32} {x5 : Int32} : mTm (B_X6_goesOn_173 x4 x5) := by
  refine ⟨fun s => match s with | (x6, c) => mMx x6, fun s s2 h => ?_⟩
  obtain ⟨x6, c⟩ := s
  simp only [B_X6_goesOn_173, J_X6_goesOn_273, J_X6_goesOn_287, J_X6_goesOn_224, mBd, mBo] at h
  (repeat' split at h) <;> first | (have h2 := Sum.inl.inj h; subst h2; dsimp only; first | exact mtm_max (by assumption) | exact mtm_lt (by assumption)) | (cases h; done)
theorem rl_X6_goesOn_173 (d : Nat) {X : mX} {g : mG} {x1 x2 x3 x4 x5 x6 : Int32} {c : mC} : mEv X (mCall mD X (d + 8)) 0 t_X6_goesOn (mDrop t_X6_goesOn 173) [some (mr 7 20), some (mi x1), some (mi x2), some (mi x3), some (mi x4), some (mi x5), some (mi x6), none] [] (mU g 7 c) = (wO (wV g 7)) (mWh none (B_X6_goesOn_173 x4 x5) (x6, c)) := by
  refine mWh_ev (B := (B_X6_goesOn_173 x4 x5)) (ev := fun s : (Int32 × mC) => match s with | (x6, c) => mEv X (mCall mD X (d + 8)) 0 t_X6_goesOn (mDrop t_X6_goesOn 173) [some (mr 7 20), some (mi x1), some (mi x2), some (mi x3), some (mi x4), some (mi x5), some (mi x6), none] [] (mU g 7 c)) (w := (wO (wV g 7))) (tm_X6_goesOn_173) ?_ (x6, c)
  rintro ⟨x6, c⟩
  show mEv X (mCall mD X (d + 8)) 0 t_X6_goesOn (mDrop t_X6_goesOn 173) [some (mr 7 20), some (mi x1), some (mi x2), some (mi x3), some (mi x4), some (mi x5), some (mi x6), none] [] (mU g 7 c) = wB (fun s : (Int32 × mC) => match s with | (x6, c) => mEv X (mCall mD X (d + 8)) 0 t_X6_goesOn (mDrop t_X6_goesOn 173) [some (mr 7 20), some (mi x1), some (mi x2), some (mi x3), some (mi x4), some (mi x5), some (mi x6), none] [] (mU g 7 c)) (wO (wV g 7)) (B_X6_goesOn_173 x4 x5 (x6, c))
  refine Eq.trans (e_X6_goesOn_173) ?_
  try simp only [mU_same, mU_mU]
  refine mw_ite (fun h10 => ?_) (fun h10 => ?_)
  · refine mw_inr ?_
    refine Eq.trans (e_X6_goesOn_293) ?_
    try simp only [mU_same, mU_mU]
    all_goals rfl
  · refine Eq.trans (e_X6_goesOn_179) ?_
    try simp only [mU_same, mU_mU]
    refine mw_ite (fun h9 => ?_) (fun h9 => ?_)
    · refine Eq.trans (e_X6_goesOn_230) ?_
      try simp only [mU_same, mU_mU]
      refine mw_oI ?_ (rr_X6_firstOf (d + 2)) (fun v1 => ?_)
      · rfl
      refine Eq.trans (e_X6_goesOn_240) ?_
      try simp only [mU_same, mU_mU]
      refine mw_ite (fun h5 => ?_) (fun h5 => ?_)
      · exact rj_X6_goesOn_273 d
      · refine Eq.trans (e_X6_goesOn_248) ?_
        try simp only [mU_same, mU_mU]
        refine mw_oI ?_ (rr_X6_ofRing (d + 6)) (fun v2 => ?_)
        · rfl
        refine Eq.trans (e_X6_goesOn_257) ?_
        try simp only [mU_same, mU_mU]
        refine mw_ite (fun h4 => ?_) (fun h4 => ?_)
        · refine Eq.trans (e_X6_goesOn_260) ?_
          try simp only [mU_same, mU_mU]
          refine mw_oI ?_ (rr_X6_firstOf (d + 2)) (fun v3 => ?_)
          · rfl
          refine Eq.trans (e_X6_goesOn_271) ?_
          try simp only [mU_same, mU_mU]
          exact rj_X6_goesOn_273 d
        · exact rj_X6_goesOn_273 d
    · refine Eq.trans (e_X6_goesOn_184) ?_
      try simp only [mU_same, mU_mU]
      refine mw_oI ?_ (rr_X6_firstOf (d + 2)) (fun v6 => ?_)
      · rfl
      refine Eq.trans (e_X6_goesOn_196) ?_
      try simp only [mU_same, mU_mU]
      refine mw_ite (fun h8 => ?_) (fun h8 => ?_)
      · refine Eq.trans (e_X6_goesOn_207) ?_
        try simp only [mU_same, mU_mU]
        refine mw_oI ?_ (rr_X6_firstOf (d + 2)) (fun v7 => ?_)
        · rfl
        refine Eq.trans (e_X6_goesOn_219) ?_
        try simp only [mU_same, mU_mU]
        exact rj_X6_goesOn_224 d
      · refine Eq.trans (e_X6_goesOn_222) ?_
        try simp only [mU_same, mU_mU]
        exact rj_X6_goesOn_224 d
noncomputable def J_X6_goesOn_168 (c : mC) (x4 : Int32) (s0 : Int32) : (Option (mC)) := (mWh none (B_X6_goesOn_173 x4 s0) (0, c))
theorem rj_X6_goesOn_168 (d : Nat) {X : mX} {g : mG} {x1 x2 x3 x4 x5 s0 : Int32} {u6 u7 : Option mV} {c : mC} : mEv X (mCall mD X (d + 8)) 0 t_X6_goesOn (mDrop t_X6_goesOn 168) [some (mr 7 20), some (mi x1), some (mi x2), some (mi x3), some (mi x4), some (mi x5), u6, u7] [mi s0] (mU g 7 c) = (wO (wV g 7)) (J_X6_goesOn_168 c x4 s0) := by
  refine Eq.trans (e_X6_goesOn_168) ?_
  try simp only [mU_same, mU_mU]
  exact Eq.trans hk_X6_goesOn_173 (rl_X6_goesOn_173 d)
theorem e_X6_goesOn_163 {X : mX} {call : Nat → List mV → mG → mR} {g : mG} {x1 x2 x3 x4 x5 : Int32} {u6 u7 : Option mV} : mEv X call 0 t_X6_goesOn (mDrop t_X6_goesOn 163) [some (mr 7 20), some (mi x1), some (mi x2), some (mi x3), some (mi x4), some (mi x5), u6, u7] [] g = mEv X call 0 t_X6_goesOn (mDrop t_X6_goesOn 168) [some (mr 7 20), some (mi x1), some (mi x2), some (mi x3), some (mi x4), some (mi x5), u6, u7] [mi 1] g := (mEv_2 _ _ _ _).trans rfl
noncomputable def J_X6_goesOn_163 (c : mC) (x4 : Int32) : (Option (mC)) := (J_X6_goesOn_168 c x4 1)
theorem rj_X6_goesOn_163 (d : Nat) {X : mX} {g : mG} {x1 x2 x3 x4 x5 : Int32} {u6 u7 : Option mV} {c : mC} : mEv X (mCall mD X (d + 8)) 0 t_X6_goesOn (mDrop t_X6_goesOn 163) [some (mr 7 20), some (mi x1), some (mi x2), some (mi x3), some (mi x4), some (mi x5), u6, u7] [] (mU g 7 c) = (wO (wV g 7)) (J_X6_goesOn_163 c x4) := by
  refine Eq.trans (e_X6_goesOn_163) ?_
  try simp only [mU_same, mU_mU]
  exact rj_X6_goesOn_168 d
theorem e_X6_goesOn_18 {X : mX} {call : Nat → List mV → mG → mR} {g : mG} {x1 x2 x3 x4 x5 : Int32} {u6 u7 : Option mV} : mEv X call 0 t_X6_goesOn (mDrop t_X6_goesOn 18) [some (mr 7 20), some (mi x1), some (mi x2), some (mi x3), some (mi x4), some (mi x5), u6, u7] [] g = mAns (mEv X call 0 t_X6_goesOn) (mDrop t_X6_goesOn 24) [some (mr 7 20), some (mi x1), some (mi x2), some (mi x3), some (mi x4), some (mi x5), u6, u7] [] (call 180 [mr 7 20, mi x5] g) := (mEv_3 _ _ _ _).trans rfl
theorem e_X6_goesOn_24 {X : mX} {call : Nat → List mV → mG → mR} {g : mG} {x1 x2 x3 x4 x5 s0 : Int32} {u6 u7 : Option mV} : mEv X call 0 t_X6_goesOn (mDrop t_X6_goesOn 24) [some (mr 7 20), some (mi x1), some (mi x2), some (mi x3), some (mi x4), some (mi x5), u6, u7] [mi s0] g = if s0 = 0 then mEv X call 0 t_X6_goesOn (mDrop t_X6_goesOn 27) [some (mr 7 20), some (mi x1), some (mi x2), some (mi x3), some (mi x4), some (mi x5), u6, u7] [] g else mEv X call 0 t_X6_goesOn (mDrop t_X6_goesOn 30) [some (mr 7 20), some (mi x1), some (mi x2), some (mi x3), some (mi x4), some (mi x5), u6, u7] [] g := (mEv_1 _ _ _ _).trans rfl
theorem e_X6_goesOn_27 {X : mX} {call : Nat → List mV → mG → mR} {g : mG} {x1 x2 x3 x4 x5 : Int32} {u6 u7 : Option mV} : mEv X call 0 t_X6_goesOn (mDrop t_X6_goesOn 27) [some (mr 7 20), some (mi x1), some (mi x2), some (mi x3), some (mi x4), some (mi x5), u6, u7] [] g = mEv X call 0 t_X6_goesOn (mDrop t_X6_goesOn 114) [some (mr 7 20), some (mi x1), some (mi x2), some (mi x3), some (mi x4), some (mi x5), u6, u7] [] g := (mEv_1 _ _ _ _).trans rfl
theorem e_X6_goesOn_114 {X : mX} {call : Nat → List mV → mG → mR} {g : mG} {x1 x2 x3 x4 x5 : Int32} {u6 u7 : Option mV} : mEv X call 0 t_X6_goesOn (mDrop t_X6_goesOn 114) [some (mr 7 20), some (mi x1), some (mi x2), some (mi x3), some (mi x4), some (mi x5), u6, u7] [] g = mEv X call 0 t_X6_goesOn (mDrop t_X6_goesOn 12) [some (mr 7 20), some (mi x1), some (mi x2), some (mi x3), some (mi x4), some (mi (x5 + 1)), u6, u7] [] g := (mEv_2 _ _ _ _).trans rfl
noncomputable def J_X6_goesOn_114 (c : mC) (x1 : Int32) (x2 : Int32) (x3 : Int32) (x4 : Int32) (x5 : Int32) : ((Int32 × Int32 × Int32 × Int32 × Int32 × mC) ⊕ (Option (mC))) := (.inl (x1, x2, x3, x4, (x5 + 1), c))
theorem rj_X6_goesOn_114 (d : Nat) {X : mX} {g : mG} {x1 x2 x3 x4 x5 : Int32} {u6 u7 : Option mV} {c : mC} : mEv X (mCall mD X (d + 8)) 0 t_X6_goesOn (mDrop t_X6_goesOn 114) [some (mr 7 20), some (mi x1), some (mi x2), some (mi x3), some (mi x4), some (mi x5), u6, u7] [] (mU g 7 c) = (wB (fun s : (Int32 × Int32 × Int32 × Int32 × Int32 × mC) => match s with | (x1, x2, x3, x4, x5, c) => mEv X (mCall mD X (d + 8)) 0 t_X6_goesOn (mDrop t_X6_goesOn 12) [some (mr 7 20), some (mi x1), some (mi x2), some (mi x3), some (mi x4), some (mi x5), none, none] [] (mU g 7 c)) (wO (wV g 7))) (J_X6_goesOn_114 c x1 x2 x3 x4 x5) := by
  refine Eq.trans (e_X6_goesOn_114) ?_
  try simp only [mU_same, mU_mU]
  exact mw_inl hk_X6_goesOn_12
theorem e_X6_goesOn_30 {X : mX} {call : Nat → List mV → mG → mR} {g : mG} {x1 x2 x3 x4 x5 : Int32} {u6 u7 : Option mV} : mEv X call 0 t_X6_goesOn (mDrop t_X6_goesOn 30) [some (mr 7 20), some (mi x1), some (mi x2), some (mi x3), some (mi x4), some (mi x5), u6, u7] [] g = mAns (mEv X call 0 t_X6_goesOn) (mDrop t_X6_goesOn 37) [some (mr 7 20), some (mi x1), some (mi x2), some (mi x3), some (mi x4), some (mi x5), u6, u7] [] (call 163 [mr 7 20, mi x5, mi 0] g) := (mEv_4 _ _ _ _).trans rfl
theorem e_X6_goesOn_37 {X : mX} {call : Nat → List mV → mG → mR} {g : mG} {x1 x2 x3 x4 x5 s0 : Int32} {u6 u7 : Option mV} : mEv X call 0 t_X6_goesOn (mDrop t_X6_goesOn 37) [some (mr 7 20), some (mi x1), some (mi x2), some (mi x3), some (mi x4), some (mi x5), u6, u7] [mi s0] g = mAns (mEv X call 0 t_X6_goesOn) (mDrop t_X6_goesOn 48) [some (mr 7 20), some (mi x1), some (mi 1), some (mi x3), some (mi x4), some (mi x5), some (mi s0), u7] [] (call 165 [mr 7 20, mi s0, mi 1] g) := (mEv_7 _ _ _ _).trans rfl
theorem e_X6_goesOn_48 {X : mX} {call : Nat → List mV → mG → mR} {g : mG} {x1 x2 x3 x4 x5 x6 s0 : Int32} {u7 : Option mV} : mEv X call 0 t_X6_goesOn (mDrop t_X6_goesOn 48) [some (mr 7 20), some (mi x1), some (mi x2), some (mi x3), some (mi x4), some (mi x5), some (mi x6), u7] [mi s0] g = if x3 = 0 then mEv X call 0 t_X6_goesOn (mDrop t_X6_goesOn 67) [some (mr 7 20), some (mi x1), some (mi x2), some (mi x3), some (mi s0), some (mi x5), some (mi x6), u7] [] g else mEv X call 0 t_X6_goesOn (mDrop t_X6_goesOn 54) [some (mr 7 20), some (mi x1), some (mi x2), some (mi x3), some (mi s0), some (mi x5), some (mi x6), u7] [] g := (mEv_3 _ _ _ _).trans rfl
theorem e_X6_goesOn_67 {X : mX} {call : Nat → List mV → mG → mR} {g : mG} {x1 x2 x3 x4 x5 x6 : Int32} {u7 : Option mV} : mEv X call 0 t_X6_goesOn (mDrop t_X6_goesOn 67) [some (mr 7 20), some (mi x1), some (mi x2), some (mi x3), some (mi x4), some (mi x5), some (mi x6), u7] [] g = mEv X call 0 t_X6_goesOn (mDrop t_X6_goesOn 68) [some (mr 7 20), some (mi x1), some (mi x2), some (mi x3), some (mi x4), some (mi x5), some (mi x6), u7] [mi 0] g := (mEv_1 _ _ _ _).trans rfl
theorem e_X6_goesOn_68 {X : mX} {call : Nat → List mV → mG → mR} {g : mG} {x1 x2 x3 x4 x5 x6 s0 : Int32} {u7 : Option mV} : mEv X call 0 t_X6_goesOn (mDrop t_X6_goesOn 68) [some (mr 7 20), some (mi x1), some (mi x2), some (mi x3), some (mi x4), some (mi x5), some (mi x6), u7] [mi s0] g = mAns (mEv X call 0 t_X6_goesOn) (mDrop t_X6_goesOn 75) [some (mr 7 20), some (mi x1), some (mi x2), some (mi s0), some (mi x4), some (mi x5), some (mi x6), u7] [] (call 195 [mr 7 20, mi x5] g) := (mEv_4 _ _ _ _).trans rfl
theorem e_X6_goesOn_75 {X : mX} {call : Nat → List mV → mG → mR} {g : mG} {x1 x2 x3 x4 x5 x6 s0 : Int32} {u7 : Option mV} : mEv X call 0 t_X6_goesOn (mDrop t_X6_goesOn 75) [some (mr 7 20), some (mi x1), some (mi x2), some (mi x3), some (mi x4), some (mi x5), some (mi x6), u7] [mi s0] g = if s0 = 0 then mEv X call 0 t_X6_goesOn (mDrop t_X6_goesOn 92) [some (mr 7 20), some (mi x1), some (mi x2), some (mi x3), some (mi x4), some (mi x5), some (mi x6), u7] [] g else mEv X call 0 t_X6_goesOn (mDrop t_X6_goesOn 78) [some (mr 7 20), some (mi x1), some (mi x2), some (mi x3), some (mi x4), some (mi x5), some (mi x6), u7] [] g := (mEv_1 _ _ _ _).trans rfl
theorem e_X6_goesOn_92 {X : mX} {call : Nat → List mV → mG → mR} {g : mG} {x1 x2 x3 x4 x5 x6 : Int32} {u7 : Option mV} : mEv X call 0 t_X6_goesOn (mDrop t_X6_goesOn 92) [some (mr 7 20), some (mi x1), some (mi x2), some (mi x3), some (mi x4), some (mi x5), some (mi x6), u7] [] g = mEv X call 0 t_X6_goesOn (mDrop t_X6_goesOn 93) [some (mr 7 20), some (mi x1), some (mi x2), some (mi x3), some (mi x4), some (mi x5), some (mi x6), u7] [mi (-1)] g := (mEv_1 _ _ _ _).trans rfl
theorem e_X6_goesOn_93 {X : mX} {call : Nat → List mV → mG → mR} {g : mG} {x1 x2 x3 x4 x5 x6 s0 : Int32} {u7 : Option mV} : mEv X call 0 t_X6_goesOn (mDrop t_X6_goesOn 93) [some (mr 7 20), some (mi x1), some (mi x2), some (mi x3), some (mi x4), some (mi x5), some (mi x6), u7] [mi s0] g = if s0 = (-1) then mEv X call 0 t_X6_goesOn (mDrop t_X6_goesOn 101) [some (mr 7 20), some (mi x1), some (mi x2), some (mi x3), some (mi x4), some (mi x5), some (mi x6), some (mi s0)] [] g else mEv X call 0 t_X6_goesOn (mDrop t_X6_goesOn 104) [some (mr 7 20), some (mi x1), some (mi x2), some (mi x3), some (mi x4), some (mi x5), some (mi x6), some (mi s0)] [] g := (mEv_4 _ _ _ _).trans rfl
theorem e_X6_goesOn_101 {X : mX} {call : Nat → List mV → mG → mR} {g : mG} {x1 x2 x3 x4 x5 x6 x7 : Int32} : mEv X call 0 t_X6_goesOn (mDrop t_X6_goesOn 101) [some (mr 7 20), some (mi x1), some (mi x2), some (mi x3), some (mi x4), some (mi x5), some (mi x6), some (mi x7)] [] g = mEv X call 0 t_X6_goesOn (mDrop t_X6_goesOn 114) [some (mr 7 20), some (mi x1), some (mi x2), some (mi x3), some (mi x4), some (mi x5), some (mi x6), some (mi x7)] [] g := (mEv_1 _ _ _ _).trans rfl
theorem e_X6_goesOn_104 {X : mX} {call : Nat → List mV → mG → mR} {g : mG} {x1 x2 x3 x4 x5 x6 x7 : Int32} : mEv X call 0 t_X6_goesOn (mDrop t_X6_goesOn 104) [some (mr 7 20), some (mi x1), some (mi x2), some (mi x3), some (mi x4), some (mi x5), some (mi x6), some (mi x7)] [] g = mAns (mEv X call 0 t_X6_goesOn) (mDrop t_X6_goesOn 112) [some (mr 7 20), some (mi x1), some (mi x2), some (mi x3), some (mi x4), some (mi x5), some (mi x6), some (mi x7)] [] (call 184 [mr 7 20, mi x5, mi x7] g) := (mEv_4 _ _ _ _).trans rfl
theorem e_X6_goesOn_112 {X : mX} {call : Nat → List mV → mG → mR} {g : mG} {x1 x2 x3 x4 x5 x6 x7 : Int32} : mEv X call 0 t_X6_goesOn (mDrop t_X6_goesOn 112) [some (mr 7 20), some (mi x1), some (mi x2), some (mi x3), some (mi x4), some (mi x5), some (mi x6), some (mi x7)] [] g = mEv X call 0 t_X6_goesOn (mDrop t_X6_goesOn 114) [some (mr 7 20), some (mi 1), some (mi x2), some (mi x3), some (mi x4), some (mi x5), some (mi x6), some (mi x7)] [] g := (mEv_2 _ _ _ _).trans rfl
noncomputable def J_X6_goesOn_93 (c : mC) (x1 : Int32) (x2 : Int32) (x3 : Int32) (x4 : Int32) (x5 : Int32) (s0 : Int32) : ((Int32 × Int32 × Int32 × Int32 × Int32 × mC) ⊕ (Option (mC))) := (if s0 = (-1) then (J_X6_goesOn_114 c x1 x2 x3 x4 x5) else (mBo (α := mC) (.inr none) (P_X6_leaves c x5 s0) (fun c1 => (J_X6_goesOn_114 c1 1 x2 x3 x4 x5))))
theorem rj_X6_goesOn_93 (d : Nat) {X : mX} {g : mG} {x1 x2 x3 x4 x5 x6 s0 : Int32} {u7 : Option mV} {c : mC} : mEv X (mCall mD X (d + 8)) 0 t_X6_goesOn (mDrop t_X6_goesOn 93) [some (mr 7 20), some (mi x1), some (mi x2), some (mi x3), some (mi x4), some (mi x5), some (mi x6), u7] [mi s0] (mU g 7 c) = (wB (fun s : (Int32 × Int32 × Int32 × Int32 × Int32 × mC) => match s with | (x1, x2, x3, x4, x5, c) => mEv X (mCall mD X (d + 8)) 0 t_X6_goesOn (mDrop t_X6_goesOn 12) [some (mr 7 20), some (mi x1), some (mi x2), some (mi x3), some (mi x4), some (mi x5), none, none] [] (mU g 7 c)) (wO (wV g 7))) (J_X6_goesOn_93 c x1 x2 x3 x4 x5 s0) := by
  refine Eq.trans (e_X6_goesOn_93) ?_
  try simp only [mU_same, mU_mU]
  refine mw_ite (fun h2 => ?_) (fun h2 => ?_)
  · refine Eq.trans (e_X6_goesOn_101) ?_
    try simp only [mU_same, mU_mU]
    exact rj_X6_goesOn_114 d
  · refine Eq.trans (e_X6_goesOn_104) ?_
    try simp only [mU_same, mU_mU]
    refine mw_oV ?_ (rr_X6_leaves (d + 4)) (fun c1 => ?_)
    · rfl
    refine Eq.trans (e_X6_goesOn_112) ?_
    try simp only [mU_same, mU_mU]
    exact rj_X6_goesOn_114 d
theorem e_X6_goesOn_78 {X : mX} {call : Nat → List mV → mG → mR} {g : mG} {x1 x2 x3 x4 x5 x6 : Int32} {u7 : Option mV} : mEv X call 0 t_X6_goesOn (mDrop t_X6_goesOn 78) [some (mr 7 20), some (mi x1), some (mi x2), some (mi x3), some (mi x4), some (mi x5), some (mi x6), u7] [] g = mAns (mEv X call 0 t_X6_goesOn) (mDrop t_X6_goesOn 89) [some (mr 7 20), some (mi x1), some (mi x2), some (mi x3), some (mi x4), some (mi x5), some (mi x6), u7] [] (call 173 [mr 7 20, mi x5, mi x4, mi x6, mi 1] g) := (mEv_6 _ _ _ _).trans rfl
theorem e_X6_goesOn_89 {X : mX} {call : Nat → List mV → mG → mR} {g : mG} {x1 x2 x3 x4 x5 x6 s0 : Int32} {u7 : Option mV} : mEv X call 0 t_X6_goesOn (mDrop t_X6_goesOn 89) [some (mr 7 20), some (mi x1), some (mi x2), some (mi x3), some (mi x4), some (mi x5), some (mi x6), u7] [mi s0] g = mEv X call 0 t_X6_goesOn (mDrop t_X6_goesOn 93) [some (mr 7 20), some (mi x1), some (mi x2), some (mi x3), some (mi x4), some (mi x5), some (mi x6), u7] [mi s0] g := (mEv_1 _ _ _ _).trans rfl
noncomputable def J_X6_goesOn_68 (c : mC) (x1 : Int32) (x2 : Int32) (x4 : Int32) (x5 : Int32) (x6 : Int32) (s0 : Int32) : ((Int32 × Int32 × Int32 × Int32 × Int32 × mC) ⊕ (Option (mC))) := (mBo (α := Int32) (.inr none) (P_X6_isDone c x5) (fun v1 => (if v1 = 0 then (J_X6_goesOn_93 c x1 x2 s0 x4 x5 (-1)) else (mBo (α := Int32) (.inr none) (P_X6_firstOf c x5 x4 x6 1) (fun v2 => (J_X6_goesOn_93 c x1 x2 s0 x4 x5 v2))))))
theorem rj_X6_goesOn_68 (d : Nat) {X : mX} {g : mG} {x1 x2 x3 x4 x5 x6 s0 : Int32} {u7 : Option mV} {c : mC} : mEv X (mCall mD X (d + 8)) 0 t_X6_goesOn (mDrop t_X6_goesOn 68) [some (mr 7 20), some (mi x1), some (mi x2), some (mi x3), some (mi x4), some (mi x5), some (mi x6), u7] [mi s0] (mU g 7 c) = (wB (fun s : (Int32 × Int32 × Int32 × Int32 × Int32 × mC) => match s with | (x1, x2, x3, x4, x5, c) => mEv X (mCall mD X (d + 8)) 0 t_X6_goesOn (mDrop t_X6_goesOn 12) [some (mr 7 20), some (mi x1), some (mi x2), some (mi x3), some (mi x4), some (mi x5), none, none] [] (mU g 7 c)) (wO (wV g 7))) (J_X6_goesOn_68 c x1 x2 x4 x5 x6 s0) := by
  refine Eq.trans (e_X6_goesOn_68) ?_
  try simp only [mU_same, mU_mU]
  refine mw_oZ ?_ (rr_X6_isDone d) rfl (fun v1 hv1 => ?_)
  · rfl
  refine Eq.trans (e_X6_goesOn_75) ?_
  try simp only [mU_same, mU_mU]
  refine mw_ite (fun h3 => ?_) (fun h3 => ?_)
  · refine Eq.trans (e_X6_goesOn_92) ?_
    try simp only [mU_same, mU_mU]
    exact rj_X6_goesOn_93 d
  · refine Eq.trans (e_X6_goesOn_78) ?_
    try simp only [mU_same, mU_mU]
    refine mw_oI ?_ (rr_X6_firstOf (d + 2)) (fun v2 => ?_)
    · rfl
    refine Eq.trans (e_X6_goesOn_89) ?_
    try simp only [mU_same, mU_mU]
    exact rj_X6_goesOn_93 d
noncomputable def J_X6_goesOn_67 (c : mC) (x1 : Int32) (x2 : Int32) (x4 : Int32) (x5 : Int32) (x6 : Int32) : ((Int32 × Int32 × Int32 × Int32 × Int32 × mC) ⊕ (Option (mC))) := (J_X6_goesOn_68 c x1 x2 x4 x5 x6 0)
theorem rj_X6_goesOn_67 (d : Nat) {X : mX} {g : mG} {x1 x2 x3 x4 x5 x6 : Int32} {u7 : Option mV} {c : mC} : mEv X (mCall mD X (d + 8)) 0 t_X6_goesOn (mDrop t_X6_goesOn 67) [some (mr 7 20), some (mi x1), some (mi x2), some (mi x3), some (mi x4), some (mi x5), some (mi x6), u7] [] (mU g 7 c) = (wB (fun s : (Int32 × Int32 × Int32 × Int32 × Int32 × mC) => match s with | (x1, x2, x3, x4, x5, c) => mEv X (mCall mD X (d + 8)) 0 t_X6_goesOn (mDrop t_X6_goesOn 12) [some (mr 7 20), some (mi x1), some (mi x2), some (mi x3), some (mi x4), some (mi x5), none, none] [] (mU g 7 c)) (wO (wV g 7))) (J_X6_goesOn_67 c x1 x2 x4 x5 x6) := by
  refine Eq.trans (e_X6_goesOn_67) ?_
  try simp only [mU_same, mU_mU]
  exact rj_X6_goesOn_68 d
theorem e_X6_goesOn_54 {X : mX} {call : Nat → List mV → mG → mR} {g : mG} {x1 x2 x3 x4 x5 x6 : Int32} {u7 : Option mV} : mEv X call 0 t_X6_goesOn (mDrop t_X6_goesOn 54) [some (mr 7 20), some (mi x1), some (mi x2), some (mi x3), some (mi x4), some (mi x5), some (mi x6), u7] [] g = mAns (mEv X call 0 t_X6_goesOn) (mDrop t_X6_goesOn 60) [some (mr 7 20), some (mi x1), some (mi x2), some (mi x3), some (mi x4), some (mi x5), some (mi x6), u7] [] (call 195 [mr 7 20, mi x5] g) := (mEv_3 _ _ _ _).trans rfl
theorem e_X6_goesOn_60 {X : mX} {call : Nat → List mV → mG → mR} {g : mG} {x1 x2 x3 x4 x5 x6 s0 : Int32} {u7 : Option mV} : mEv X call 0 t_X6_goesOn (mDrop t_X6_goesOn 60) [some (mr 7 20), some (mi x1), some (mi x2), some (mi x3), some (mi x4), some (mi x5), some (mi x6), u7] [mi s0] g = if s0 = 0 then mEv X call 0 t_X6_goesOn (mDrop t_X6_goesOn 67) [some (mr 7 20), some (mi x1), some (mi x2), some (mi x3), some (mi x4), some (mi x5), some (mi x6), u7] [] g else mEv X call 0 t_X6_goesOn (mDrop t_X6_goesOn 63) [some (mr 7 20), some (mi x1), some (mi x2), some (mi x3), some (mi x4), some (mi x5), some (mi x6), u7] [] g := (mEv_1 _ _ _ _).trans rfl
theorem e_X6_goesOn_63 {X : mX} {call : Nat → List mV → mG → mR} {g : mG} {x1 x2 x3 x4 x5 x6 : Int32} {u7 : Option mV} : mEv X call 0 t_X6_goesOn (mDrop t_X6_goesOn 63) [some (mr 7 20), some (mi x1), some (mi x2), some (mi x3), some (mi x4), some (mi x5), some (mi x6), u7] [] g = mEv X call 0 t_X6_goesOn (mDrop t_X6_goesOn 68) [some (mr 7 20), some (mi x1), some (mi x2), some (mi x3), some (mi x4), some (mi x5), some (mi x6), u7] [mi 1] g := (mEv_2 _ _ _ _).trans rfl
noncomputable def B_X6_goesOn_12  : (Int32 × Int32 × Int32 × Int32 × Int32 × mC) → (Int32 × Int32 × Int32 × Int32 × Int32 × mC) ⊕ (Option (mC)) := fun s => match s with | (x1, x2, x3, x4, x5, c) => (if 2 ≤ x5 then (.inr (if x1 = 0 then (if x2 = 0 then (some c) else (if x3 = 0 then (some c) else (mBo (α := Int32) none (P_X6_firstOf c 0 ((1 : Int32) - x4) (-1) 1) (fun v1 => (if v1 = (-1) then (mBo (α := Int32) none (P_X6_firstOf c 1 ((1 : Int32) - x4) (-1) 1) (fun v2 => (if v2 = (-1) then (J_X6_goesOn_168 c x4 0) else (J_X6_goesOn_163 c x4)))) else (J_X6_goesOn_163 c x4)))))) else (some c))) else (mBo (α := Int32) (.inr none) (P_X6_isHolding c x5) (fun v8 => (if v8 = 0 then (J_X6_goesOn_114 c x1 x2 x3 x4 x5) else (mBo (α := Int32) (.inr none) (P_X6_ofRing c x5 0) (fun v9 => (mBo (α := Int32) (.inr none) (P_X6_ofPhase c v9 1) (fun v10 => (if x3 = 0 then (J_X6_goesOn_67 c x1 1 v10 x5 v9) else (mBo (α := Int32) (.inr none) (P_X6_isDone c x5) (fun v11 => (if v11 = 0 then (J_X6_goesOn_67 c x1 1 v10 x5 v9) else (J_X6_goesOn_68 c x1 1 v10 x5 v9 1)))))))))))))
set_option maxRecDepth 100000 in
theorem tm_X6_goesOn_12  : mTm (B_X6_goesOn_12 ) := by
  refine ⟨fun s => match s with | (x1, x2, x3, x4, x5, c) => mMx x5, fun s s2 h => ?_⟩
  obtain ⟨x1, x2, x3, x4, x5, c⟩ := s
  simp only [B_X6_goesOn_12, J_X6_goesOn_114, J_X6_goesOn_67, J_X6_goesOn_68, J_X6_goesOn_93, mBd, mBo] at h
  (repeat' split at h) <;> first | (have h2 := Sum.inl.inj h; subst h2; dsimp only; first | exact mtm_max (by assumption) | exact mtm_lt (by assumption)) | (cases h; done)
theorem rl_X6_goesOn_12 (d : Nat) {X : mX} {g : mG} {x1 x2 x3 x4 x5 : Int32} {c : mC} : mEv X (mCall mD X (d + 8)) 0 t_X6_goesOn (mDrop t_X6_goesOn 12) [some (mr 7 20), some (mi x1), some (mi x2), some (mi x3), some (mi x4), some (mi x5), none, none] [] (mU g 7 c) = (wO (wV g 7)) (mWh none B_X6_goesOn_12 (x1, x2, x3, x4, x5, c)) := by
  refine mWh_ev (B := B_X6_goesOn_12) (ev := fun s : (Int32 × Int32 × Int32 × Int32 × Int32 × mC) => match s with | (x1, x2, x3, x4, x5, c) => mEv X (mCall mD X (d + 8)) 0 t_X6_goesOn (mDrop t_X6_goesOn 12) [some (mr 7 20), some (mi x1), some (mi x2), some (mi x3), some (mi x4), some (mi x5), none, none] [] (mU g 7 c)) (w := (wO (wV g 7))) (tm_X6_goesOn_12) ?_ (x1, x2, x3, x4, x5, c)
  rintro ⟨x1, x2, x3, x4, x5, c⟩
  show mEv X (mCall mD X (d + 8)) 0 t_X6_goesOn (mDrop t_X6_goesOn 12) [some (mr 7 20), some (mi x1), some (mi x2), some (mi x3), some (mi x4), some (mi x5), none, none] [] (mU g 7 c) = wB (fun s : (Int32 × Int32 × Int32 × Int32 × Int32 × mC) => match s with | (x1, x2, x3, x4, x5, c) => mEv X (mCall mD X (d + 8)) 0 t_X6_goesOn (mDrop t_X6_goesOn 12) [some (mr 7 20), some (mi x1), some (mi x2), some (mi x3), some (mi x4), some (mi x5), none, none] [] (mU g 7 c)) (wO (wV g 7)) (B_X6_goesOn_12  (x1, x2, x3, x4, x5, c))
  refine Eq.trans (e_X6_goesOn_12) ?_
  try simp only [mU_same, mU_mU]
  refine mw_ite (fun h15 => ?_) (fun h15 => ?_)
  · refine mw_inr ?_
    refine Eq.trans (e_X6_goesOn_120) ?_
    try simp only [mU_same, mU_mU]
    refine mw_ite (fun h7 => ?_) (fun h7 => ?_)
    · refine Eq.trans (e_X6_goesOn_124) ?_
      try simp only [mU_same, mU_mU]
      refine mw_ite (fun h6 => ?_) (fun h6 => ?_)
      · refine Eq.trans (e_X6_goesOn_132) ?_
        try simp only [mU_same, mU_mU]
        all_goals rfl
      · refine Eq.trans (e_X6_goesOn_128) ?_
        try simp only [mU_same, mU_mU]
        refine mw_ite (fun h5 => ?_) (fun h5 => ?_)
        · refine Eq.trans (e_X6_goesOn_132) ?_
          try simp only [mU_same, mU_mU]
          all_goals rfl
        · refine Eq.trans (e_X6_goesOn_133) ?_
          try simp only [mU_same, mU_mU]
          refine mw_oI ?_ (rr_X6_firstOf (d + 2)) (fun v1 => ?_)
          · rfl
          refine Eq.trans (e_X6_goesOn_144) ?_
          try simp only [mU_same, mU_mU]
          refine mw_ite (fun h4 => ?_) (fun h4 => ?_)
          · refine Eq.trans (e_X6_goesOn_148) ?_
            try simp only [mU_same, mU_mU]
            refine mw_oI ?_ (rr_X6_firstOf (d + 2)) (fun v2 => ?_)
            · rfl
            refine Eq.trans (e_X6_goesOn_159) ?_
            try simp only [mU_same, mU_mU]
            refine mw_ite (fun h3 => ?_) (fun h3 => ?_)
            · refine Eq.trans (e_X6_goesOn_167) ?_
              try simp only [mU_same, mU_mU]
              exact rj_X6_goesOn_168 d
            · exact rj_X6_goesOn_163 d
          · exact rj_X6_goesOn_163 d
    · refine Eq.trans (e_X6_goesOn_132) ?_
      try simp only [mU_same, mU_mU]
      all_goals rfl
  · refine Eq.trans (e_X6_goesOn_18) ?_
    try simp only [mU_same, mU_mU]
    refine mw_oZ ?_ (rr_X6_isHolding (d + 5)) rfl (fun v8 hv8 => ?_)
    · rfl
    refine Eq.trans (e_X6_goesOn_24) ?_
    try simp only [mU_same, mU_mU]
    refine mw_ite (fun h14 => ?_) (fun h14 => ?_)
    · refine Eq.trans (e_X6_goesOn_27) ?_
      try simp only [mU_same, mU_mU]
      exact rj_X6_goesOn_114 d
    · refine Eq.trans (e_X6_goesOn_30) ?_
      try simp only [mU_same, mU_mU]
      refine mw_oI ?_ (rr_X6_ofRing (d + 6)) (fun v9 => ?_)
      · rfl
      refine Eq.trans (e_X6_goesOn_37) ?_
      try simp only [mU_same, mU_mU]
      refine mw_oI ?_ (rr_X6_ofPhase (d + 6)) (fun v10 => ?_)
      · rfl
      refine Eq.trans (e_X6_goesOn_48) ?_
      try simp only [mU_same, mU_mU]
      refine mw_ite (fun h13 => ?_) (fun h13 => ?_)
      · exact rj_X6_goesOn_67 d
      · refine Eq.trans (e_X6_goesOn_54) ?_
        try simp only [mU_same, mU_mU]
        refine mw_oZ ?_ (rr_X6_isDone d) rfl (fun v11 hv11 => ?_)
        · rfl
        refine Eq.trans (e_X6_goesOn_60) ?_
        try simp only [mU_same, mU_mU]
        refine mw_ite (fun h12 => ?_) (fun h12 => ?_)
        · exact rj_X6_goesOn_67 d
        · refine Eq.trans (e_X6_goesOn_63) ?_
          try simp only [mU_same, mU_mU]
          exact rj_X6_goesOn_68 d
noncomputable def P_X6_goesOn (c : mC) : (Option (mC)) := (mWh none B_X6_goesOn_12 (0, 0, 1, 0, 0, c))
theorem rr_X6_goesOn (d : Nat) {X : mX} {g : mG} {c : mC} : mCall mD X (d + 9) 196 [mr 7 20] (mU g 7 c) = (wO (wV g 7)) (P_X6_goesOn c) := by
  refine Eq.trans (mCall_eq (d := d + 8) rfl) ?_
  show mEv X (mCall mD X (d + 8)) 0 t_X6_goesOn (mDrop t_X6_goesOn 0) [some (mr 7 20), none, none, none, none, none, none, none] [] (mU g 7 c) = _
  refine Eq.trans (e_X6_goesOn_0) ?_
  try simp only [mU_same, mU_mU]
  exact Eq.trans hk_X6_goesOn_12 (rl_X6_goesOn_12 d)
theorem rr_X6_goesOn_at (d : Nat) {X : mX} {g : mG} : mCall mD X (d + 9) 196 [mr 7 20] g = wO (wV g 7) (P_X6_goesOn (g 7)) := by
  have h := rr_X6_goesOn (X := X) d (g := g) (c := g 7)
  rw [mU_self] at h
  exact h
theorem e_X6_becomes_0 {X : mX} {call : Nat → List mV → mG → mR} {g : mG} : mEv X call 0 t_X6_becomes (mDrop t_X6_becomes 0) [some (mr 7 20), none, none] [] g = mEv X call 0 t_X6_becomes (mDrop t_X6_becomes 2) [some (mr 7 20), some (mi 0), none] [] g := (mEv_2 _ _ _ _).trans rfl
theorem hk_X6_becomes_2 {X : mX} {call : Nat → List mV → mG → mR} {g : mG} {x1 : Int32} {k2 : Option mV} : mEv X call 0 t_X6_becomes (mDrop t_X6_becomes 2) [some (mr 7 20), some (mi x1), k2] [] g = mEv X call 0 t_X6_becomes (mDrop t_X6_becomes 2) [some (mr 7 20), some (mi x1), none] [] g := Eq.trans (mEv_1 _ _ _ _) (Eq.symm (Eq.trans (mEv_1 _ _ _ _) rfl))
theorem e_X6_becomes_2 {X : mX} {call : Nat → List mV → mG → mR} {g : mG} {x1 : Int32} {u2 : Option mV} : mEv X call 0 t_X6_becomes (mDrop t_X6_becomes 2) [some (mr 7 20), some (mi x1), u2] [] g = if 2 ≤ x1 then mEv X call 0 t_X6_becomes (mDrop t_X6_becomes 73) [some (mr 7 20), some (mi x1), none] [] g else mEv X call 0 t_X6_becomes (mDrop t_X6_becomes 7) [some (mr 7 20), some (mi x1), none] [] g := (mEv_3 _ _ _ _).trans rfl
theorem e_X6_becomes_73 {X : mX} {call : Nat → List mV → mG → mR} {g : mG} {x1 : Int32} {u2 : Option mV} : mEv X call 0 t_X6_becomes (mDrop t_X6_becomes 73) [some (mr 7 20), some (mi x1), u2] [] g = some (none, g) := (mEv_1 _ _ _ _).trans rfl
theorem e_X6_becomes_7 {X : mX} {call : Nat → List mV → mG → mR} {g : mG} {x1 : Int32} {u2 : Option mV} : mEv X call 0 t_X6_becomes (mDrop t_X6_becomes 7) [some (mr 7 20), some (mi x1), u2] [] g = mAns (mEv X call 0 t_X6_becomes) (mDrop t_X6_becomes 13) [some (mr 7 20), some (mi x1), u2] [] (call 163 [mr 7 20, mi x1, mi 3] g) := (mEv_4 _ _ _ _).trans rfl
theorem e_X6_becomes_13 {X : mX} {call : Nat → List mV → mG → mR} {g : mG} {x1 s0 : Int32} {u2 : Option mV} : mEv X call 0 t_X6_becomes (mDrop t_X6_becomes 13) [some (mr 7 20), some (mi x1), u2] [mi s0] g = mAns (mEv X call 0 t_X6_becomes) (mDrop t_X6_becomes 20) [some (mr 7 20), some (mi x1), some (mi s0)] [] (call 163 [mr 7 20, mi x1, mi 1] g) := (mEv_5 _ _ _ _).trans rfl
theorem e_X6_becomes_20 {X : mX} {call : Nat → List mV → mG → mR} {g : mG} {x1 x2 s0 : Int32} : mEv X call 0 t_X6_becomes (mDrop t_X6_becomes 20) [some (mr 7 20), some (mi x1), some (mi x2)] [mi s0] g = if s0 = 3 then mEv X call 0 t_X6_becomes (mDrop t_X6_becomes 24) [some (mr 7 20), some (mi x1), some (mi x2)] [] g else mEv X call 0 t_X6_becomes (mDrop t_X6_becomes 67) [some (mr 7 20), some (mi x1), some (mi x2)] [] g := (mEv_2 _ _ _ _).trans rfl
theorem e_X6_becomes_24 {X : mX} {call : Nat → List mV → mG → mR} {g : mG} {x1 x2 : Int32} : mEv X call 0 t_X6_becomes (mDrop t_X6_becomes 24) [some (mr 7 20), some (mi x1), some (mi x2)] [] g = if x2 = (-1) then mEv X call 0 t_X6_becomes (mDrop t_X6_becomes 29) [some (mr 7 20), some (mi x1), some (mi x2)] [] g else mEv X call 0 t_X6_becomes (mDrop t_X6_becomes 32) [some (mr 7 20), some (mi x1), some (mi x2)] [] g := (mEv_3 _ _ _ _).trans rfl
theorem e_X6_becomes_29 {X : mX} {call : Nat → List mV → mG → mR} {g : mG} {x1 x2 : Int32} : mEv X call 0 t_X6_becomes (mDrop t_X6_becomes 29) [some (mr 7 20), some (mi x1), some (mi x2)] [] g = mEv X call 0 t_X6_becomes (mDrop t_X6_becomes 67) [some (mr 7 20), some (mi x1), some (mi x2)] [] g := (mEv_1 _ _ _ _).trans rfl
theorem e_X6_becomes_67 {X : mX} {call : Nat → List mV → mG → mR} {g : mG} {x1 x2 : Int32} : mEv X call 0 t_X6_becomes (mDrop t_X6_becomes 67) [some (mr 7 20), some (mi x1), some (mi x2)] [] g = mEv X call 0 t_X6_becomes (mDrop t_X6_becomes 2) [some (mr 7 20), some (mi (x1 + 1)), some (mi x2)] [] g := (mEv_2 _ _ _ _).trans rfl
noncomputable def J_X6_becomes_67 (c : mC) (x1 : Int32) : ((Int32 × mC) ⊕ (Option (mC))) := (.inl ((x1 + 1), c))
theorem rj_X6_becomes_67 (d : Nat) {X : mX} {g : mG} {x1 x2 : Int32} {c : mC} : mEv X (mCall mD X (d + 5)) 0 t_X6_becomes (mDrop t_X6_becomes 67) [some (mr 7 20), some (mi x1), some (mi x2)] [] (mU g 7 c) = (wB (fun s : (Int32 × mC) => match s with | (x1, c) => mEv X (mCall mD X (d + 5)) 0 t_X6_becomes (mDrop t_X6_becomes 2) [some (mr 7 20), some (mi x1), none] [] (mU g 7 c)) (wO (wV g 7))) (J_X6_becomes_67 c x1) := by
  refine Eq.trans (e_X6_becomes_67) ?_
  try simp only [mU_same, mU_mU]
  exact mw_inl hk_X6_becomes_2
theorem e_X6_becomes_32 {X : mX} {call : Nat → List mV → mG → mR} {g : mG} {x1 x2 : Int32} : mEv X call 0 t_X6_becomes (mDrop t_X6_becomes 32) [some (mr 7 20), some (mi x1), some (mi x2)] [] g = mAns (mEv X call 0 t_X6_becomes) (mDrop t_X6_becomes 39) [some (mr 7 20), some (mi x1), some (mi x2)] [] (call 180 [mr 7 20, mi ((1 : Int32) - x1)] g) := (mEv_5 _ _ _ _).trans rfl
theorem e_X6_becomes_39 {X : mX} {call : Nat → List mV → mG → mR} {g : mG} {x1 x2 s0 : Int32} : mEv X call 0 t_X6_becomes (mDrop t_X6_becomes 39) [some (mr 7 20), some (mi x1), some (mi x2)] [mi s0] g = if s0 = 0 then mEv X call 0 t_X6_becomes (mDrop t_X6_becomes 61) [some (mr 7 20), some (mi x1), some (mi x2)] [] g else mEv X call 0 t_X6_becomes (mDrop t_X6_becomes 42) [some (mr 7 20), some (mi x1), some (mi x2)] [] g := (mEv_1 _ _ _ _).trans rfl
theorem e_X6_becomes_61 {X : mX} {call : Nat → List mV → mG → mR} {g : mG} {x1 x2 : Int32} : mEv X call 0 t_X6_becomes (mDrop t_X6_becomes 61) [some (mr 7 20), some (mi x1), some (mi x2)] [] g = mAns (mEv X call 0 t_X6_becomes) (mDrop t_X6_becomes 67) [some (mr 7 20), some (mi x1), some (mi x2)] [] (call 183 [mr 7 20, mi x1, mi x2] g) := (mEv_4 _ _ _ _).trans rfl
noncomputable def J_X6_becomes_61 (c : mC) (x1 : Int32) (x2 : Int32) : ((Int32 × mC) ⊕ (Option (mC))) := (mBo (α := mC) (.inr none) (P_X6_becomesGreen c x1 x2) (fun c1 => (J_X6_becomes_67 c1 x1)))
theorem rj_X6_becomes_61 (d : Nat) {X : mX} {g : mG} {x1 x2 : Int32} {c : mC} : mEv X (mCall mD X (d + 5)) 0 t_X6_becomes (mDrop t_X6_becomes 61) [some (mr 7 20), some (mi x1), some (mi x2)] [] (mU g 7 c) = (wB (fun s : (Int32 × mC) => match s with | (x1, c) => mEv X (mCall mD X (d + 5)) 0 t_X6_becomes (mDrop t_X6_becomes 2) [some (mr 7 20), some (mi x1), none] [] (mU g 7 c)) (wO (wV g 7))) (J_X6_becomes_61 c x1 x2) := by
  refine Eq.trans (e_X6_becomes_61) ?_
  try simp only [mU_same, mU_mU]
  refine mw_oV ?_ (rr_X6_becomesGreen d) (fun c1 => ?_)
  · rfl
  exact rj_X6_becomes_67 d
theorem e_X6_becomes_42 {X : mX} {call : Nat → List mV → mG → mR} {g : mG} {x1 x2 : Int32} : mEv X call 0 t_X6_becomes (mDrop t_X6_becomes 42) [some (mr 7 20), some (mi x1), some (mi x2)] [] g = mAns (mEv X call 0 t_X6_becomes) (mDrop t_X6_becomes 52) [some (mr 7 20), some (mi x1), some (mi x2)] [mi x2, mr 7 20] (call 163 [mr 7 20, mi ((1 : Int32) - x1), mi 0] g) := (mEv_8 _ _ _ _).trans rfl
theorem e_X6_becomes_52 {X : mX} {call : Nat → List mV → mG → mR} {g : mG} {x1 x2 s1 s2 : Int32} : mEv X call 0 t_X6_becomes (mDrop t_X6_becomes 52) [some (mr 7 20), some (mi x1), some (mi x2)] [mi s2, mi s1, mr 7 20] g = mAns (mEv X call 0 t_X6_becomes) (mDrop t_X6_becomes 55) [some (mr 7 20), some (mi x1), some (mi x2)] [] (call 170 [mr 7 20, mi s1, mi s2] g) := (mEv_1 _ _ _ _).trans rfl
theorem e_X6_becomes_55 {X : mX} {call : Nat → List mV → mG → mR} {g : mG} {x1 x2 s0 : Int32} : mEv X call 0 t_X6_becomes (mDrop t_X6_becomes 55) [some (mr 7 20), some (mi x1), some (mi x2)] [mi s0] g = if s0 = 0 then mEv X call 0 t_X6_becomes (mDrop t_X6_becomes 61) [some (mr 7 20), some (mi x1), some (mi x2)] [] g else mEv X call 0 t_X6_becomes (mDrop t_X6_becomes 58) [some (mr 7 20), some (mi x1), some (mi x2)] [] g := (mEv_1 _ _ _ _).trans rfl
theorem e_X6_becomes_58 {X : mX} {call : Nat → List mV → mG → mR} {g : mG} {x1 x2 : Int32} : mEv X call 0 t_X6_becomes (mDrop t_X6_becomes 58) [some (mr 7 20), some (mi x1), some (mi x2)] [] g = mEv X call 0 t_X6_becomes (mDrop t_X6_becomes 67) [some (mr 7 20), some (mi x1), some (mi x2)] [] g := (mEv_1 _ _ _ _).trans rfl
noncomputable def B_X6_becomes_2  : (Int32 × mC) → (Int32 × mC) ⊕ (Option (mC)) := fun s => match s with | (x1, c) => (if 2 ≤ x1 then (.inr (some c)) else (mBo (α := Int32) (.inr none) (P_X6_ofRing c x1 3) (fun v1 => (mBo (α := Int32) (.inr none) (P_X6_ofRing c x1 1) (fun v2 => (if v2 = 3 then (if v1 = (-1) then (J_X6_becomes_67 c x1) else (mBo (α := Int32) (.inr none) (P_X6_isHolding c ((1 : Int32) - x1)) (fun v3 => (if v3 = 0 then (J_X6_becomes_61 c x1 v1) else (mBo (α := Int32) (.inr none) (P_X6_ofRing c ((1 : Int32) - x1) 0) (fun v4 => (mBo (α := Int32) (.inr none) (P_X6_areFoes c v1 v4) (fun v5 => (if v5 = 0 then (J_X6_becomes_61 c x1 v1) else (J_X6_becomes_67 c x1)))))))))) else (J_X6_becomes_67 c x1)))))))
set_option maxRecDepth 100000 in
theorem tm_X6_becomes_2  : mTm (B_X6_becomes_2 ) := by
  refine ⟨fun s => match s with | (x1, c) => mMx x1, fun s s2 h => ?_⟩
  obtain ⟨x1, c⟩ := s
  simp only [B_X6_becomes_2, J_X6_becomes_67, J_X6_becomes_61, mBd, mBo] at h
  (repeat' split at h) <;> first | (have h2 := Sum.inl.inj h; subst h2; dsimp only; first | exact mtm_max (by assumption) | exact mtm_lt (by assumption)) | (cases h; done)
theorem rl_X6_becomes_2 (d : Nat) {X : mX} {g : mG} {x1 : Int32} {c : mC} : mEv X (mCall mD X (d + 5)) 0 t_X6_becomes (mDrop t_X6_becomes 2) [some (mr 7 20), some (mi x1), none] [] (mU g 7 c) = (wO (wV g 7)) (mWh none B_X6_becomes_2 (x1, c)) := by
  refine mWh_ev (B := B_X6_becomes_2) (ev := fun s : (Int32 × mC) => match s with | (x1, c) => mEv X (mCall mD X (d + 5)) 0 t_X6_becomes (mDrop t_X6_becomes 2) [some (mr 7 20), some (mi x1), none] [] (mU g 7 c)) (w := (wO (wV g 7))) (tm_X6_becomes_2) ?_ (x1, c)
  rintro ⟨x1, c⟩
  show mEv X (mCall mD X (d + 5)) 0 t_X6_becomes (mDrop t_X6_becomes 2) [some (mr 7 20), some (mi x1), none] [] (mU g 7 c) = wB (fun s : (Int32 × mC) => match s with | (x1, c) => mEv X (mCall mD X (d + 5)) 0 t_X6_becomes (mDrop t_X6_becomes 2) [some (mr 7 20), some (mi x1), none] [] (mU g 7 c)) (wO (wV g 7)) (B_X6_becomes_2  (x1, c))
  refine Eq.trans (e_X6_becomes_2) ?_
  try simp only [mU_same, mU_mU]
  refine mw_ite (fun h10 => ?_) (fun h10 => ?_)
  · refine mw_inr ?_
    refine Eq.trans (e_X6_becomes_73) ?_
    try simp only [mU_same, mU_mU]
    all_goals rfl
  · refine Eq.trans (e_X6_becomes_7) ?_
    try simp only [mU_same, mU_mU]
    refine mw_oI ?_ (rr_X6_ofRing (d + 3)) (fun v1 => ?_)
    · rfl
    refine Eq.trans (e_X6_becomes_13) ?_
    try simp only [mU_same, mU_mU]
    refine mw_oI ?_ (rr_X6_ofRing (d + 3)) (fun v2 => ?_)
    · rfl
    refine Eq.trans (e_X6_becomes_20) ?_
    try simp only [mU_same, mU_mU]
    refine mw_ite (fun h9 => ?_) (fun h9 => ?_)
    · refine Eq.trans (e_X6_becomes_24) ?_
      try simp only [mU_same, mU_mU]
      refine mw_ite (fun h8 => ?_) (fun h8 => ?_)
      · refine Eq.trans (e_X6_becomes_29) ?_
        try simp only [mU_same, mU_mU]
        exact rj_X6_becomes_67 d
      · refine Eq.trans (e_X6_becomes_32) ?_
        try simp only [mU_same, mU_mU]
        refine mw_oZ ?_ (rr_X6_isHolding (d + 2)) rfl (fun v3 hv3 => ?_)
        · rfl
        refine Eq.trans (e_X6_becomes_39) ?_
        try simp only [mU_same, mU_mU]
        refine mw_ite (fun h7 => ?_) (fun h7 => ?_)
        · exact rj_X6_becomes_61 d
        · refine Eq.trans (e_X6_becomes_42) ?_
          try simp only [mU_same, mU_mU]
          refine mw_oI ?_ (rr_X6_ofRing (d + 3)) (fun v4 => ?_)
          · rfl
          refine Eq.trans (e_X6_becomes_52) ?_
          try simp only [mU_same, mU_mU]
          refine mw_oZ ?_ (rr_X6_areFoes (d + 2)) rfl (fun v5 hv5 => ?_)
          · rfl
          refine Eq.trans (e_X6_becomes_55) ?_
          try simp only [mU_same, mU_mU]
          refine mw_ite (fun h6 => ?_) (fun h6 => ?_)
          · exact rj_X6_becomes_61 d
          · refine Eq.trans (e_X6_becomes_58) ?_
            try simp only [mU_same, mU_mU]
            exact rj_X6_becomes_67 d
    · exact rj_X6_becomes_67 d
noncomputable def P_X6_becomes (c : mC) : (Option (mC)) := (mWh none B_X6_becomes_2 (0, c))
theorem rr_X6_becomes (d : Nat) {X : mX} {g : mG} {c : mC} : mCall mD X (d + 6) 197 [mr 7 20] (mU g 7 c) = (wO (wV g 7)) (P_X6_becomes c) := by
  refine Eq.trans (mCall_eq (d := d + 5) rfl) ?_
  show mEv X (mCall mD X (d + 5)) 0 t_X6_becomes (mDrop t_X6_becomes 0) [some (mr 7 20), none, none] [] (mU g 7 c) = _
  refine Eq.trans (e_X6_becomes_0) ?_
  try simp only [mU_same, mU_mU]
  exact Eq.trans hk_X6_becomes_2 (rl_X6_becomes_2 d)
theorem rr_X6_becomes_at (d : Nat) {X : mX} {g : mG} : mCall mD X (d + 6) 197 [mr 7 20] g = wO (wV g 7) (P_X6_becomes (g 7)) := by
  have h := rr_X6_becomes (X := X) d (g := g) (c := g 7)
  rw [mU_self] at h
  exact h
theorem e_X6_shown_0 {X : mX} {call : Nat → List mV → mG → mR} {g : mG} : mEv X call 1 t_X6_shown (mDrop t_X6_shown 0) [some (mr 7 20), none, none] [] g = mAns (mEv X call 1 t_X6_shown) (mDrop t_X6_shown 6) [some (mr 7 20), none, none] [] (call 158 [mr 7 20, mi 6] g) := (mEv_3 _ _ _ _).trans rfl
theorem e_X6_shown_6 {X : mX} {call : Nat → List mV → mG → mR} {g : mG} {s0 : Int32} : mEv X call 1 t_X6_shown (mDrop t_X6_shown 6) [some (mr 7 20), none, none] [mi s0] g = mEv X call 1 t_X6_shown (mDrop t_X6_shown 9) [some (mr 7 20), some (mi s0), some (mi 0)] [] g := (mEv_3 _ _ _ _).trans rfl
theorem e_X6_shown_9 {X : mX} {call : Nat → List mV → mG → mR} {g : mG} {x1 x2 : Int32} : mEv X call 1 t_X6_shown (mDrop t_X6_shown 9) [some (mr 7 20), some (mi x1), some (mi x2)] [] g = if 2 ≤ x2 then mEv X call 1 t_X6_shown (mDrop t_X6_shown 53) [some (mr 7 20), some (mi x1), some (mi x2)] [] g else mEv X call 1 t_X6_shown (mDrop t_X6_shown 14) [some (mr 7 20), some (mi x1), some (mi x2)] [] g := (mEv_3 _ _ _ _).trans rfl
theorem e_X6_shown_53 {X : mX} {call : Nat → List mV → mG → mR} {g : mG} {x1 x2 : Int32} : mEv X call 1 t_X6_shown (mDrop t_X6_shown 53) [some (mr 7 20), some (mi x1), some (mi x2)] [] g = some (some (mi x1), g) := (mEv_2 _ _ _ _).trans rfl
theorem e_X6_shown_14 {X : mX} {call : Nat → List mV → mG → mR} {g : mG} {x1 x2 : Int32} : mEv X call 1 t_X6_shown (mDrop t_X6_shown 14) [some (mr 7 20), some (mi x1), some (mi x2)] [] g = mAns (mEv X call 1 t_X6_shown) (mDrop t_X6_shown 20) [some (mr 7 20), some (mi x1), some (mi x2)] [mi x1] (call 180 [mr 7 20, mi x2] g) := (mEv_4 _ _ _ _).trans rfl
theorem e_X6_shown_20 {X : mX} {call : Nat → List mV → mG → mR} {g : mG} {x1 x2 s0 s1 : Int32} : mEv X call 1 t_X6_shown (mDrop t_X6_shown 20) [some (mr 7 20), some (mi x1), some (mi x2)] [mi s1, mi s0] g = if s1 = 0 then mEv X call 1 t_X6_shown (mDrop t_X6_shown 44) [some (mr 7 20), some (mi x1), some (mi x2)] [mi s0] g else mEv X call 1 t_X6_shown (mDrop t_X6_shown 23) [some (mr 7 20), some (mi x1), some (mi x2)] [mi s0] g := (mEv_1 _ _ _ _).trans rfl
theorem e_X6_shown_44 {X : mX} {call : Nat → List mV → mG → mR} {g : mG} {x1 x2 s0 : Int32} : mEv X call 1 t_X6_shown (mDrop t_X6_shown 44) [some (mr 7 20), some (mi x1), some (mi x2)] [mi s0] g = mEv X call 1 t_X6_shown (mDrop t_X6_shown 45) [some (mr 7 20), some (mi x1), some (mi x2)] [mi 0, mi s0] g := (mEv_1 _ _ _ _).trans rfl
theorem e_X6_shown_45 {X : mX} {call : Nat → List mV → mG → mR} {g : mG} {x1 x2 s0 s1 : Int32} : mEv X call 1 t_X6_shown (mDrop t_X6_shown 45) [some (mr 7 20), some (mi x1), some (mi x2)] [mi s1, mi s0] g = mEv X call 1 t_X6_shown (mDrop t_X6_shown 9) [some (mr 7 20), some (mi (s0 ||| s1)), some (mi (x2 + 1))] [] g := (mEv_4 _ _ _ _).trans rfl
noncomputable def J_X6_shown_45 (c : mC) (x2 : Int32) (s0 : Int32) (s1 : Int32) : ((Int32 × Int32) ⊕ (Option (Int32))) := (.inl ((s0 ||| s1), (x2 + 1)))
theorem rj_X6_shown_45 (d : Nat) {X : mX} {g : mG} {x1 x2 s0 s1 : Int32} {c : mC} : mEv X (mCall mD X (d + 3)) 1 t_X6_shown (mDrop t_X6_shown 45) [some (mr 7 20), some (mi x1), some (mi x2)] [mi s1, mi s0] (mU g 7 c) = (wB (fun s : (Int32 × Int32) => match s with | (x1, x2) => mEv X (mCall mD X (d + 3)) 1 t_X6_shown (mDrop t_X6_shown 9) [some (mr 7 20), some (mi x1), some (mi x2)] [] (mU g 7 c)) (wO (wI g 7 c))) (J_X6_shown_45 c x2 s0 s1) := by
  refine Eq.trans (e_X6_shown_45) ?_
  try simp only [mU_same, mU_mU]
  exact mw_inl rfl
noncomputable def J_X6_shown_44 (c : mC) (x2 : Int32) (s0 : Int32) : ((Int32 × Int32) ⊕ (Option (Int32))) := (J_X6_shown_45 c x2 s0 0)
theorem rj_X6_shown_44 (d : Nat) {X : mX} {g : mG} {x1 x2 s0 : Int32} {c : mC} : mEv X (mCall mD X (d + 3)) 1 t_X6_shown (mDrop t_X6_shown 44) [some (mr 7 20), some (mi x1), some (mi x2)] [mi s0] (mU g 7 c) = (wB (fun s : (Int32 × Int32) => match s with | (x1, x2) => mEv X (mCall mD X (d + 3)) 1 t_X6_shown (mDrop t_X6_shown 9) [some (mr 7 20), some (mi x1), some (mi x2)] [] (mU g 7 c)) (wO (wI g 7 c))) (J_X6_shown_44 c x2 s0) := by
  refine Eq.trans (e_X6_shown_44) ?_
  try simp only [mU_same, mU_mU]
  exact rj_X6_shown_45 d
theorem e_X6_shown_23 {X : mX} {call : Nat → List mV → mG → mR} {g : mG} {x1 x2 s0 : Int32} : mEv X call 1 t_X6_shown (mDrop t_X6_shown 23) [some (mr 7 20), some (mi x1), some (mi x2)] [mi s0] g = mAns (mEv X call 1 t_X6_shown) (mDrop t_X6_shown 29) [some (mr 7 20), some (mi x1), some (mi x2)] [mi s0] (call 163 [mr 7 20, mi x2, mi 1] g) := (mEv_4 _ _ _ _).trans rfl
theorem e_X6_shown_29 {X : mX} {call : Nat → List mV → mG → mR} {g : mG} {x1 x2 s0 s1 : Int32} : mEv X call 1 t_X6_shown (mDrop t_X6_shown 29) [some (mr 7 20), some (mi x1), some (mi x2)] [mi s1, mi s0] g = if 2 ≤ s1 then mEv X call 1 t_X6_shown (mDrop t_X6_shown 44) [some (mr 7 20), some (mi x1), some (mi x2)] [mi s0] g else mEv X call 1 t_X6_shown (mDrop t_X6_shown 33) [some (mr 7 20), some (mi x1), some (mi x2)] [mi s0] g := (mEv_2 _ _ _ _).trans rfl
theorem e_X6_shown_33 {X : mX} {call : Nat → List mV → mG → mR} {g : mG} {x1 x2 s0 : Int32} : mEv X call 1 t_X6_shown (mDrop t_X6_shown 33) [some (mr 7 20), some (mi x1), some (mi x2)] [mi s0] g = mAns (mEv X call 1 t_X6_shown) (mDrop t_X6_shown 40) [some (mr 7 20), some (mi x1), some (mi x2)] [mi 1, mi s0] (call 163 [mr 7 20, mi x2, mi 0] g) := (mEv_5 _ _ _ _).trans rfl
theorem e_X6_shown_40 {X : mX} {call : Nat → List mV → mG → mR} {g : mG} {x1 x2 s0 s1 s2 : Int32} : mEv X call 1 t_X6_shown (mDrop t_X6_shown 40) [some (mr 7 20), some (mi x1), some (mi x2)] [mi s2, mi s1, mi s0] g = mEv X call 1 t_X6_shown (mDrop t_X6_shown 45) [some (mr 7 20), some (mi x1), some (mi x2)] [mi (s1 <<< (s2 &&& 31)), mi s0] g := (mEv_2 _ _ _ _).trans rfl
noncomputable def B_X6_shown_9 (c : mC) : (Int32 × Int32) → (Int32 × Int32) ⊕ (Option (Int32)) := fun s => match s with | (x1, x2) => (if 2 ≤ x2 then (.inr (some x1)) else (mBo (α := Int32) (.inr none) (P_X6_isHolding c x2) (fun v1 => (if v1 = 0 then (J_X6_shown_44 c x2 x1) else (mBo (α := Int32) (.inr none) (P_X6_ofRing c x2 1) (fun v2 => (if 2 ≤ v2 then (J_X6_shown_44 c x2 x1) else (mBo (α := Int32) (.inr none) (P_X6_ofRing c x2 0) (fun v3 => (J_X6_shown_45 c x2 x1 ((1 : Int32) <<< (v3 &&& 31))))))))))))
set_option maxRecDepth 100000 in
theorem tm_X6_shown_9 {c : mC} : mTm (B_X6_shown_9 c) := by
  refine ⟨fun s => match s with | (x1, x2) => mMx x2, fun s s2 h => ?_⟩
  obtain ⟨x1, x2⟩ := s
  simp only [B_X6_shown_9, J_X6_shown_44, J_X6_shown_45, mBd, mBo] at h
  (repeat' split at h) <;> first | (have h2 := Sum.inl.inj h; subst h2; dsimp only; first | exact mtm_max (by assumption) | exact mtm_lt (by assumption)) | (cases h; done)
theorem rl_X6_shown_9 (d : Nat) {X : mX} {g : mG} {x1 x2 : Int32} {c : mC} : mEv X (mCall mD X (d + 3)) 1 t_X6_shown (mDrop t_X6_shown 9) [some (mr 7 20), some (mi x1), some (mi x2)] [] (mU g 7 c) = (wO (wI g 7 c)) (mWh none (B_X6_shown_9 c) (x1, x2)) := by
  refine mWh_ev (B := (B_X6_shown_9 c)) (ev := fun s : (Int32 × Int32) => match s with | (x1, x2) => mEv X (mCall mD X (d + 3)) 1 t_X6_shown (mDrop t_X6_shown 9) [some (mr 7 20), some (mi x1), some (mi x2)] [] (mU g 7 c)) (w := (wO (wI g 7 c))) (tm_X6_shown_9) ?_ (x1, x2)
  rintro ⟨x1, x2⟩
  show mEv X (mCall mD X (d + 3)) 1 t_X6_shown (mDrop t_X6_shown 9) [some (mr 7 20), some (mi x1), some (mi x2)] [] (mU g 7 c) = wB (fun s : (Int32 × Int32) => match s with | (x1, x2) => mEv X (mCall mD X (d + 3)) 1 t_X6_shown (mDrop t_X6_shown 9) [some (mr 7 20), some (mi x1), some (mi x2)] [] (mU g 7 c)) (wO (wI g 7 c)) (B_X6_shown_9 c (x1, x2))
  refine Eq.trans (e_X6_shown_9) ?_
  try simp only [mU_same, mU_mU]
  refine mw_ite (fun h6 => ?_) (fun h6 => ?_)
  · refine mw_inr ?_
    refine Eq.trans (e_X6_shown_53) ?_
    try simp only [mU_same, mU_mU]
    all_goals rfl
  · refine Eq.trans (e_X6_shown_14) ?_
    try simp only [mU_same, mU_mU]
    refine mw_oZ ?_ (rr_X6_isHolding d) rfl (fun v1 hv1 => ?_)
    · rfl
    refine Eq.trans (e_X6_shown_20) ?_
    try simp only [mU_same, mU_mU]
    refine mw_ite (fun h5 => ?_) (fun h5 => ?_)
    · exact rj_X6_shown_44 d
    · refine Eq.trans (e_X6_shown_23) ?_
      try simp only [mU_same, mU_mU]
      refine mw_oI ?_ (rr_X6_ofRing (d + 1)) (fun v2 => ?_)
      · rfl
      refine Eq.trans (e_X6_shown_29) ?_
      try simp only [mU_same, mU_mU]
      refine mw_ite (fun h4 => ?_) (fun h4 => ?_)
      · exact rj_X6_shown_44 d
      · refine Eq.trans (e_X6_shown_33) ?_
        try simp only [mU_same, mU_mU]
        refine mw_oI ?_ (rr_X6_ofRing (d + 1)) (fun v3 => ?_)
        · rfl
        refine Eq.trans (e_X6_shown_40) ?_
        try simp only [mU_same, mU_mU]
        exact rj_X6_shown_45 d
noncomputable def P_X6_shown (c : mC) : (Option (Int32)) := (mBo (α := Int32) none (P_X6_of c 6) (fun v1 => (mWh none (B_X6_shown_9 c) (v1, 0))))
theorem rr_X6_shown (d : Nat) {X : mX} {g : mG} {c : mC} : mCall mD X (d + 4) 198 [mr 7 20] (mU g 7 c) = (wO (wI g 7 c)) (P_X6_shown c) := by
  refine Eq.trans (mCall_eq (d := d + 3) rfl) ?_
  show mEv X (mCall mD X (d + 3)) 1 t_X6_shown (mDrop t_X6_shown 0) [some (mr 7 20), none, none] [] (mU g 7 c) = _
  refine Eq.trans (e_X6_shown_0) ?_
  try simp only [mU_same, mU_mU]
  refine mw_oI ?_ (rr_X6_of (d + 2)) (fun v1 => ?_)
  · rfl
  refine Eq.trans (e_X6_shown_6) ?_
  try simp only [mU_same, mU_mU]
  exact rl_X6_shown_9 d
theorem rr_X6_shown_at (d : Nat) {X : mX} {g : mG} : mCall mD X (d + 4) 198 [mr 7 20] g = wO (wN g) (P_X6_shown (g 7)) := by
  have h := rr_X6_shown (X := X) d (g := g) (c := g 7)
  rw [mU_self] at h
  exact h.trans (wOI_self _ _ _)
theorem e_X6_noBreak_0 {X : mX} {call : Nat → List mV → mG → mR} {g : mG} : mEv X call 0 t_X6_noBreak (mDrop t_X6_noBreak 0) [some (mr 7 20)] [] g = mAns (mEv X call 0 t_X6_noBreak) (mDrop t_X6_noBreak 7) [some (mr 7 20)] [] (call 159 [mr 7 20, mi 7, mi (-1)] g) := (mEv_4 _ _ _ _).trans rfl
theorem e_X6_noBreak_7 {X : mX} {call : Nat → List mV → mG → mR} {g : mG} : mEv X call 0 t_X6_noBreak (mDrop t_X6_noBreak 7) [some (mr 7 20)] [] g = mAns (mEv X call 0 t_X6_noBreak) (mDrop t_X6_noBreak 14) [some (mr 7 20)] [] (call 159 [mr 7 20, mi 8, mi 0] g) := (mEv_4 _ _ _ _).trans rfl
theorem e_X6_noBreak_14 {X : mX} {call : Nat → List mV → mG → mR} {g : mG} : mEv X call 0 t_X6_noBreak (mDrop t_X6_noBreak 14) [some (mr 7 20)] [] g = mAns (mEv X call 0 t_X6_noBreak) (mDrop t_X6_noBreak 21) [some (mr 7 20)] [] (call 159 [mr 7 20, mi 9, mi 0] g) := (mEv_4 _ _ _ _).trans rfl
theorem e_X6_noBreak_21 {X : mX} {call : Nat → List mV → mG → mR} {g : mG} : mEv X call 0 t_X6_noBreak (mDrop t_X6_noBreak 21) [some (mr 7 20)] [] g = some (none, g) := (mEv_1 _ _ _ _).trans rfl
noncomputable def P_X6_noBreak (c : mC) : (Option (mC)) := (mBo (α := mC) none (P_X6_puts c 7 (-1)) (fun c1 => (mBo (α := mC) none (P_X6_puts c1 8 0) (fun c2 => (mBo (α := mC) none (P_X6_puts c2 9 0) (fun c3 => (some c3)))))))
theorem rr_X6_noBreak (d : Nat) {X : mX} {g : mG} {c : mC} : mCall mD X (d + 2) 203 [mr 7 20] (mU g 7 c) = (wO (wV g 7)) (P_X6_noBreak c) := by
  refine Eq.trans (mCall_eq (d := d + 1) rfl) ?_
  show mEv X (mCall mD X (d + 1)) 0 t_X6_noBreak (mDrop t_X6_noBreak 0) [some (mr 7 20)] [] (mU g 7 c) = _
  refine Eq.trans (e_X6_noBreak_0) ?_
  try simp only [mU_same, mU_mU]
  refine mw_oV ?_ (rr_X6_puts d) (fun c1 => ?_)
  · rfl
  refine Eq.trans (e_X6_noBreak_7) ?_
  try simp only [mU_same, mU_mU]
  refine mw_oV ?_ (rr_X6_puts d) (fun c2 => ?_)
  · rfl
  refine Eq.trans (e_X6_noBreak_14) ?_
  try simp only [mU_same, mU_mU]
  refine mw_oV ?_ (rr_X6_puts d) (fun c3 => ?_)
  · rfl
  refine Eq.trans (e_X6_noBreak_21) ?_
  try simp only [mU_same, mU_mU]
  all_goals rfl
theorem rr_X6_noBreak_at (d : Nat) {X : mX} {g : mG} : mCall mD X (d + 2) 203 [mr 7 20] g = wO (wV g 7) (P_X6_noBreak (g 7)) := by
  have h := rr_X6_noBreak (X := X) d (g := g) (c := g 7)
  rw [mU_self] at h
  exact h
theorem e_X6_watches_0 {X : mX} {call : Nat → List mV → mG → mR} {g : mG} : mEv X call 0 t_X6_watches (mDrop t_X6_watches 0) [some (mr 7 20), none, none, none] [] g = mAns (mEv X call 0 t_X6_watches) (mDrop t_X6_watches 4) [some (mr 7 20), none, none, none] [] (call 198 [mr 7 20] g) := (mEv_2 _ _ _ _).trans rfl
theorem e_X6_watches_4 {X : mX} {call : Nat → List mV → mG → mR} {g : mG} {s0 : Int32} : mEv X call 0 t_X6_watches (mDrop t_X6_watches 4) [some (mr 7 20), none, none, none] [mi s0] g = mAns (mEv X call 0 t_X6_watches) (mDrop t_X6_watches 10) [some (mr 7 20), some (mi s0), none, none] [] (call 158 [mr 7 20, mi 5] g) := (mEv_4 _ _ _ _).trans rfl
theorem e_X6_watches_10 {X : mX} {call : Nat → List mV → mG → mR} {g : mG} {x1 s0 : Int32} : mEv X call 0 t_X6_watches (mDrop t_X6_watches 10) [some (mr 7 20), some (mi x1), none, none] [mi s0] g = if s0 = 1 then mEv X call 0 t_X6_watches (mDrop t_X6_watches 22) [some (mr 7 20), some (mi x1), none, none] [] g else mEv X call 0 t_X6_watches (mDrop t_X6_watches 14) [some (mr 7 20), some (mi x1), none, none] [] g := (mEv_2 _ _ _ _).trans rfl
theorem e_X6_watches_22 {X : mX} {call : Nat → List mV → mG → mR} {g : mG} {x1 : Int32} : mEv X call 0 t_X6_watches (mDrop t_X6_watches 22) [some (mr 7 20), some (mi x1), none, none] [] g = some (none, g) := (mEv_1 _ _ _ _).trans rfl
theorem e_X6_watches_14 {X : mX} {call : Nat → List mV → mG → mR} {g : mG} {x1 : Int32} : mEv X call 0 t_X6_watches (mDrop t_X6_watches 14) [some (mr 7 20), some (mi x1), none, none] [] g = mAns (mEv X call 0 t_X6_watches) (mDrop t_X6_watches 19) [some (mr 7 20), some (mi x1), none, none] [] (call 172 [mr 7 20, mi x1] g) := (mEv_3 _ _ _ _).trans rfl
theorem e_X6_watches_19 {X : mX} {call : Nat → List mV → mG → mR} {g : mG} {x1 s0 : Int32} : mEv X call 0 t_X6_watches (mDrop t_X6_watches 19) [some (mr 7 20), some (mi x1), none, none] [mi s0] g = if s0 = 0 then mEv X call 0 t_X6_watches (mDrop t_X6_watches 23) [some (mr 7 20), some (mi x1), none, none] [] g else mEv X call 0 t_X6_watches (mDrop t_X6_watches 22) [some (mr 7 20), some (mi x1), none, none] [] g := (mEv_1 _ _ _ _).trans rfl
theorem e_X6_watches_23 {X : mX} {call : Nat → List mV → mG → mR} {g : mG} {x1 : Int32} : mEv X call 0 t_X6_watches (mDrop t_X6_watches 23) [some (mr 7 20), some (mi x1), none, none] [] g = mEv X call 0 t_X6_watches (mDrop t_X6_watches 25) [some (mr 7 20), some (mi x1), some (mi 0), none] [] g := (mEv_2 _ _ _ _).trans rfl
theorem e_X6_watches_25 {X : mX} {call : Nat → List mV → mG → mR} {g : mG} {x1 x2 : Int32} : mEv X call 0 t_X6_watches (mDrop t_X6_watches 25) [some (mr 7 20), some (mi x1), some (mi x2), none] [] g = mAns (mEv X call 0 t_X6_watches) (mDrop t_X6_watches 30) [some (mr 7 20), some (mi x1), some (mi x2), none] [] (call 156 [mi x1, mi x2] g) := (mEv_3 _ _ _ _).trans rfl
theorem e_X6_watches_30 {X : mX} {call : Nat → List mV → mG → mR} {g : mG} {x1 x2 s0 : Int32} : mEv X call 0 t_X6_watches (mDrop t_X6_watches 30) [some (mr 7 20), some (mi x1), some (mi x2), none] [mi s0] g = if s0 = 0 then mEv X call 0 t_X6_watches (mDrop t_X6_watches 43) [some (mr 7 20), some (mi x1), some (mi x2), none] [] g else mEv X call 0 t_X6_watches (mDrop t_X6_watches 33) [some (mr 7 20), some (mi x1), some (mi x2), none] [] g := (mEv_1 _ _ _ _).trans rfl
theorem e_X6_watches_43 {X : mX} {call : Nat → List mV → mG → mR} {g : mG} {x1 x2 : Int32} : mEv X call 0 t_X6_watches (mDrop t_X6_watches 43) [some (mr 7 20), some (mi x1), some (mi x2), none] [] g = mEv X call 0 t_X6_watches (mDrop t_X6_watches 25) [some (mr 7 20), some (mi x1), some (mi (x2 + 1)), none] [] g := (mEv_2 _ _ _ _).trans rfl
noncomputable def J_X6_watches_43 (c : mC) (x1 : Int32) (x2 : Int32) : ((Int32) ⊕ (Option (mC))) := (.inl (x2 + 1))
theorem rj_X6_watches_43 (d : Nat) {X : mX} {g : mG} {x1 x2 : Int32} {c : mC} : mEv X (mCall mD X (d + 5)) 0 t_X6_watches (mDrop t_X6_watches 43) [some (mr 7 20), some (mi x1), some (mi x2), none] [] (mU g 7 c) = (wB (fun x2 : (Int32) => mEv X (mCall mD X (d + 5)) 0 t_X6_watches (mDrop t_X6_watches 25) [some (mr 7 20), some (mi x1), some (mi x2), none] [] (mU g 7 c)) (wO (wV g 7))) (J_X6_watches_43 c x1 x2) := by
  refine Eq.trans (e_X6_watches_43) ?_
  try simp only [mU_same, mU_mU]
  exact mw_inl rfl
theorem e_X6_watches_33 {X : mX} {call : Nat → List mV → mG → mR} {g : mG} {x1 x2 : Int32} : mEv X call 0 t_X6_watches (mDrop t_X6_watches 33) [some (mr 7 20), some (mi x1), some (mi x2), none] [] g = mAns (mEv X call 0 t_X6_watches) (mDrop t_X6_watches 38) [some (mr 7 20), some (mi x1), some (mi x2), none] [] (call 171 [mr 7 20, mi x2] g) := (mEv_3 _ _ _ _).trans rfl
theorem e_X6_watches_38 {X : mX} {call : Nat → List mV → mG → mR} {g : mG} {x1 x2 s0 : Int32} : mEv X call 0 t_X6_watches (mDrop t_X6_watches 38) [some (mr 7 20), some (mi x1), some (mi x2), none] [mi s0] g = if (s0 &&& x1) = 0 then mEv X call 0 t_X6_watches (mDrop t_X6_watches 43) [some (mr 7 20), some (mi x1), some (mi x2), none] [] g else mEv X call 0 t_X6_watches (mDrop t_X6_watches 49) [some (mr 7 20), some (mi x1), some (mi x2), none] [] g := (mEv_3 _ _ _ _).trans rfl
theorem e_X6_watches_49 {X : mX} {call : Nat → List mV → mG → mR} {g : mG} {x1 x2 : Int32} : mEv X call 0 t_X6_watches (mDrop t_X6_watches 49) [some (mr 7 20), some (mi x1), some (mi x2), none] [] g = mAns (mEv X call 0 t_X6_watches) (mDrop t_X6_watches 55) [some (mr 7 20), some (mi x1), some (mi x2), none] [] (call 159 [mr 7 20, mi 5, mi 1] g) := (mEv_4 _ _ _ _).trans rfl
theorem e_X6_watches_55 {X : mX} {call : Nat → List mV → mG → mR} {g : mG} {x1 x2 : Int32} : mEv X call 0 t_X6_watches (mDrop t_X6_watches 55) [some (mr 7 20), some (mi x1), some (mi x2), none] [] g = mEv X call 0 t_X6_watches (mDrop t_X6_watches 57) [some (mr 7 20), some (mi x1), some (mi x2), some (mi 0)] [] g := (mEv_2 _ _ _ _).trans rfl
theorem e_X6_watches_57 {X : mX} {call : Nat → List mV → mG → mR} {g : mG} {x1 x2 x3 : Int32} : mEv X call 0 t_X6_watches (mDrop t_X6_watches 57) [some (mr 7 20), some (mi x1), some (mi x2), some (mi x3)] [] g = if 2 ≤ x3 then mEv X call 0 t_X6_watches (mDrop t_X6_watches 73) [some (mr 7 20), some (mi x1), some (mi x2), some (mi x3)] [] g else mEv X call 0 t_X6_watches (mDrop t_X6_watches 62) [some (mr 7 20), some (mi x1), some (mi x2), some (mi x3)] [] g := (mEv_3 _ _ _ _).trans rfl
theorem e_X6_watches_73 {X : mX} {call : Nat → List mV → mG → mR} {g : mG} {x1 x2 x3 : Int32} : mEv X call 0 t_X6_watches (mDrop t_X6_watches 73) [some (mr 7 20), some (mi x1), some (mi x2), some (mi x3)] [] g = mAns (mEv X call 0 t_X6_watches) (mDrop t_X6_watches 77) [some (mr 7 20), some (mi x1), some (mi x2), some (mi x3)] [] (call 203 [mr 7 20] g) := (mEv_2 _ _ _ _).trans rfl
theorem e_X6_watches_77 {X : mX} {call : Nat → List mV → mG → mR} {g : mG} {x1 x2 x3 : Int32} : mEv X call 0 t_X6_watches (mDrop t_X6_watches 77) [some (mr 7 20), some (mi x1), some (mi x2), some (mi x3)] [] g = mAns (mEv X call 0 t_X6_watches) (mDrop t_X6_watches 83) [some (mr 7 20), some (mi x1), some (mi x2), some (mi x3)] [] (call 182 [mr 7 20, mi 4, mi x2] g) := (mEv_4 _ _ _ _).trans rfl
theorem e_X6_watches_83 {X : mX} {call : Nat → List mV → mG → mR} {g : mG} {x1 x2 x3 : Int32} : mEv X call 0 t_X6_watches (mDrop t_X6_watches 83) [some (mr 7 20), some (mi x1), some (mi x2), some (mi x3)] [] g = some (none, g) := (mEv_1 _ _ _ _).trans rfl
theorem e_X6_watches_62 {X : mX} {call : Nat → List mV → mG → mR} {g : mG} {x1 x2 x3 : Int32} : mEv X call 0 t_X6_watches (mDrop t_X6_watches 62) [some (mr 7 20), some (mi x1), some (mi x2), some (mi x3)] [] g = mAns (mEv X call 0 t_X6_watches) (mDrop t_X6_watches 67) [some (mr 7 20), some (mi x1), some (mi x2), some (mi x3)] [] (call 175 [mr 7 20, mi x3] g) := (mEv_3 _ _ _ _).trans rfl
theorem e_X6_watches_67 {X : mX} {call : Nat → List mV → mG → mR} {g : mG} {x1 x2 x3 : Int32} : mEv X call 0 t_X6_watches (mDrop t_X6_watches 67) [some (mr 7 20), some (mi x1), some (mi x2), some (mi x3)] [] g = mEv X call 0 t_X6_watches (mDrop t_X6_watches 57) [some (mr 7 20), some (mi x1), some (mi x2), some (mi (x3 + 1))] [] g := (mEv_2 _ _ _ _).trans rfl
noncomputable def B_X6_watches_57 (x2 : Int32) : (Int32 × mC) → (Int32 × mC) ⊕ (Option (mC)) := fun s => match s with | (x3, c) => (if 2 ≤ x3 then (.inr (mBo (α := mC) none (P_X6_noBreak c) (fun c1 => (mBo (α := mC) none (P_X6_happens c1 4 x2) (fun c2 => (some c2)))))) else (mBo (α := mC) (.inr none) (P_X6_clearsRing c x3) (fun c3 => (.inl ((x3 + 1), c3)))))
set_option maxRecDepth 100000 in
theorem tm_X6_watches_57 {x2 : Int32} : mTm (B_X6_watches_57 x2) := by
  refine ⟨fun s => match s with | (x3, c) => mMx x3, fun s s2 h => ?_⟩
  obtain ⟨x3, c⟩ := s
  simp only [B_X6_watches_57, mBd, mBo] at h
  (repeat' split at h) <;> first | (have h2 := Sum.inl.inj h; subst h2; dsimp only; first | exact mtm_max (by assumption) | exact mtm_lt (by assumption)) | (cases h; done)
theorem rl_X6_watches_57 (d : Nat) {X : mX} {g : mG} {x1 x2 x3 : Int32} {c : mC} : mEv X (mCall mD X (d + 5)) 0 t_X6_watches (mDrop t_X6_watches 57) [some (mr 7 20), some (mi x1), some (mi x2), some (mi x3)] [] (mU g 7 c) = (wO (wV g 7)) (mWh none (B_X6_watches_57 x2) (x3, c)) := by
  refine mWh_ev (B := (B_X6_watches_57 x2)) (ev := fun s : (Int32 × mC) => match s with | (x3, c) => mEv X (mCall mD X (d + 5)) 0 t_X6_watches (mDrop t_X6_watches 57) [some (mr 7 20), some (mi x1), some (mi x2), some (mi x3)] [] (mU g 7 c)) (w := (wO (wV g 7))) (tm_X6_watches_57) ?_ (x3, c)
  rintro ⟨x3, c⟩
  show mEv X (mCall mD X (d + 5)) 0 t_X6_watches (mDrop t_X6_watches 57) [some (mr 7 20), some (mi x1), some (mi x2), some (mi x3)] [] (mU g 7 c) = wB (fun s : (Int32 × mC) => match s with | (x3, c) => mEv X (mCall mD X (d + 5)) 0 t_X6_watches (mDrop t_X6_watches 57) [some (mr 7 20), some (mi x1), some (mi x2), some (mi x3)] [] (mU g 7 c)) (wO (wV g 7)) (B_X6_watches_57 x2 (x3, c))
  refine Eq.trans (e_X6_watches_57) ?_
  try simp only [mU_same, mU_mU]
  refine mw_ite (fun h4 => ?_) (fun h4 => ?_)
  · refine mw_inr ?_
    refine Eq.trans (e_X6_watches_73) ?_
    try simp only [mU_same, mU_mU]
    refine mw_oV ?_ (rr_X6_noBreak (d + 3)) (fun c1 => ?_)
    · rfl
    refine Eq.trans (e_X6_watches_77) ?_
    try simp only [mU_same, mU_mU]
    refine mw_oV ?_ (rr_X6_happens (d + 3)) (fun c2 => ?_)
    · rfl
    refine Eq.trans (e_X6_watches_83) ?_
    try simp only [mU_same, mU_mU]
    all_goals rfl
  · refine Eq.trans (e_X6_watches_62) ?_
    try simp only [mU_same, mU_mU]
    refine mw_oV ?_ (rr_X6_clearsRing (d + 2)) (fun c3 => ?_)
    · rfl
    refine Eq.trans (e_X6_watches_67) ?_
    try simp only [mU_same, mU_mU]
    exact mw_inl rfl
noncomputable def B_X6_watches_25 (c : mC) (x1 : Int32) : (Int32) → (Int32) ⊕ (Option (mC)) := fun x2 => (mBd (α := Int32) (P_X6_has x1 x2) (fun v1 => (if v1 = 0 then (J_X6_watches_43 c x1 x2) else (mBo (α := Int32) (.inr none) (P_X6_foesOf c x2) (fun v2 => (if (v2 &&& x1) = 0 then (J_X6_watches_43 c x1 x2) else (.inr (mBo (α := mC) none (P_X6_puts c 5 1) (fun c3 => (mWh none (B_X6_watches_57 x2) (0, c3)))))))))))
theorem wt_step {c : mC} {x1 : Int32} : ∀ (n : Nat) (p : Int32), mWn (B_X6_isPeace_2 c x1) n p = some (some 0) → ∃ m r, mWn (B_X6_watches_25 c x1) m p = some r
  | 0, _, h => by cases h
  | n + 1, p, h => by
    rw [mWn_s] at h
    cases hB : B_X6_isPeace_2 c x1 p with
    | inl s' =>
      rw [hB] at h
      obtain ⟨m, r, hm⟩ := wt_step n s' h
      have hW : B_X6_watches_25 c x1 p = .inl s' := by
        unfold B_X6_isPeace_2 J_X6_isPeace_31 mBd at hB
        unfold B_X6_watches_25 J_X6_watches_43 mBd
        dsimp only
        cases h1 : P_X6_of c 0 with
        | none => rw [h1] at hB; cases hB
        | some v1 =>
          rw [h1] at hB
          simp only [mBo] at hB
          by_cases q1 : v1 ≤ p
          · rw [if_pos q1] at hB; cases hB
          · rw [if_neg q1] at hB
            by_cases q2 : P_X6_has x1 p = 0
            · rw [if_pos q2] at hB ⊢; rw [Sum.inl.inj hB]
            · rw [if_neg q2] at hB ⊢
              cases h3 : P_X6_foesOf c p with
              | none => rw [h3] at hB; cases hB
              | some v3 =>
                rw [h3] at hB
                simp only [mBo] at hB ⊢
                by_cases q3 : v3 &&& x1 = 0
                · rw [if_pos q3] at hB ⊢; rw [Sum.inl.inj hB]
                · rw [if_neg q3] at hB; cases hB
      exact ⟨m + 1, r, by rw [mWn_s, hW]; exact hm⟩
    | inr r0 =>
      rw [hB] at h
      have hr : r0 = some 0 := Option.some.inj h
      subst hr
      have hW : ∃ r, B_X6_watches_25 c x1 p = .inr r := by
        unfold B_X6_isPeace_2 J_X6_isPeace_31 mBd at hB
        unfold B_X6_watches_25 J_X6_watches_43 mBd
        dsimp only
        cases h1 : P_X6_of c 0 with
        | none => rw [h1] at hB; cases hB
        | some v1 =>
          rw [h1] at hB
          simp only [mBo] at hB
          by_cases q1 : v1 ≤ p
          · rw [if_pos q1] at hB
            exact absurd (Option.some.inj (Sum.inr.inj hB)) (by decide)
          · rw [if_neg q1] at hB
            by_cases q2 : P_X6_has x1 p = 0
            · rw [if_pos q2] at hB; cases hB
            · rw [if_neg q2] at hB ⊢
              cases h3 : P_X6_foesOf c p with
              | none => rw [h3] at hB; cases hB
              | some v3 =>
                rw [h3] at hB
                simp only [mBo] at hB ⊢
                by_cases q3 : v3 &&& x1 = 0
                · rw [if_pos q3] at hB; cases hB
                · rw [if_neg q3]; exact ⟨_, rfl⟩
      obtain ⟨r, hr⟩ := hW
      exact ⟨1, r, by rw [mWn_s, hr]⟩
theorem wt_ends {c : mC} {x1 v : Int32} (h : P_X6_isPeace c x1 = some v) (hv : v = 0) : ∃ n r, mWn (B_X6_watches_25 c x1) n 0 = some r := by
  subst hv
  obtain ⟨n, r, hn⟩ := mWn_ends (tm_X6_isPeace_2 (c := c) (x1 := x1)) 0
  have h2 : mWh none (B_X6_isPeace_2 c x1) 0 = r := mWh_of hn
  have h3 : r = some 0 := h2.symm.trans h
  rw [h3] at hn
  exact wt_step n 0 hn
theorem rl_X6_watches_25 (d : Nat) {X : mX} {g : mG} {x1 x2 : Int32} {c : mC} (he : ∃ n r, mWn (B_X6_watches_25 c x1) n x2 = some r) : mEv X (mCall mD X (d + 5)) 0 t_X6_watches (mDrop t_X6_watches 25) [some (mr 7 20), some (mi x1), some (mi x2), none] [] (mU g 7 c) = (wO (wV g 7)) (mWh none (B_X6_watches_25 c x1) x2) := by
  refine mWh_ev1 (s := x2) (B := (B_X6_watches_25 c x1)) (ev := fun x2 : (Int32) => mEv X (mCall mD X (d + 5)) 0 t_X6_watches (mDrop t_X6_watches 25) [some (mr 7 20), some (mi x1), some (mi x2), none] [] (mU g 7 c)) (w := (wO (wV g 7))) he ?_
  intro x2
  show mEv X (mCall mD X (d + 5)) 0 t_X6_watches (mDrop t_X6_watches 25) [some (mr 7 20), some (mi x1), some (mi x2), none] [] (mU g 7 c) = wB (fun x2 : (Int32) => mEv X (mCall mD X (d + 5)) 0 t_X6_watches (mDrop t_X6_watches 25) [some (mr 7 20), some (mi x1), some (mi x2), none] [] (mU g 7 c)) (wO (wV g 7)) (mBd (α := Int32) (P_X6_has x1 x2) (fun v1 => (if v1 = 0 then (J_X6_watches_43 c x1 x2) else (mBo (α := Int32) (.inr none) (P_X6_foesOf c x2) (fun v2 => (if (v2 &&& x1) = 0 then (J_X6_watches_43 c x1 x2) else (.inr (mBo (α := mC) none (P_X6_puts c 5 1) (fun c3 => (mWh none (B_X6_watches_57 x2) (0, c3)))))))))))
  refine Eq.trans (e_X6_watches_25) ?_
  try simp only [mU_same, mU_mU]
  refine mw_cZ (rr_X6_has (d + 4)) rfl (fun v1 hv1 => ?_)
  refine Eq.trans (e_X6_watches_30) ?_
  try simp only [mU_same, mU_mU]
  refine mw_ite (fun h5 => ?_) (fun h5 => ?_)
  · exact rj_X6_watches_43 d
  · refine Eq.trans (e_X6_watches_33) ?_
    try simp only [mU_same, mU_mU]
    refine mw_oI ?_ (rr_X6_foesOf (d + 1)) (fun v2 => ?_)
    · rfl
    refine Eq.trans (e_X6_watches_38) ?_
    try simp only [mU_same, mU_mU]
    refine mw_ite (fun h4 => ?_) (fun h4 => ?_)
    · exact rj_X6_watches_43 d
    · refine mw_inr ?_
      refine Eq.trans (e_X6_watches_49) ?_
      try simp only [mU_same, mU_mU]
      refine mw_oV ?_ (rr_X6_puts (d + 4)) (fun c3 => ?_)
      · rfl
      refine Eq.trans (e_X6_watches_55) ?_
      try simp only [mU_same, mU_mU]
      exact rl_X6_watches_57 d
noncomputable def P_X6_watches (c : mC) : (Option (mC)) := (mBo (α := Int32) none (P_X6_shown c) (fun v1 => (mBo (α := Int32) none (P_X6_of c 5) (fun v2 => (if v2 = 1 then (some c) else (mBo (α := Int32) none (P_X6_isPeace c v1) (fun v3 => (if v3 = 0 then (mWh none (B_X6_watches_25 c v1) 0) else (some c)))))))))
theorem rr_X6_watches (d : Nat) {X : mX} {g : mG} {c : mC} : mCall mD X (d + 6) 199 [mr 7 20] (mU g 7 c) = (wO (wV g 7)) (P_X6_watches c) := by
  refine Eq.trans (mCall_eq (d := d + 5) rfl) ?_
  show mEv X (mCall mD X (d + 5)) 0 t_X6_watches (mDrop t_X6_watches 0) [some (mr 7 20), none, none, none] [] (mU g 7 c) = _
  refine Eq.trans (e_X6_watches_0) ?_
  try simp only [mU_same, mU_mU]
  refine mw_oI ?_ (rr_X6_shown (d + 1)) (fun v1 => ?_)
  · rfl
  refine Eq.trans (e_X6_watches_4) ?_
  try simp only [mU_same, mU_mU]
  refine mw_oI ?_ (rr_X6_of (d + 4)) (fun v2 => ?_)
  · rfl
  refine Eq.trans (e_X6_watches_10) ?_
  try simp only [mU_same, mU_mU]
  refine mw_ite (fun h5 => ?_) (fun h5 => ?_)
  · refine Eq.trans (e_X6_watches_22) ?_
    try simp only [mU_same, mU_mU]
    all_goals rfl
  · refine Eq.trans (e_X6_watches_14) ?_
    try simp only [mU_same, mU_mU]
    refine mw_oZe ?_ (rr_X6_isPeace d) rfl (fun v3 _ hv3 => ?_)
    · rfl
    refine Eq.trans (e_X6_watches_19) ?_
    try simp only [mU_same, mU_mU]
    refine mw_ite (fun h4 => ?_) (fun h4 => ?_)
    · refine Eq.trans (e_X6_watches_23) ?_
      try simp only [mU_same, mU_mU]
      exact rl_X6_watches_25 d (wt_ends (by assumption) (by assumption))
    · refine Eq.trans (e_X6_watches_22) ?_
      try simp only [mU_same, mU_mU]
      all_goals rfl
theorem rr_X6_watches_at (d : Nat) {X : mX} {g : mG} : mCall mD X (d + 6) 199 [mr 7 20] g = wO (wV g 7) (P_X6_watches (g 7)) := by
  have h := rr_X6_watches (X := X) d (g := g) (c := g 7)
  rw [mU_self] at h
  exact h
theorem e_X6_queues_0 {X : mX} {call : Nat → List mV → mG → mR} {g : mG} : mEv X call 1 t_X6_queues (mDrop t_X6_queues 0) [some (mr 7 20), none, none] [] g = mEv X call 1 t_X6_queues (mDrop t_X6_queues 4) [some (mr 7 20), some (mi 0), some (mi 0)] [] g := (mEv_4 _ _ _ _).trans rfl
theorem e_X6_queues_4 {X : mX} {call : Nat → List mV → mG → mR} {g : mG} {x1 x2 : Int32} : mEv X call 1 t_X6_queues (mDrop t_X6_queues 4) [some (mr 7 20), some (mi x1), some (mi x2)] [] g = mAns (mEv X call 1 t_X6_queues) (mDrop t_X6_queues 10) [some (mr 7 20), some (mi x1), some (mi x2)] [mi x2] (call 158 [mr 7 20, mi 0] g) := (mEv_4 _ _ _ _).trans rfl
theorem e_X6_queues_10 {X : mX} {call : Nat → List mV → mG → mR} {g : mG} {x1 x2 s0 s1 : Int32} : mEv X call 1 t_X6_queues (mDrop t_X6_queues 10) [some (mr 7 20), some (mi x1), some (mi x2)] [mi s1, mi s0] g = if s1 ≤ s0 then mEv X call 1 t_X6_queues (mDrop t_X6_queues 29) [some (mr 7 20), some (mi x1), some (mi x2)] [] g else mEv X call 1 t_X6_queues (mDrop t_X6_queues 13) [some (mr 7 20), some (mi x1), some (mi x2)] [] g := (mEv_1 _ _ _ _).trans rfl
theorem e_X6_queues_29 {X : mX} {call : Nat → List mV → mG → mR} {g : mG} {x1 x2 : Int32} : mEv X call 1 t_X6_queues (mDrop t_X6_queues 29) [some (mr 7 20), some (mi x1), some (mi x2)] [] g = some (some (mi x1), g) := (mEv_2 _ _ _ _).trans rfl
theorem e_X6_queues_13 {X : mX} {call : Nat → List mV → mG → mR} {g : mG} {x1 x2 : Int32} : mEv X call 1 t_X6_queues (mDrop t_X6_queues 13) [some (mr 7 20), some (mi x1), some (mi x2)] [] g = mAns (mEv X call 1 t_X6_queues) (mDrop t_X6_queues 21) [some (mr 7 20), some (mi x1), some (mi x2)] [mi x1] (call 165 [mr 7 20, mi x2, mi 12] g) := (mEv_5 _ _ _ _).trans rfl
theorem e_X6_queues_21 {X : mX} {call : Nat → List mV → mG → mR} {g : mG} {x1 x2 s0 s1 : Int32} : mEv X call 1 t_X6_queues (mDrop t_X6_queues 21) [some (mr 7 20), some (mi x1), some (mi x2)] [mi s1, mi s0] g = mEv X call 1 t_X6_queues (mDrop t_X6_queues 4) [some (mr 7 20), some (mi (s0 + s1)), some (mi (x2 + 1))] [] g := (mEv_4 _ _ _ _).trans rfl
noncomputable def B_X6_queues_4 (c : mC) : (Int32 × Int32) → (Int32 × Int32) ⊕ (Option (Int32)) := fun s => match s with | (x1, x2) => (mBo (α := Int32) (.inr none) (P_X6_of c 0) (fun v1 => (if v1 ≤ x2 then (.inr (some x1)) else (mBo (α := Int32) (.inr none) (P_X6_ofPhase c x2 12) (fun v2 => (.inl ((x1 + v2), (x2 + 1))))))))
set_option maxRecDepth 100000 in
theorem tm_X6_queues_4 {c : mC} : mTm (B_X6_queues_4 c) := by
  refine ⟨fun s => match s with | (x1, x2) => mMx x2, fun s s2 h => ?_⟩
  obtain ⟨x1, x2⟩ := s
  simp only [B_X6_queues_4, mBd, mBo] at h
  (repeat' split at h) <;> first | (have h2 := Sum.inl.inj h; subst h2; dsimp only; first | exact mtm_max (by assumption) | exact mtm_lt (by assumption)) | (cases h; done)
theorem rl_X6_queues_4 (d : Nat) {X : mX} {g : mG} {x1 x2 : Int32} {c : mC} : mEv X (mCall mD X (d + 2)) 1 t_X6_queues (mDrop t_X6_queues 4) [some (mr 7 20), some (mi x1), some (mi x2)] [] (mU g 7 c) = (wO (wI g 7 c)) (mWh none (B_X6_queues_4 c) (x1, x2)) := by
  refine mWh_ev (B := (B_X6_queues_4 c)) (ev := fun s : (Int32 × Int32) => match s with | (x1, x2) => mEv X (mCall mD X (d + 2)) 1 t_X6_queues (mDrop t_X6_queues 4) [some (mr 7 20), some (mi x1), some (mi x2)] [] (mU g 7 c)) (w := (wO (wI g 7 c))) (tm_X6_queues_4) ?_ (x1, x2)
  rintro ⟨x1, x2⟩
  show mEv X (mCall mD X (d + 2)) 1 t_X6_queues (mDrop t_X6_queues 4) [some (mr 7 20), some (mi x1), some (mi x2)] [] (mU g 7 c) = wB (fun s : (Int32 × Int32) => match s with | (x1, x2) => mEv X (mCall mD X (d + 2)) 1 t_X6_queues (mDrop t_X6_queues 4) [some (mr 7 20), some (mi x1), some (mi x2)] [] (mU g 7 c)) (wO (wI g 7 c)) (mBo (α := Int32) (.inr none) (P_X6_of c 0) (fun v1 => (if v1 ≤ x2 then (.inr (some x1)) else (mBo (α := Int32) (.inr none) (P_X6_ofPhase c x2 12) (fun v2 => (.inl ((x1 + v2), (x2 + 1))))))))
  refine Eq.trans (e_X6_queues_4) ?_
  try simp only [mU_same, mU_mU]
  refine mw_oI ?_ (rr_X6_of (d + 1)) (fun v1 => ?_)
  · rfl
  refine Eq.trans (e_X6_queues_10) ?_
  try simp only [mU_same, mU_mU]
  refine mw_ite (fun h3 => ?_) (fun h3 => ?_)
  · refine mw_inr ?_
    refine Eq.trans (e_X6_queues_29) ?_
    try simp only [mU_same, mU_mU]
    all_goals rfl
  · refine Eq.trans (e_X6_queues_13) ?_
    try simp only [mU_same, mU_mU]
    refine mw_oI ?_ (rr_X6_ofPhase d) (fun v2 => ?_)
    · rfl
    refine Eq.trans (e_X6_queues_21) ?_
    try simp only [mU_same, mU_mU]
    exact mw_inl rfl
noncomputable def P_X6_queues (c : mC) : (Option (Int32)) := (mWh none (B_X6_queues_4 c) (0, 0))
theorem rr_X6_queues (d : Nat) {X : mX} {g : mG} {c : mC} : mCall mD X (d + 3) 200 [mr 7 20] (mU g 7 c) = (wO (wI g 7 c)) (P_X6_queues c) := by
  refine Eq.trans (mCall_eq (d := d + 2) rfl) ?_
  show mEv X (mCall mD X (d + 2)) 1 t_X6_queues (mDrop t_X6_queues 0) [some (mr 7 20), none, none] [] (mU g 7 c) = _
  refine Eq.trans (e_X6_queues_0) ?_
  try simp only [mU_same, mU_mU]
  exact rl_X6_queues_4 d
theorem rr_X6_queues_at (d : Nat) {X : mX} {g : mG} : mCall mD X (d + 3) 200 [mr 7 20] g = wO (wN g) (P_X6_queues (g 7)) := by
  have h := rr_X6_queues (X := X) d (g := g) (c := g 7)
  rw [mU_self] at h
  exact h.trans (wOI_self _ _ _)
theorem e_X6_breakEnds_0 {X : mX} {call : Nat → List mV → mG → mR} {g : mG} : mEv X call 0 t_X6_breakEnds (mDrop t_X6_breakEnds 0) [some (mr 7 20)] [] g = mAns (mEv X call 0 t_X6_breakEnds) (mDrop t_X6_breakEnds 8) [some (mr 7 20)] [mi 3, mr 7 20] (call 158 [mr 7 20, mi 7] g) := (mEv_5 _ _ _ _).trans rfl
theorem e_X6_breakEnds_8 {X : mX} {call : Nat → List mV → mG → mR} {g : mG} {s1 s2 : Int32} : mEv X call 0 t_X6_breakEnds (mDrop t_X6_breakEnds 8) [some (mr 7 20)] [mi s2, mi s1, mr 7 20] g = mAns (mEv X call 0 t_X6_breakEnds) (mDrop t_X6_breakEnds 11) [some (mr 7 20)] [] (call 182 [mr 7 20, mi s1, mi s2] g) := (mEv_1 _ _ _ _).trans rfl
theorem e_X6_breakEnds_11 {X : mX} {call : Nat → List mV → mG → mR} {g : mG} : mEv X call 0 t_X6_breakEnds (mDrop t_X6_breakEnds 11) [some (mr 7 20)] [] g = mAns (mEv X call 0 t_X6_breakEnds) (mDrop t_X6_breakEnds 15) [some (mr 7 20)] [] (call 203 [mr 7 20] g) := (mEv_2 _ _ _ _).trans rfl
theorem e_X6_breakEnds_15 {X : mX} {call : Nat → List mV → mG → mR} {g : mG} : mEv X call 0 t_X6_breakEnds (mDrop t_X6_breakEnds 15) [some (mr 7 20)] [] g = some (none, g) := (mEv_1 _ _ _ _).trans rfl
noncomputable def P_X6_breakEnds (c : mC) : (Option (mC)) := (mBo (α := Int32) none (P_X6_of c 7) (fun v1 => (mBo (α := mC) none (P_X6_happens c 3 v1) (fun c2 => (mBo (α := mC) none (P_X6_noBreak c2) (fun c3 => (some c3)))))))
theorem rr_X6_breakEnds (d : Nat) {X : mX} {g : mG} {c : mC} : mCall mD X (d + 3) 206 [mr 7 20] (mU g 7 c) = (wO (wV g 7)) (P_X6_breakEnds c) := by
  refine Eq.trans (mCall_eq (d := d + 2) rfl) ?_
  show mEv X (mCall mD X (d + 2)) 0 t_X6_breakEnds (mDrop t_X6_breakEnds 0) [some (mr 7 20)] [] (mU g 7 c) = _
  refine Eq.trans (e_X6_breakEnds_0) ?_
  try simp only [mU_same, mU_mU]
  refine mw_oI ?_ (rr_X6_of (d + 1)) (fun v1 => ?_)
  · rfl
  refine Eq.trans (e_X6_breakEnds_8) ?_
  try simp only [mU_same, mU_mU]
  refine mw_oV ?_ (rr_X6_happens d) (fun c2 => ?_)
  · rfl
  refine Eq.trans (e_X6_breakEnds_11) ?_
  try simp only [mU_same, mU_mU]
  refine mw_oV ?_ (rr_X6_noBreak d) (fun c3 => ?_)
  · rfl
  refine Eq.trans (e_X6_breakEnds_15) ?_
  try simp only [mU_same, mU_mU]
  all_goals rfl
theorem rr_X6_breakEnds_at (d : Nat) {X : mX} {g : mG} : mCall mD X (d + 3) 206 [mr 7 20] g = wO (wV g 7) (P_X6_breakEnds (g 7)) := by
  have h := rr_X6_breakEnds (X := X) d (g := g) (c := g 7)
  rw [mU_self] at h
  exact h
theorem e_X6_ofBreak_0 {X : mX} {call : Nat → List mV → mG → mR} {g : mG} {x1 x2 : Int32} : mEv X call 1 t_X6_ofBreak (mDrop t_X6_ofBreak 0) [some (mr 7 20), some (mi x1), some (mi x2)] [] g = mAns (mEv X call 1 t_X6_ofBreak) (mDrop t_X6_ofBreak 13) [some (mr 7 20), some (mi x1), some (mi x2)] [] (call 158 [mr 7 20, mi (((176 : Int32) + ((5 : Int32) * x1)) + x2)] g) := (mEv_9 _ _ _ _).trans rfl
theorem e_X6_ofBreak_13 {X : mX} {call : Nat → List mV → mG → mR} {g : mG} {x1 x2 s0 : Int32} : mEv X call 1 t_X6_ofBreak (mDrop t_X6_ofBreak 13) [some (mr 7 20), some (mi x1), some (mi x2)] [mi s0] g = some (some (mi s0), g) := (mEv_1 _ _ _ _).trans rfl
noncomputable def P_X6_ofBreak (c : mC) (x1 : Int32) (x2 : Int32) : (Option (Int32)) := (mBo (α := Int32) none (P_X6_of c (((176 : Int32) + ((5 : Int32) * x1)) + x2)) (fun v1 => (some v1)))
theorem rr_X6_ofBreak (d : Nat) {X : mX} {g : mG} {x1 x2 : Int32} {c : mC} : mCall mD X (d + 2) 202 [mr 7 20, mi x1, mi x2] (mU g 7 c) = (wO (wI g 7 c)) (P_X6_ofBreak c x1 x2) := by
  refine Eq.trans (mCall_eq (d := d + 1) rfl) ?_
  show mEv X (mCall mD X (d + 1)) 1 t_X6_ofBreak (mDrop t_X6_ofBreak 0) [some (mr 7 20), some (mi x1), some (mi x2)] [] (mU g 7 c) = _
  refine Eq.trans (e_X6_ofBreak_0) ?_
  try simp only [mU_same, mU_mU]
  refine mw_oI ?_ (rr_X6_of d) (fun v1 => ?_)
  · rfl
  refine Eq.trans (e_X6_ofBreak_13) ?_
  try simp only [mU_same, mU_mU]
  all_goals rfl
theorem rr_X6_ofBreak_at (d : Nat) {X : mX} {g : mG} {x1 x2 : Int32} : mCall mD X (d + 2) 202 [mr 7 20, mi x1, mi x2] g = wO (wN g) (P_X6_ofBreak (g 7) x1 x2) := by
  have h := rr_X6_ofBreak (X := X) d (g := g) (c := g 7) (x1 := x1) (x2 := x2)
  rw [mU_self] at h
  exact h.trans (wOI_self _ _ _)
theorem e_X6_isStage_0 {X : mX} {call : Nat → List mV → mG → mR} {g : mG} {x1 : Int32} : mEv X call 0 t_X6_isStage (mDrop t_X6_isStage 0) [some (mr 7 20), some (mi x1)] [] g = mAns (mEv X call 0 t_X6_isStage) (mDrop t_X6_isStage 7) [some (mr 7 20), some (mi x1)] [] (call 159 [mr 7 20, mi 8, mi x1] g) := (mEv_4 _ _ _ _).trans rfl
theorem e_X6_isStage_7 {X : mX} {call : Nat → List mV → mG → mR} {g : mG} {x1 : Int32} : mEv X call 0 t_X6_isStage (mDrop t_X6_isStage 7) [some (mr 7 20), some (mi x1)] [] g = mAns (mEv X call 0 t_X6_isStage) (mDrop t_X6_isStage 14) [some (mr 7 20), some (mi x1)] [] (call 159 [mr 7 20, mi 9, mi 0] g) := (mEv_4 _ _ _ _).trans rfl
theorem e_X6_isStage_14 {X : mX} {call : Nat → List mV → mG → mR} {g : mG} {x1 : Int32} : mEv X call 0 t_X6_isStage (mDrop t_X6_isStage 14) [some (mr 7 20), some (mi x1)] [] g = some (none, g) := (mEv_1 _ _ _ _).trans rfl
noncomputable def P_X6_isStage (c : mC) (x1 : Int32) : (Option (mC)) := (mBo (α := mC) none (P_X6_puts c 8 x1) (fun c1 => (mBo (α := mC) none (P_X6_puts c1 9 0) (fun c2 => (some c2)))))
theorem rr_X6_isStage (d : Nat) {X : mX} {g : mG} {x1 : Int32} {c : mC} : mCall mD X (d + 2) 204 [mr 7 20, mi x1] (mU g 7 c) = (wO (wV g 7)) (P_X6_isStage c x1) := by
  refine Eq.trans (mCall_eq (d := d + 1) rfl) ?_
  show mEv X (mCall mD X (d + 1)) 0 t_X6_isStage (mDrop t_X6_isStage 0) [some (mr 7 20), some (mi x1)] [] (mU g 7 c) = _
  refine Eq.trans (e_X6_isStage_0) ?_
  try simp only [mU_same, mU_mU]
  refine mw_oV ?_ (rr_X6_puts d) (fun c1 => ?_)
  · rfl
  refine Eq.trans (e_X6_isStage_7) ?_
  try simp only [mU_same, mU_mU]
  refine mw_oV ?_ (rr_X6_puts d) (fun c2 => ?_)
  · rfl
  refine Eq.trans (e_X6_isStage_14) ?_
  try simp only [mU_same, mU_mU]
  all_goals rfl
theorem rr_X6_isStage_at (d : Nat) {X : mX} {g : mG} {x1 : Int32} : mCall mD X (d + 2) 204 [mr 7 20, mi x1] g = wO (wV g 7) (P_X6_isStage (g 7) x1) := by
  have h := rr_X6_isStage (X := X) d (g := g) (c := g 7) (x1 := x1)
  rw [mU_self] at h
  exact h
theorem e_X6_breakBegins_0 {X : mX} {call : Nat → List mV → mG → mR} {g : mG} {x1 : Int32} : mEv X call 0 t_X6_breakBegins (mDrop t_X6_breakBegins 0) [some (mr 7 20), some (mi x1)] [] g = mAns (mEv X call 0 t_X6_breakBegins) (mDrop t_X6_breakBegins 7) [some (mr 7 20), some (mi x1)] [] (call 159 [mr 7 20, mi 7, mi x1] g) := (mEv_4 _ _ _ _).trans rfl
theorem e_X6_breakBegins_7 {X : mX} {call : Nat → List mV → mG → mR} {g : mG} {x1 : Int32} : mEv X call 0 t_X6_breakBegins (mDrop t_X6_breakBegins 7) [some (mr 7 20), some (mi x1)] [] g = mAns (mEv X call 0 t_X6_breakBegins) (mDrop t_X6_breakBegins 14) [some (mr 7 20), some (mi x1)] [mr 7 20] (call 202 [mr 7 20, mi x1, mi 0] g) := (mEv_5 _ _ _ _).trans rfl
theorem e_X6_breakBegins_14 {X : mX} {call : Nat → List mV → mG → mR} {g : mG} {x1 s1 : Int32} : mEv X call 0 t_X6_breakBegins (mDrop t_X6_breakBegins 14) [some (mr 7 20), some (mi x1)] [mi s1, mr 7 20] g = if s1 = 0 then mEv X call 0 t_X6_breakBegins (mDrop t_X6_breakBegins 21) [some (mr 7 20), some (mi x1)] [mr 7 20] g else mEv X call 0 t_X6_breakBegins (mDrop t_X6_breakBegins 17) [some (mr 7 20), some (mi x1)] [mr 7 20] g := (mEv_1 _ _ _ _).trans rfl
theorem e_X6_breakBegins_21 {X : mX} {call : Nat → List mV → mG → mR} {g : mG} {x1 : Int32} : mEv X call 0 t_X6_breakBegins (mDrop t_X6_breakBegins 21) [some (mr 7 20), some (mi x1)] [mr 7 20] g = mEv X call 0 t_X6_breakBegins (mDrop t_X6_breakBegins 22) [some (mr 7 20), some (mi x1)] [mi 3, mr 7 20] g := (mEv_1 _ _ _ _).trans rfl
theorem e_X6_breakBegins_22 {X : mX} {call : Nat → List mV → mG → mR} {g : mG} {x1 s1 : Int32} : mEv X call 0 t_X6_breakBegins (mDrop t_X6_breakBegins 22) [some (mr 7 20), some (mi x1)] [mi s1, mr 7 20] g = mAns (mEv X call 0 t_X6_breakBegins) (mDrop t_X6_breakBegins 25) [some (mr 7 20), some (mi x1)] [] (call 204 [mr 7 20, mi s1] g) := (mEv_1 _ _ _ _).trans rfl
theorem e_X6_breakBegins_25 {X : mX} {call : Nat → List mV → mG → mR} {g : mG} {x1 : Int32} : mEv X call 0 t_X6_breakBegins (mDrop t_X6_breakBegins 25) [some (mr 7 20), some (mi x1)] [] g = mAns (mEv X call 0 t_X6_breakBegins) (mDrop t_X6_breakBegins 31) [some (mr 7 20), some (mi x1)] [] (call 182 [mr 7 20, mi 2, mi x1] g) := (mEv_4 _ _ _ _).trans rfl
theorem e_X6_breakBegins_31 {X : mX} {call : Nat → List mV → mG → mR} {g : mG} {x1 : Int32} : mEv X call 0 t_X6_breakBegins (mDrop t_X6_breakBegins 31) [some (mr 7 20), some (mi x1)] [] g = some (none, g) := (mEv_1 _ _ _ _).trans rfl
noncomputable def J_X6_breakBegins_22 (c : mC) (x1 : Int32) (s1 : Int32) : (Option (mC)) := (mBo (α := mC) none (P_X6_isStage c s1) (fun c1 => (mBo (α := mC) none (P_X6_happens c1 2 x1) (fun c2 => (some c2)))))
theorem rj_X6_breakBegins_22 (d : Nat) {X : mX} {g : mG} {x1 s1 : Int32} {c : mC} : mEv X (mCall mD X (d + 2)) 0 t_X6_breakBegins (mDrop t_X6_breakBegins 22) [some (mr 7 20), some (mi x1)] [mi s1, mr 7 20] (mU g 7 c) = (wO (wV g 7)) (J_X6_breakBegins_22 c x1 s1) := by
  refine Eq.trans (e_X6_breakBegins_22) ?_
  try simp only [mU_same, mU_mU]
  refine mw_oV ?_ (rr_X6_isStage d) (fun c1 => ?_)
  · rfl
  refine Eq.trans (e_X6_breakBegins_25) ?_
  try simp only [mU_same, mU_mU]
  refine mw_oV ?_ (rr_X6_happens d) (fun c2 => ?_)
  · rfl
  refine Eq.trans (e_X6_breakBegins_31) ?_
  try simp only [mU_same, mU_mU]
  all_goals rfl
theorem e_X6_breakBegins_17 {X : mX} {call : Nat → List mV → mG → mR} {g : mG} {x1 : Int32} : mEv X call 0 t_X6_breakBegins (mDrop t_X6_breakBegins 17) [some (mr 7 20), some (mi x1)] [mr 7 20] g = mEv X call 0 t_X6_breakBegins (mDrop t_X6_breakBegins 22) [some (mr 7 20), some (mi x1)] [mi 1, mr 7 20] g := (mEv_2 _ _ _ _).trans rfl
noncomputable def P_X6_breakBegins (c : mC) (x1 : Int32) : (Option (mC)) := (mBo (α := mC) none (P_X6_puts c 7 x1) (fun c1 => (mBo (α := Int32) none (P_X6_ofBreak c1 x1 0) (fun v2 => (if v2 = 0 then (J_X6_breakBegins_22 c1 x1 3) else (J_X6_breakBegins_22 c1 x1 1))))))
theorem rr_X6_breakBegins (d : Nat) {X : mX} {g : mG} {x1 : Int32} {c : mC} : mCall mD X (d + 3) 205 [mr 7 20, mi x1] (mU g 7 c) = (wO (wV g 7)) (P_X6_breakBegins c x1) := by
  refine Eq.trans (mCall_eq (d := d + 2) rfl) ?_
  show mEv X (mCall mD X (d + 2)) 0 t_X6_breakBegins (mDrop t_X6_breakBegins 0) [some (mr 7 20), some (mi x1)] [] (mU g 7 c) = _
  refine Eq.trans (e_X6_breakBegins_0) ?_
  try simp only [mU_same, mU_mU]
  refine mw_oV ?_ (rr_X6_puts (d + 1)) (fun c1 => ?_)
  · rfl
  refine Eq.trans (e_X6_breakBegins_7) ?_
  try simp only [mU_same, mU_mU]
  refine mw_oI ?_ (rr_X6_ofBreak d) (fun v2 => ?_)
  · rfl
  refine Eq.trans (e_X6_breakBegins_14) ?_
  try simp only [mU_same, mU_mU]
  refine mw_ite (fun h3 => ?_) (fun h3 => ?_)
  · refine Eq.trans (e_X6_breakBegins_21) ?_
    try simp only [mU_same, mU_mU]
    exact rj_X6_breakBegins_22 d
  · refine Eq.trans (e_X6_breakBegins_17) ?_
    try simp only [mU_same, mU_mU]
    exact rj_X6_breakBegins_22 d
theorem rr_X6_breakBegins_at (d : Nat) {X : mX} {g : mG} {x1 : Int32} : mCall mD X (d + 3) 205 [mr 7 20, mi x1] g = wO (wV g 7) (P_X6_breakBegins (g 7) x1) := by
  have h := rr_X6_breakBegins (X := X) d (g := g) (c := g 7) (x1 := x1)
  rw [mU_self] at h
  exact h
theorem e_X6_goal_0 {X : mX} {call : Nat → List mV → mG → mR} {g : mG} {x1 : Int32} : mEv X call 1 t_X6_goal (mDrop t_X6_goal 0) [some (mr 7 20), some (mi x1), none, none] [] g = mAns (mEv X call 1 t_X6_goal) (mDrop t_X6_goal 7) [some (mr 7 20), some (mi x1), none, none] [mr 7 20] (call 158 [mr 7 20, mi 7] g) := (mEv_4 _ _ _ _).trans rfl
theorem e_X6_goal_7 {X : mX} {call : Nat → List mV → mG → mR} {g : mG} {x1 s1 : Int32} : mEv X call 1 t_X6_goal (mDrop t_X6_goal 7) [some (mr 7 20), some (mi x1), none, none] [mi s1, mr 7 20] g = mAns (mEv X call 1 t_X6_goal) (mDrop t_X6_goal 13) [some (mr 7 20), some (mi x1), none, none] [mi s1, mr 7 20] (call 158 [mr 7 20, mi 8] g) := (mEv_3 _ _ _ _).trans rfl
theorem e_X6_goal_13 {X : mX} {call : Nat → List mV → mG → mR} {g : mG} {x1 s1 s2 : Int32} : mEv X call 1 t_X6_goal (mDrop t_X6_goal 13) [some (mr 7 20), some (mi x1), none, none] [mi s2, mi s1, mr 7 20] g = if 3 ≤ s2 then mEv X call 1 t_X6_goal (mDrop t_X6_goal 21) [some (mr 7 20), some (mi x1), none, none] [mi s1, mr 7 20] g else mEv X call 1 t_X6_goal (mDrop t_X6_goal 17) [some (mr 7 20), some (mi x1), none, none] [mi s1, mr 7 20] g := (mEv_2 _ _ _ _).trans rfl
theorem e_X6_goal_21 {X : mX} {call : Nat → List mV → mG → mR} {g : mG} {x1 s1 : Int32} : mEv X call 1 t_X6_goal (mDrop t_X6_goal 21) [some (mr 7 20), some (mi x1), none, none] [mi s1, mr 7 20] g = mEv X call 1 t_X6_goal (mDrop t_X6_goal 22) [some (mr 7 20), some (mi x1), none, none] [mi 2, mi s1, mr 7 20] g := (mEv_1 _ _ _ _).trans rfl
theorem e_X6_goal_22 {X : mX} {call : Nat → List mV → mG → mR} {g : mG} {x1 s1 s2 : Int32} : mEv X call 1 t_X6_goal (mDrop t_X6_goal 22) [some (mr 7 20), some (mi x1), none, none] [mi s2, mi s1, mr 7 20] g = mAns (mEv X call 1 t_X6_goal) (mDrop t_X6_goal 25) [some (mr 7 20), some (mi x1), none, none] [] (call 202 [mr 7 20, mi s1, mi s2] g) := (mEv_1 _ _ _ _).trans rfl
theorem e_X6_goal_25 {X : mX} {call : Nat → List mV → mG → mR} {g : mG} {x1 s0 : Int32} : mEv X call 1 t_X6_goal (mDrop t_X6_goal 25) [some (mr 7 20), some (mi x1), none, none] [mi s0] g = mEv X call 1 t_X6_goal (mDrop t_X6_goal 28) [some (mr 7 20), some (mi x1), some (mi s0), some (mi 0)] [] g := (mEv_3 _ _ _ _).trans rfl
theorem e_X6_goal_28 {X : mX} {call : Nat → List mV → mG → mR} {g : mG} {x1 x2 x3 : Int32} : mEv X call 1 t_X6_goal (mDrop t_X6_goal 28) [some (mr 7 20), some (mi x1), some (mi x2), some (mi x3)] [] g = mAns (mEv X call 1 t_X6_goal) (mDrop t_X6_goal 34) [some (mr 7 20), some (mi x1), some (mi x2), some (mi x3)] [mi x3] (call 158 [mr 7 20, mi 0] g) := (mEv_4 _ _ _ _).trans rfl
theorem e_X6_goal_34 {X : mX} {call : Nat → List mV → mG → mR} {g : mG} {x1 x2 x3 s0 s1 : Int32} : mEv X call 1 t_X6_goal (mDrop t_X6_goal 34) [some (mr 7 20), some (mi x1), some (mi x2), some (mi x3)] [mi s1, mi s0] g = if s1 ≤ s0 then mEv X call 1 t_X6_goal (mDrop t_X6_goal 63) [some (mr 7 20), some (mi x1), some (mi x2), some (mi x3)] [] g else mEv X call 1 t_X6_goal (mDrop t_X6_goal 37) [some (mr 7 20), some (mi x1), some (mi x2), some (mi x3)] [] g := (mEv_1 _ _ _ _).trans rfl
theorem e_X6_goal_63 {X : mX} {call : Nat → List mV → mG → mR} {g : mG} {x1 x2 x3 : Int32} : mEv X call 1 t_X6_goal (mDrop t_X6_goal 63) [some (mr 7 20), some (mi x1), some (mi x2), some (mi x3)] [] g = some (some (mi (-1)), g) := (mEv_2 _ _ _ _).trans rfl
theorem e_X6_goal_37 {X : mX} {call : Nat → List mV → mG → mR} {g : mG} {x1 x2 x3 : Int32} : mEv X call 1 t_X6_goal (mDrop t_X6_goal 37) [some (mr 7 20), some (mi x1), some (mi x2), some (mi x3)] [] g = mAns (mEv X call 1 t_X6_goal) (mDrop t_X6_goal 42) [some (mr 7 20), some (mi x1), some (mi x2), some (mi x3)] [] (call 156 [mi x2, mi x3] g) := (mEv_3 _ _ _ _).trans rfl
theorem e_X6_goal_42 {X : mX} {call : Nat → List mV → mG → mR} {g : mG} {x1 x2 x3 s0 : Int32} : mEv X call 1 t_X6_goal (mDrop t_X6_goal 42) [some (mr 7 20), some (mi x1), some (mi x2), some (mi x3)] [mi s0] g = if s0 = 0 then mEv X call 1 t_X6_goal (mDrop t_X6_goal 57) [some (mr 7 20), some (mi x1), some (mi x2), some (mi x3)] [] g else mEv X call 1 t_X6_goal (mDrop t_X6_goal 45) [some (mr 7 20), some (mi x1), some (mi x2), some (mi x3)] [] g := (mEv_1 _ _ _ _).trans rfl
theorem e_X6_goal_57 {X : mX} {call : Nat → List mV → mG → mR} {g : mG} {x1 x2 x3 : Int32} : mEv X call 1 t_X6_goal (mDrop t_X6_goal 57) [some (mr 7 20), some (mi x1), some (mi x2), some (mi x3)] [] g = mEv X call 1 t_X6_goal (mDrop t_X6_goal 28) [some (mr 7 20), some (mi x1), some (mi x2), some (mi (x3 + 1))] [] g := (mEv_2 _ _ _ _).trans rfl
noncomputable def J_X6_goal_57 (c : mC) (x1 : Int32) (x2 : Int32) (x3 : Int32) : ((Int32) ⊕ (Option (Int32))) := (.inl (x3 + 1))
theorem rj_X6_goal_57 (d : Nat) {X : mX} {g : mG} {x1 x2 x3 : Int32} {c : mC} : mEv X (mCall mD X (d + 2)) 1 t_X6_goal (mDrop t_X6_goal 57) [some (mr 7 20), some (mi x1), some (mi x2), some (mi x3)] [] (mU g 7 c) = (wB (fun x3 : (Int32) => mEv X (mCall mD X (d + 2)) 1 t_X6_goal (mDrop t_X6_goal 28) [some (mr 7 20), some (mi x1), some (mi x2), some (mi x3)] [] (mU g 7 c)) (wO (wI g 7 c))) (J_X6_goal_57 c x1 x2 x3) := by
  refine Eq.trans (e_X6_goal_57) ?_
  try simp only [mU_same, mU_mU]
  exact mw_inl rfl
theorem e_X6_goal_45 {X : mX} {call : Nat → List mV → mG → mR} {g : mG} {x1 x2 x3 : Int32} : mEv X call 1 t_X6_goal (mDrop t_X6_goal 45) [some (mr 7 20), some (mi x1), some (mi x2), some (mi x3)] [] g = mAns (mEv X call 1 t_X6_goal) (mDrop t_X6_goal 51) [some (mr 7 20), some (mi x1), some (mi x2), some (mi x3)] [] (call 165 [mr 7 20, mi x3, mi 0] g) := (mEv_4 _ _ _ _).trans rfl
theorem e_X6_goal_51 {X : mX} {call : Nat → List mV → mG → mR} {g : mG} {x1 x2 x3 s0 : Int32} : mEv X call 1 t_X6_goal (mDrop t_X6_goal 51) [some (mr 7 20), some (mi x1), some (mi x2), some (mi x3)] [mi s0] g = if s0 = x1 then mEv X call 1 t_X6_goal (mDrop t_X6_goal 55) [some (mr 7 20), some (mi x1), some (mi x2), some (mi x3)] [] g else mEv X call 1 t_X6_goal (mDrop t_X6_goal 57) [some (mr 7 20), some (mi x1), some (mi x2), some (mi x3)] [] g := (mEv_2 _ _ _ _).trans rfl
theorem e_X6_goal_55 {X : mX} {call : Nat → List mV → mG → mR} {g : mG} {x1 x2 x3 : Int32} : mEv X call 1 t_X6_goal (mDrop t_X6_goal 55) [some (mr 7 20), some (mi x1), some (mi x2), some (mi x3)] [] g = some (some (mi x3), g) := (mEv_2 _ _ _ _).trans rfl
noncomputable def B_X6_goal_28 (c : mC) (x1 : Int32) (x2 : Int32) : (Int32) → (Int32) ⊕ (Option (Int32)) := fun x3 => (mBo (α := Int32) (.inr none) (P_X6_of c 0) (fun v1 => (if v1 ≤ x3 then (.inr (some (-1))) else (mBd (α := Int32) (P_X6_has x2 x3) (fun v2 => (if v2 = 0 then (J_X6_goal_57 c x1 x2 x3) else (mBo (α := Int32) (.inr none) (P_X6_ofPhase c x3 0) (fun v3 => (if v3 = x1 then (.inr (some x3)) else (J_X6_goal_57 c x1 x2 x3))))))))))
set_option maxRecDepth 100000 in
theorem tm_X6_goal_28 {c : mC} {x1 : Int32} {x2 : Int32} : mTm (B_X6_goal_28 c x1 x2) := by
  refine ⟨fun x3 => mMx x3, fun s s2 h => ?_⟩
  skip
  simp only [B_X6_goal_28, J_X6_goal_57, mBd, mBo] at h
  (repeat' split at h) <;> first | (have h2 := Sum.inl.inj h; subst h2; dsimp only; first | exact mtm_max (by assumption) | exact mtm_lt (by assumption)) | (cases h; done)
theorem rl_X6_goal_28 (d : Nat) {X : mX} {g : mG} {x1 x2 x3 : Int32} {c : mC} : mEv X (mCall mD X (d + 2)) 1 t_X6_goal (mDrop t_X6_goal 28) [some (mr 7 20), some (mi x1), some (mi x2), some (mi x3)] [] (mU g 7 c) = (wO (wI g 7 c)) (mWh none (B_X6_goal_28 c x1 x2) x3) := by
  refine mWh_ev (B := (B_X6_goal_28 c x1 x2)) (ev := fun x3 : (Int32) => mEv X (mCall mD X (d + 2)) 1 t_X6_goal (mDrop t_X6_goal 28) [some (mr 7 20), some (mi x1), some (mi x2), some (mi x3)] [] (mU g 7 c)) (w := (wO (wI g 7 c))) (tm_X6_goal_28) ?_ x3
  intro x3
  show mEv X (mCall mD X (d + 2)) 1 t_X6_goal (mDrop t_X6_goal 28) [some (mr 7 20), some (mi x1), some (mi x2), some (mi x3)] [] (mU g 7 c) = wB (fun x3 : (Int32) => mEv X (mCall mD X (d + 2)) 1 t_X6_goal (mDrop t_X6_goal 28) [some (mr 7 20), some (mi x1), some (mi x2), some (mi x3)] [] (mU g 7 c)) (wO (wI g 7 c)) (mBo (α := Int32) (.inr none) (P_X6_of c 0) (fun v1 => (if v1 ≤ x3 then (.inr (some (-1))) else (mBd (α := Int32) (P_X6_has x2 x3) (fun v2 => (if v2 = 0 then (J_X6_goal_57 c x1 x2 x3) else (mBo (α := Int32) (.inr none) (P_X6_ofPhase c x3 0) (fun v3 => (if v3 = x1 then (.inr (some x3)) else (J_X6_goal_57 c x1 x2 x3))))))))))
  refine Eq.trans (e_X6_goal_28) ?_
  try simp only [mU_same, mU_mU]
  refine mw_oI ?_ (rr_X6_of (d + 1)) (fun v1 => ?_)
  · rfl
  refine Eq.trans (e_X6_goal_34) ?_
  try simp only [mU_same, mU_mU]
  refine mw_ite (fun h6 => ?_) (fun h6 => ?_)
  · refine mw_inr ?_
    refine Eq.trans (e_X6_goal_63) ?_
    try simp only [mU_same, mU_mU]
    all_goals rfl
  · refine Eq.trans (e_X6_goal_37) ?_
    try simp only [mU_same, mU_mU]
    refine mw_cZ (rr_X6_has (d + 1)) rfl (fun v2 hv2 => ?_)
    refine Eq.trans (e_X6_goal_42) ?_
    try simp only [mU_same, mU_mU]
    refine mw_ite (fun h5 => ?_) (fun h5 => ?_)
    · exact rj_X6_goal_57 d
    · refine Eq.trans (e_X6_goal_45) ?_
      try simp only [mU_same, mU_mU]
      refine mw_oI ?_ (rr_X6_ofPhase d) (fun v3 => ?_)
      · rfl
      refine Eq.trans (e_X6_goal_51) ?_
      try simp only [mU_same, mU_mU]
      refine mw_ite (fun h4 => ?_) (fun h4 => ?_)
      · refine mw_inr ?_
        refine Eq.trans (e_X6_goal_55) ?_
        try simp only [mU_same, mU_mU]
        all_goals rfl
      · exact rj_X6_goal_57 d
noncomputable def J_X6_goal_22 (c : mC) (x1 : Int32) (s1 : Int32) (s2 : Int32) : (Option (Int32)) := (mBo (α := Int32) none (P_X6_ofBreak c s1 s2) (fun v1 => (mWh none (B_X6_goal_28 c x1 v1) 0)))
theorem rj_X6_goal_22 (d : Nat) {X : mX} {g : mG} {x1 s1 s2 : Int32} {c : mC} : mEv X (mCall mD X (d + 2)) 1 t_X6_goal (mDrop t_X6_goal 22) [some (mr 7 20), some (mi x1), none, none] [mi s2, mi s1, mr 7 20] (mU g 7 c) = (wO (wI g 7 c)) (J_X6_goal_22 c x1 s1 s2) := by
  refine Eq.trans (e_X6_goal_22) ?_
  try simp only [mU_same, mU_mU]
  refine mw_oI ?_ (rr_X6_ofBreak d) (fun v1 => ?_)
  · rfl
  refine Eq.trans (e_X6_goal_25) ?_
  try simp only [mU_same, mU_mU]
  exact rl_X6_goal_28 d
theorem e_X6_goal_17 {X : mX} {call : Nat → List mV → mG → mR} {g : mG} {x1 s1 : Int32} : mEv X call 1 t_X6_goal (mDrop t_X6_goal 17) [some (mr 7 20), some (mi x1), none, none] [mi s1, mr 7 20] g = mEv X call 1 t_X6_goal (mDrop t_X6_goal 22) [some (mr 7 20), some (mi x1), none, none] [mi 0, mi s1, mr 7 20] g := (mEv_2 _ _ _ _).trans rfl
noncomputable def P_X6_goal (c : mC) (x1 : Int32) : (Option (Int32)) := (mBo (α := Int32) none (P_X6_of c 7) (fun v1 => (mBo (α := Int32) none (P_X6_of c 8) (fun v2 => (if 3 ≤ v2 then (J_X6_goal_22 c x1 v1 2) else (J_X6_goal_22 c x1 v1 0))))))
theorem rr_X6_goal (d : Nat) {X : mX} {g : mG} {x1 : Int32} {c : mC} : mCall mD X (d + 3) 207 [mr 7 20, mi x1] (mU g 7 c) = (wO (wI g 7 c)) (P_X6_goal c x1) := by
  refine Eq.trans (mCall_eq (d := d + 2) rfl) ?_
  show mEv X (mCall mD X (d + 2)) 1 t_X6_goal (mDrop t_X6_goal 0) [some (mr 7 20), some (mi x1), none, none] [] (mU g 7 c) = _
  refine Eq.trans (e_X6_goal_0) ?_
  try simp only [mU_same, mU_mU]
  refine mw_oI ?_ (rr_X6_of (d + 1)) (fun v1 => ?_)
  · rfl
  refine Eq.trans (e_X6_goal_7) ?_
  try simp only [mU_same, mU_mU]
  refine mw_oI ?_ (rr_X6_of (d + 1)) (fun v2 => ?_)
  · rfl
  refine Eq.trans (e_X6_goal_13) ?_
  try simp only [mU_same, mU_mU]
  refine mw_ite (fun h3 => ?_) (fun h3 => ?_)
  · refine Eq.trans (e_X6_goal_21) ?_
    try simp only [mU_same, mU_mU]
    exact rj_X6_goal_22 d
  · refine Eq.trans (e_X6_goal_17) ?_
    try simp only [mU_same, mU_mU]
    exact rj_X6_goal_22 d
theorem rr_X6_goal_at (d : Nat) {X : mX} {g : mG} {x1 : Int32} : mCall mD X (d + 3) 207 [mr 7 20, mi x1] g = wO (wN g) (P_X6_goal (g 7) x1) := by
  have h := rr_X6_goal (X := X) d (g := g) (c := g 7) (x1 := x1)
  rw [mU_self] at h
  exact h.trans (wOI_self _ _ _)
theorem e_X6_goesTo_0 {X : mX} {call : Nat → List mV → mG → mR} {g : mG} {x1 : Int32} : mEv X call 0 t_X6_goesTo (mDrop t_X6_goesTo 0) [some (mr 7 20), some (mi x1), none] [] g = mAns (mEv X call 0 t_X6_goesTo) (mDrop t_X6_goesTo 5) [some (mr 7 20), some (mi x1), none] [] (call 207 [mr 7 20, mi x1] g) := (mEv_3 _ _ _ _).trans rfl
theorem e_X6_goesTo_5 {X : mX} {call : Nat → List mV → mG → mR} {g : mG} {x1 s0 : Int32} : mEv X call 0 t_X6_goesTo (mDrop t_X6_goesTo 5) [some (mr 7 20), some (mi x1), none] [mi s0] g = mAns (mEv X call 0 t_X6_goesTo) (mDrop t_X6_goesTo 11) [some (mr 7 20), some (mi x1), some (mi s0)] [] (call 181 [mr 7 20, mi x1] g) := (mEv_4 _ _ _ _).trans rfl
theorem e_X6_goesTo_11 {X : mX} {call : Nat → List mV → mG → mR} {g : mG} {x1 x2 s0 : Int32} : mEv X call 0 t_X6_goesTo (mDrop t_X6_goesTo 11) [some (mr 7 20), some (mi x1), some (mi x2)] [mi s0] g = if s0 = 0 then mEv X call 0 t_X6_goesTo (mDrop t_X6_goesTo 14) [some (mr 7 20), some (mi x1), some (mi x2)] [] g else mEv X call 0 t_X6_goesTo (mDrop t_X6_goesTo 24) [some (mr 7 20), some (mi x1), some (mi x2)] [] g := (mEv_1 _ _ _ _).trans rfl
theorem e_X6_goesTo_14 {X : mX} {call : Nat → List mV → mG → mR} {g : mG} {x1 x2 : Int32} : mEv X call 0 t_X6_goesTo (mDrop t_X6_goesTo 14) [some (mr 7 20), some (mi x1), some (mi x2)] [] g = mAns (mEv X call 0 t_X6_goesTo) (mDrop t_X6_goesTo 21) [some (mr 7 20), some (mi x1), some (mi x2)] [] (call 164 [mr 7 20, mi x1, mi 3, mi x2] g) := (mEv_5 _ _ _ _).trans rfl
theorem e_X6_goesTo_21 {X : mX} {call : Nat → List mV → mG → mR} {g : mG} {x1 x2 : Int32} : mEv X call 0 t_X6_goesTo (mDrop t_X6_goesTo 21) [some (mr 7 20), some (mi x1), some (mi x2)] [] g = mEv X call 0 t_X6_goesTo (mDrop t_X6_goesTo 98) [some (mr 7 20), some (mi x1), some (mi x2)] [] g := (mEv_1 _ _ _ _).trans rfl
theorem e_X6_goesTo_98 {X : mX} {call : Nat → List mV → mG → mR} {g : mG} {x1 x2 : Int32} : mEv X call 0 t_X6_goesTo (mDrop t_X6_goesTo 98) [some (mr 7 20), some (mi x1), some (mi x2)] [] g = some (none, g) := (mEv_1 _ _ _ _).trans rfl
theorem e_X6_goesTo_24 {X : mX} {call : Nat → List mV → mG → mR} {g : mG} {x1 x2 : Int32} : mEv X call 0 t_X6_goesTo (mDrop t_X6_goesTo 24) [some (mr 7 20), some (mi x1), some (mi x2)] [] g = mAns (mEv X call 0 t_X6_goesTo) (mDrop t_X6_goesTo 30) [some (mr 7 20), some (mi x1), some (mi x2)] [] (call 163 [mr 7 20, mi x1, mi 0] g) := (mEv_4 _ _ _ _).trans rfl
theorem e_X6_goesTo_30 {X : mX} {call : Nat → List mV → mG → mR} {g : mG} {x1 x2 s0 : Int32} : mEv X call 0 t_X6_goesTo (mDrop t_X6_goesTo 30) [some (mr 7 20), some (mi x1), some (mi x2)] [mi s0] g = if s0 = x2 then mEv X call 0 t_X6_goesTo (mDrop t_X6_goesTo 98) [some (mr 7 20), some (mi x1), some (mi x2)] [] g else mEv X call 0 t_X6_goesTo (mDrop t_X6_goesTo 34) [some (mr 7 20), some (mi x1), some (mi x2)] [] g := (mEv_2 _ _ _ _).trans rfl
theorem e_X6_goesTo_34 {X : mX} {call : Nat → List mV → mG → mR} {g : mG} {x1 x2 : Int32} : mEv X call 0 t_X6_goesTo (mDrop t_X6_goesTo 34) [some (mr 7 20), some (mi x1), some (mi x2)] [] g = mAns (mEv X call 0 t_X6_goesTo) (mDrop t_X6_goesTo 41) [some (mr 7 20), some (mi x1), some (mi x2)] [] (call 163 [mr 7 20, mi x1, mi 6] g) := (mEv_4 _ _ _ _).trans rfl
theorem e_X6_goesTo_41 {X : mX} {call : Nat → List mV → mG → mR} {g : mG} {x1 x2 s0 : Int32} : mEv X call 0 t_X6_goesTo (mDrop t_X6_goesTo 41) [some (mr 7 20), some (mi x1), some (mi x2)] [mi s0] g = if s0 = 1 then mEv X call 0 t_X6_goesTo (mDrop t_X6_goesTo 45) [some (mr 7 20), some (mi x1), some (mi x2)] [] g else mEv X call 0 t_X6_goesTo (mDrop t_X6_goesTo 61) [some (mr 7 20), some (mi x1), some (mi x2)] [] g := (mEv_2 _ _ _ _).trans rfl
theorem e_X6_goesTo_45 {X : mX} {call : Nat → List mV → mG → mR} {g : mG} {x1 x2 : Int32} : mEv X call 0 t_X6_goesTo (mDrop t_X6_goesTo 45) [some (mr 7 20), some (mi x1), some (mi x2)] [] g = mAns (mEv X call 0 t_X6_goesTo) (mDrop t_X6_goesTo 53) [some (mr 7 20), some (mi x1), some (mi x2)] [] (call 164 [mr 7 20, mi x1, mi 6, mi 2] g) := (mEv_5 _ _ _ _).trans rfl
theorem e_X6_goesTo_53 {X : mX} {call : Nat → List mV → mG → mR} {g : mG} {x1 x2 : Int32} : mEv X call 0 t_X6_goesTo (mDrop t_X6_goesTo 53) [some (mr 7 20), some (mi x1), some (mi x2)] [] g = mAns (mEv X call 0 t_X6_goesTo) (mDrop t_X6_goesTo 61) [some (mr 7 20), some (mi x1), some (mi x2)] [] (call 164 [mr 7 20, mi x1, mi 7, mi 0] g) := (mEv_5 _ _ _ _).trans rfl
theorem e_X6_goesTo_61 {X : mX} {call : Nat → List mV → mG → mR} {g : mG} {x1 x2 : Int32} : mEv X call 0 t_X6_goesTo (mDrop t_X6_goesTo 61) [some (mr 7 20), some (mi x1), some (mi x2)] [] g = mAns (mEv X call 0 t_X6_goesTo) (mDrop t_X6_goesTo 68) [some (mr 7 20), some (mi x1), some (mi x2)] [] (call 163 [mr 7 20, mi x1, mi 6] g) := (mEv_4 _ _ _ _).trans rfl
theorem e_X6_goesTo_68 {X : mX} {call : Nat → List mV → mG → mR} {g : mG} {x1 x2 s0 : Int32} : mEv X call 0 t_X6_goesTo (mDrop t_X6_goesTo 68) [some (mr 7 20), some (mi x1), some (mi x2)] [mi s0] g = if s0 = 0 then mEv X call 0 t_X6_goesTo (mDrop t_X6_goesTo 92) [some (mr 7 20), some (mi x1), some (mi x2)] [] g else mEv X call 0 t_X6_goesTo (mDrop t_X6_goesTo 71) [some (mr 7 20), some (mi x1), some (mi x2)] [] g := (mEv_1 _ _ _ _).trans rfl
theorem e_X6_goesTo_92 {X : mX} {call : Nat → List mV → mG → mR} {g : mG} {x1 x2 : Int32} : mEv X call 0 t_X6_goesTo (mDrop t_X6_goesTo 92) [some (mr 7 20), some (mi x1), some (mi x2)] [] g = mAns (mEv X call 0 t_X6_goesTo) (mDrop t_X6_goesTo 98) [some (mr 7 20), some (mi x1), some (mi x2)] [] (call 184 [mr 7 20, mi x1, mi x2] g) := (mEv_4 _ _ _ _).trans rfl
noncomputable def J_X6_goesTo_92 (c : mC) (x1 : Int32) (x2 : Int32) : (Option (mC)) := (mBo (α := mC) none (P_X6_leaves c x1 x2) (fun c1 => (some c1)))
theorem rj_X6_goesTo_92 (d : Nat) {X : mX} {g : mG} {x1 x2 : Int32} {c : mC} : mEv X (mCall mD X (d + 4)) 0 t_X6_goesTo (mDrop t_X6_goesTo 92) [some (mr 7 20), some (mi x1), some (mi x2)] [] (mU g 7 c) = (wO (wV g 7)) (J_X6_goesTo_92 c x1 x2) := by
  refine Eq.trans (e_X6_goesTo_92) ?_
  try simp only [mU_same, mU_mU]
  refine mw_oV ?_ (rr_X6_leaves d) (fun c1 => ?_)
  · rfl
  refine Eq.trans (e_X6_goesTo_98) ?_
  try simp only [mU_same, mU_mU]
  all_goals rfl
theorem e_X6_goesTo_71 {X : mX} {call : Nat → List mV → mG → mR} {g : mG} {x1 x2 : Int32} : mEv X call 0 t_X6_goesTo (mDrop t_X6_goesTo 71) [some (mr 7 20), some (mi x1), some (mi x2)] [] g = mAns (mEv X call 0 t_X6_goesTo) (mDrop t_X6_goesTo 78) [some (mr 7 20), some (mi x1), some (mi x2)] [] (call 163 [mr 7 20, mi x1, mi 7] g) := (mEv_4 _ _ _ _).trans rfl
theorem e_X6_goesTo_78 {X : mX} {call : Nat → List mV → mG → mR} {g : mG} {x1 x2 s0 : Int32} : mEv X call 0 t_X6_goesTo (mDrop t_X6_goesTo 78) [some (mr 7 20), some (mi x1), some (mi x2)] [mi s0] g = mAns (mEv X call 0 t_X6_goesTo) (mDrop t_X6_goesTo 85) [some (mr 7 20), some (mi x1), some (mi x2)] [mr 7 20, mi s0] (call 158 [mr 7 20, mi 7] g) := (mEv_4 _ _ _ _).trans rfl
theorem e_X6_goesTo_85 {X : mX} {call : Nat → List mV → mG → mR} {g : mG} {x1 x2 s0 s2 : Int32} : mEv X call 0 t_X6_goesTo (mDrop t_X6_goesTo 85) [some (mr 7 20), some (mi x1), some (mi x2)] [mi s2, mr 7 20, mi s0] g = mAns (mEv X call 0 t_X6_goesTo) (mDrop t_X6_goesTo 89) [some (mr 7 20), some (mi x1), some (mi x2)] [mi s0] (call 202 [mr 7 20, mi s2, mi 4] g) := (mEv_2 _ _ _ _).trans rfl
theorem e_X6_goesTo_89 {X : mX} {call : Nat → List mV → mG → mR} {g : mG} {x1 x2 s0 s1 : Int32} : mEv X call 0 t_X6_goesTo (mDrop t_X6_goesTo 89) [some (mr 7 20), some (mi x1), some (mi x2)] [mi s1, mi s0] g = if s0 < s1 then mEv X call 0 t_X6_goesTo (mDrop t_X6_goesTo 98) [some (mr 7 20), some (mi x1), some (mi x2)] [] g else mEv X call 0 t_X6_goesTo (mDrop t_X6_goesTo 92) [some (mr 7 20), some (mi x1), some (mi x2)] [] g := (mEv_1 _ _ _ _).trans rfl
noncomputable def J_X6_goesTo_61 (c : mC) (x1 : Int32) (x2 : Int32) : (Option (mC)) := (mBo (α := Int32) none (P_X6_ofRing c x1 6) (fun v1 => (if v1 = 0 then (J_X6_goesTo_92 c x1 x2) else (mBo (α := Int32) none (P_X6_ofRing c x1 7) (fun v2 => (mBo (α := Int32) none (P_X6_of c 7) (fun v3 => (mBo (α := Int32) none (P_X6_ofBreak c v3 4) (fun v4 => (if v2 < v4 then (some c) else (J_X6_goesTo_92 c x1 x2)))))))))))
theorem rj_X6_goesTo_61 (d : Nat) {X : mX} {g : mG} {x1 x2 : Int32} {c : mC} : mEv X (mCall mD X (d + 4)) 0 t_X6_goesTo (mDrop t_X6_goesTo 61) [some (mr 7 20), some (mi x1), some (mi x2)] [] (mU g 7 c) = (wO (wV g 7)) (J_X6_goesTo_61 c x1 x2) := by
  refine Eq.trans (e_X6_goesTo_61) ?_
  try simp only [mU_same, mU_mU]
  refine mw_oI ?_ (rr_X6_ofRing (d + 2)) (fun v1 => ?_)
  · rfl
  refine Eq.trans (e_X6_goesTo_68) ?_
  try simp only [mU_same, mU_mU]
  refine mw_ite (fun h6 => ?_) (fun h6 => ?_)
  · exact rj_X6_goesTo_92 d
  · refine Eq.trans (e_X6_goesTo_71) ?_
    try simp only [mU_same, mU_mU]
    refine mw_oI ?_ (rr_X6_ofRing (d + 2)) (fun v2 => ?_)
    · rfl
    refine Eq.trans (e_X6_goesTo_78) ?_
    try simp only [mU_same, mU_mU]
    refine mw_oI ?_ (rr_X6_of (d + 3)) (fun v3 => ?_)
    · rfl
    refine Eq.trans (e_X6_goesTo_85) ?_
    try simp only [mU_same, mU_mU]
    refine mw_oI ?_ (rr_X6_ofBreak (d + 2)) (fun v4 => ?_)
    · rfl
    refine Eq.trans (e_X6_goesTo_89) ?_
    try simp only [mU_same, mU_mU]
    refine mw_ite (fun h5 => ?_) (fun h5 => ?_)
    · refine Eq.trans (e_X6_goesTo_98) ?_
      try simp only [mU_same, mU_mU]
      all_goals rfl
    · exact rj_X6_goesTo_92 d
noncomputable def P_X6_goesTo (c : mC) (x1 : Int32) : (Option (mC)) := (mBo (α := Int32) none (P_X6_goal c x1) (fun v1 => (mBo (α := Int32) none (P_X6_isGreen c x1) (fun v2 => (if v2 = 0 then (mBo (α := mC) none (P_X6_putsRing c x1 3 v1) (fun c3 => (some c3))) else (mBo (α := Int32) none (P_X6_ofRing c x1 0) (fun v4 => (if v4 = v1 then (some c) else (mBo (α := Int32) none (P_X6_ofRing c x1 6) (fun v5 => (if v5 = 1 then (mBo (α := mC) none (P_X6_putsRing c x1 6 2) (fun c6 => (mBo (α := mC) none (P_X6_putsRing c6 x1 7 0) (fun c7 => (J_X6_goesTo_61 c7 x1 v1))))) else (J_X6_goesTo_61 c x1 v1))))))))))))
theorem rr_X6_goesTo (d : Nat) {X : mX} {g : mG} {x1 : Int32} {c : mC} : mCall mD X (d + 5) 208 [mr 7 20, mi x1] (mU g 7 c) = (wO (wV g 7)) (P_X6_goesTo c x1) := by
  refine Eq.trans (mCall_eq (d := d + 4) rfl) ?_
  show mEv X (mCall mD X (d + 4)) 0 t_X6_goesTo (mDrop t_X6_goesTo 0) [some (mr 7 20), some (mi x1), none] [] (mU g 7 c) = _
  refine Eq.trans (e_X6_goesTo_0) ?_
  try simp only [mU_same, mU_mU]
  refine mw_oI ?_ (rr_X6_goal (d + 1)) (fun v1 => ?_)
  · rfl
  refine Eq.trans (e_X6_goesTo_5) ?_
  try simp only [mU_same, mU_mU]
  refine mw_oZ ?_ (rr_X6_isGreen (d + 1)) rfl (fun v2 hv2 => ?_)
  · rfl
  refine Eq.trans (e_X6_goesTo_11) ?_
  try simp only [mU_same, mU_mU]
  refine mw_ite (fun h10 => ?_) (fun h10 => ?_)
  · refine Eq.trans (e_X6_goesTo_14) ?_
    try simp only [mU_same, mU_mU]
    refine mw_oV ?_ (rr_X6_putsRing (d + 2)) (fun c3 => ?_)
    · rfl
    refine Eq.trans (e_X6_goesTo_21) ?_
    try simp only [mU_same, mU_mU]
    refine Eq.trans (e_X6_goesTo_98) ?_
    try simp only [mU_same, mU_mU]
    all_goals rfl
  · refine Eq.trans (e_X6_goesTo_24) ?_
    try simp only [mU_same, mU_mU]
    refine mw_oI ?_ (rr_X6_ofRing (d + 2)) (fun v4 => ?_)
    · rfl
    refine Eq.trans (e_X6_goesTo_30) ?_
    try simp only [mU_same, mU_mU]
    refine mw_ite (fun h9 => ?_) (fun h9 => ?_)
    · refine Eq.trans (e_X6_goesTo_98) ?_
      try simp only [mU_same, mU_mU]
      all_goals rfl
    · refine Eq.trans (e_X6_goesTo_34) ?_
      try simp only [mU_same, mU_mU]
      refine mw_oI ?_ (rr_X6_ofRing (d + 2)) (fun v5 => ?_)
      · rfl
      refine Eq.trans (e_X6_goesTo_41) ?_
      try simp only [mU_same, mU_mU]
      refine mw_ite (fun h8 => ?_) (fun h8 => ?_)
      · refine Eq.trans (e_X6_goesTo_45) ?_
        try simp only [mU_same, mU_mU]
        refine mw_oV ?_ (rr_X6_putsRing (d + 2)) (fun c6 => ?_)
        · rfl
        refine Eq.trans (e_X6_goesTo_53) ?_
        try simp only [mU_same, mU_mU]
        refine mw_oV ?_ (rr_X6_putsRing (d + 2)) (fun c7 => ?_)
        · rfl
        exact rj_X6_goesTo_61 d
      · exact rj_X6_goesTo_61 d
theorem rr_X6_goesTo_at (d : Nat) {X : mX} {g : mG} {x1 : Int32} : mCall mD X (d + 5) 208 [mr 7 20, mi x1] g = wO (wV g 7) (P_X6_goesTo (g 7) x1) := by
  have h := rr_X6_goesTo (X := X) d (g := g) (c := g 7) (x1 := x1)
  rw [mU_self] at h
  exact h
theorem e_X6_breaks_0 {X : mX} {call : Nat → List mV → mG → mR} {g : mG} : mEv X call 0 t_X6_breaks (mDrop t_X6_breaks 0) [some (mr 7 20), none, none] [] g = if (0 : Int32) &&& 1 = 0 then mEv X call 0 t_X6_breaks (mDrop t_X6_breaks 5) [some (mr 7 20), none, none] [] (mU g 7 (mP (g 7) 20 5 0)) else none := (mEv_3 _ _ _ _).trans rfl
theorem e_X6_breaks_5 {X : mX} {call : Nat → List mV → mG → mR} {g : mG} : mEv X call 0 t_X6_breaks (mDrop t_X6_breaks 5) [some (mr 7 20), none, none] [] g = mAns (mEv X call 0 t_X6_breaks) (mDrop t_X6_breaks 11) [some (mr 7 20), none, none] [] (call 158 [mr 7 20, mi 7] g) := (mEv_3 _ _ _ _).trans rfl
theorem e_X6_breaks_11 {X : mX} {call : Nat → List mV → mG → mR} {g : mG} {s0 : Int32} : mEv X call 0 t_X6_breaks (mDrop t_X6_breaks 11) [some (mr 7 20), none, none] [mi s0] g = if s0 = 1 then mEv X call 0 t_X6_breaks (mDrop t_X6_breaks 15) [some (mr 7 20), none, none] [] g else mEv X call 0 t_X6_breaks (mDrop t_X6_breaks 32) [some (mr 7 20), none, none] [] g := (mEv_2 _ _ _ _).trans rfl
theorem e_X6_breaks_15 {X : mX} {call : Nat → List mV → mG → mR} {g : mG} : mEv X call 0 t_X6_breaks (mDrop t_X6_breaks 15) [some (mr 7 20), none, none] [] g = mAns (mEv X call 0 t_X6_breaks) (mDrop t_X6_breaks 21) [some (mr 7 20), none, none] [] (call 158 [mr 7 20, mi 10] g) := (mEv_3 _ _ _ _).trans rfl
theorem e_X6_breaks_21 {X : mX} {call : Nat → List mV → mG → mR} {g : mG} {s0 : Int32} : mEv X call 0 t_X6_breaks (mDrop t_X6_breaks 21) [some (mr 7 20), none, none] [mi s0] g = mAns (mEv X call 0 t_X6_breaks) (mDrop t_X6_breaks 25) [some (mr 7 20), none, none] [] (call 156 [mi s0, mi 0] g) := (mEv_2 _ _ _ _).trans rfl
theorem e_X6_breaks_25 {X : mX} {call : Nat → List mV → mG → mR} {g : mG} {s0 : Int32} : mEv X call 0 t_X6_breaks (mDrop t_X6_breaks 25) [some (mr 7 20), none, none] [mi s0] g = if s0 = 0 then mEv X call 0 t_X6_breaks (mDrop t_X6_breaks 32) [some (mr 7 20), none, none] [] g else mEv X call 0 t_X6_breaks (mDrop t_X6_breaks 28) [some (mr 7 20), none, none] [] g := (mEv_1 _ _ _ _).trans rfl
theorem e_X6_breaks_32 {X : mX} {call : Nat → List mV → mG → mR} {g : mG} : mEv X call 0 t_X6_breaks (mDrop t_X6_breaks 32) [some (mr 7 20), none, none] [] g = mAns (mEv X call 0 t_X6_breaks) (mDrop t_X6_breaks 38) [some (mr 7 20), none, none] [] (call 158 [mr 7 20, mi 7] g) := (mEv_3 _ _ _ _).trans rfl
theorem e_X6_breaks_38 {X : mX} {call : Nat → List mV → mG → mR} {g : mG} {s0 : Int32} : mEv X call 0 t_X6_breaks (mDrop t_X6_breaks 38) [some (mr 7 20), none, none] [mi s0] g = if s0 = (-1) then mEv X call 0 t_X6_breaks (mDrop t_X6_breaks 42) [some (mr 7 20), none, none] [] g else mEv X call 0 t_X6_breaks (mDrop t_X6_breaks 73) [some (mr 7 20), none, none] [] g := (mEv_2 _ _ _ _).trans rfl
theorem e_X6_breaks_42 {X : mX} {call : Nat → List mV → mG → mR} {g : mG} : mEv X call 0 t_X6_breaks (mDrop t_X6_breaks 42) [some (mr 7 20), none, none] [] g = mAns (mEv X call 0 t_X6_breaks) (mDrop t_X6_breaks 48) [some (mr 7 20), none, none] [] (call 158 [mr 7 20, mi 10] g) := (mEv_3 _ _ _ _).trans rfl
theorem e_X6_breaks_48 {X : mX} {call : Nat → List mV → mG → mR} {g : mG} {s0 : Int32} : mEv X call 0 t_X6_breaks (mDrop t_X6_breaks 48) [some (mr 7 20), none, none] [mi s0] g = if s0 = 0 then mEv X call 0 t_X6_breaks (mDrop t_X6_breaks 73) [some (mr 7 20), none, none] [] g else mEv X call 0 t_X6_breaks (mDrop t_X6_breaks 51) [some (mr 7 20), none, none] [] g := (mEv_1 _ _ _ _).trans rfl
theorem e_X6_breaks_73 {X : mX} {call : Nat → List mV → mG → mR} {g : mG} : mEv X call 0 t_X6_breaks (mDrop t_X6_breaks 73) [some (mr 7 20), none, none] [] g = mAns (mEv X call 0 t_X6_breaks) (mDrop t_X6_breaks 79) [some (mr 7 20), none, none] [] (call 158 [mr 7 20, mi 7] g) := (mEv_3 _ _ _ _).trans rfl
theorem e_X6_breaks_79 {X : mX} {call : Nat → List mV → mG → mR} {g : mG} {s0 : Int32} : mEv X call 0 t_X6_breaks (mDrop t_X6_breaks 79) [some (mr 7 20), none, none] [mi s0] g = if s0 = (-1) then mEv X call 0 t_X6_breaks (mDrop t_X6_breaks 83) [some (mr 7 20), none, none] [] g else mEv X call 0 t_X6_breaks (mDrop t_X6_breaks 84) [some (mr 7 20), none, none] [] g := (mEv_2 _ _ _ _).trans rfl
theorem e_X6_breaks_83 {X : mX} {call : Nat → List mV → mG → mR} {g : mG} : mEv X call 0 t_X6_breaks (mDrop t_X6_breaks 83) [some (mr 7 20), none, none] [] g = some (none, g) := (mEv_1 _ _ _ _).trans rfl
theorem e_X6_breaks_84 {X : mX} {call : Nat → List mV → mG → mR} {g : mG} : mEv X call 0 t_X6_breaks (mDrop t_X6_breaks 84) [some (mr 7 20), none, none] [] g = mAns (mEv X call 0 t_X6_breaks) (mDrop t_X6_breaks 91) [some (mr 7 20), none, none] [mr 7 20] (call 158 [mr 7 20, mi 8] g) := (mEv_4 _ _ _ _).trans rfl
theorem e_X6_breaks_91 {X : mX} {call : Nat → List mV → mG → mR} {g : mG} {s1 : Int32} : mEv X call 0 t_X6_breaks (mDrop t_X6_breaks 91) [some (mr 7 20), none, none] [mi s1, mr 7 20] g = if s1 = 1 then mEv X call 0 t_X6_breaks (mDrop t_X6_breaks 105) [some (mr 7 20), none, none] [mr 7 20] g else mEv X call 0 t_X6_breaks (mDrop t_X6_breaks 95) [some (mr 7 20), none, none] [mr 7 20] g := (mEv_2 _ _ _ _).trans rfl
theorem e_X6_breaks_105 {X : mX} {call : Nat → List mV → mG → mR} {g : mG} : mEv X call 0 t_X6_breaks (mDrop t_X6_breaks 105) [some (mr 7 20), none, none] [mr 7 20] g = mEv X call 0 t_X6_breaks (mDrop t_X6_breaks 110) [some (mr 7 20), none, none] [mi 1, mr 7 20] g := (mEv_2 _ _ _ _).trans rfl
theorem e_X6_breaks_110 {X : mX} {call : Nat → List mV → mG → mR} {g : mG} {s1 : Int32} : mEv X call 0 t_X6_breaks (mDrop t_X6_breaks 110) [some (mr 7 20), none, none] [mi s1, mr 7 20] g = if (s1 : Int32) &&& 1 = s1 then mEv X call 0 t_X6_breaks (mDrop t_X6_breaks 113) [some (mr 7 20), none, none] [] (mU g 7 (mP (g 7) 20 5 s1)) else none := (mEv_1 _ _ _ _).trans rfl
theorem e_X6_breaks_113 {X : mX} {call : Nat → List mV → mG → mR} {g : mG} : mEv X call 0 t_X6_breaks (mDrop t_X6_breaks 113) [some (mr 7 20), none, none] [] g = if ((g 7 20 5) &&& 1) = 0 then mEv X call 0 t_X6_breaks (mDrop t_X6_breaks 131) [some (mr 7 20), none, none] [] g else mEv X call 0 t_X6_breaks (mDrop t_X6_breaks 120) [some (mr 7 20), none, none] [] g := (mEv_3 _ _ _ _).trans rfl
theorem e_X6_breaks_131 {X : mX} {call : Nat → List mV → mG → mR} {g : mG} : mEv X call 0 t_X6_breaks (mDrop t_X6_breaks 131) [some (mr 7 20), none, none] [] g = mAns (mEv X call 0 t_X6_breaks) (mDrop t_X6_breaks 138) [some (mr 7 20), none, none] [] (call 160 [mr 7 20, mi 9, mi 1] g) := (mEv_4 _ _ _ _).trans rfl
theorem e_X6_breaks_138 {X : mX} {call : Nat → List mV → mG → mR} {g : mG} : mEv X call 0 t_X6_breaks (mDrop t_X6_breaks 138) [some (mr 7 20), none, none] [] g = mAns (mEv X call 0 t_X6_breaks) (mDrop t_X6_breaks 144) [some (mr 7 20), none, none] [] (call 158 [mr 7 20, mi 8] g) := (mEv_3 _ _ _ _).trans rfl
theorem e_X6_breaks_144 {X : mX} {call : Nat → List mV → mG → mR} {g : mG} {s0 : Int32} : mEv X call 0 t_X6_breaks (mDrop t_X6_breaks 144) [some (mr 7 20), none, none] [mi s0] g = if s0 = 2 then mEv X call 0 t_X6_breaks (mDrop t_X6_breaks 148) [some (mr 7 20), none, none] [] g else mEv X call 0 t_X6_breaks (mDrop t_X6_breaks 174) [some (mr 7 20), none, none] [] g := (mEv_2 _ _ _ _).trans rfl
theorem e_X6_breaks_148 {X : mX} {call : Nat → List mV → mG → mR} {g : mG} : mEv X call 0 t_X6_breaks (mDrop t_X6_breaks 148) [some (mr 7 20), none, none] [] g = mAns (mEv X call 0 t_X6_breaks) (mDrop t_X6_breaks 154) [some (mr 7 20), none, none] [] (call 158 [mr 7 20, mi 9] g) := (mEv_3 _ _ _ _).trans rfl
theorem e_X6_breaks_154 {X : mX} {call : Nat → List mV → mG → mR} {g : mG} {s0 : Int32} : mEv X call 0 t_X6_breaks (mDrop t_X6_breaks 154) [some (mr 7 20), none, none] [mi s0] g = mAns (mEv X call 0 t_X6_breaks) (mDrop t_X6_breaks 161) [some (mr 7 20), none, none] [mr 7 20, mi s0] (call 158 [mr 7 20, mi 7] g) := (mEv_4 _ _ _ _).trans rfl
theorem e_X6_breaks_161 {X : mX} {call : Nat → List mV → mG → mR} {g : mG} {s0 s2 : Int32} : mEv X call 0 t_X6_breaks (mDrop t_X6_breaks 161) [some (mr 7 20), none, none] [mi s2, mr 7 20, mi s0] g = mAns (mEv X call 0 t_X6_breaks) (mDrop t_X6_breaks 165) [some (mr 7 20), none, none] [mi s0] (call 202 [mr 7 20, mi s2, mi 1] g) := (mEv_2 _ _ _ _).trans rfl
theorem e_X6_breaks_165 {X : mX} {call : Nat → List mV → mG → mR} {g : mG} {s0 s1 : Int32} : mEv X call 0 t_X6_breaks (mDrop t_X6_breaks 165) [some (mr 7 20), none, none] [mi s1, mi s0] g = if s0 < s1 then mEv X call 0 t_X6_breaks (mDrop t_X6_breaks 173) [some (mr 7 20), none, none] [] g else mEv X call 0 t_X6_breaks (mDrop t_X6_breaks 168) [some (mr 7 20), none, none] [] g := (mEv_1 _ _ _ _).trans rfl
theorem e_X6_breaks_173 {X : mX} {call : Nat → List mV → mG → mR} {g : mG} : mEv X call 0 t_X6_breaks (mDrop t_X6_breaks 173) [some (mr 7 20), none, none] [] g = some (none, g) := (mEv_1 _ _ _ _).trans rfl
theorem e_X6_breaks_168 {X : mX} {call : Nat → List mV → mG → mR} {g : mG} : mEv X call 0 t_X6_breaks (mDrop t_X6_breaks 168) [some (mr 7 20), none, none] [] g = mAns (mEv X call 0 t_X6_breaks) (mDrop t_X6_breaks 173) [some (mr 7 20), none, none] [] (call 204 [mr 7 20, mi 3] g) := (mEv_3 _ _ _ _).trans rfl
theorem e_X6_breaks_174 {X : mX} {call : Nat → List mV → mG → mR} {g : mG} : mEv X call 0 t_X6_breaks (mDrop t_X6_breaks 174) [some (mr 7 20), none, none] [] g = mAns (mEv X call 0 t_X6_breaks) (mDrop t_X6_breaks 180) [some (mr 7 20), none, none] [] (call 158 [mr 7 20, mi 9] g) := (mEv_3 _ _ _ _).trans rfl
theorem e_X6_breaks_180 {X : mX} {call : Nat → List mV → mG → mR} {g : mG} {s0 : Int32} : mEv X call 0 t_X6_breaks (mDrop t_X6_breaks 180) [some (mr 7 20), none, none] [mi s0] g = mAns (mEv X call 0 t_X6_breaks) (mDrop t_X6_breaks 187) [some (mr 7 20), none, none] [mr 7 20, mi s0] (call 158 [mr 7 20, mi 7] g) := (mEv_4 _ _ _ _).trans rfl
theorem e_X6_breaks_187 {X : mX} {call : Nat → List mV → mG → mR} {g : mG} {s0 s2 : Int32} : mEv X call 0 t_X6_breaks (mDrop t_X6_breaks 187) [some (mr 7 20), none, none] [mi s2, mr 7 20, mi s0] g = mAns (mEv X call 0 t_X6_breaks) (mDrop t_X6_breaks 191) [some (mr 7 20), none, none] [mi s0] (call 202 [mr 7 20, mi s2, mi 3] g) := (mEv_2 _ _ _ _).trans rfl
theorem e_X6_breaks_191 {X : mX} {call : Nat → List mV → mG → mR} {g : mG} {s0 s1 : Int32} : mEv X call 0 t_X6_breaks (mDrop t_X6_breaks 191) [some (mr 7 20), none, none] [mi s1, mi s0] g = if s0 < s1 then mEv X call 0 t_X6_breaks (mDrop t_X6_breaks 212) [some (mr 7 20), none, none] [] g else mEv X call 0 t_X6_breaks (mDrop t_X6_breaks 194) [some (mr 7 20), none, none] [] g := (mEv_1 _ _ _ _).trans rfl
theorem e_X6_breaks_212 {X : mX} {call : Nat → List mV → mG → mR} {g : mG} : mEv X call 0 t_X6_breaks (mDrop t_X6_breaks 212) [some (mr 7 20), none, none] [] g = some (none, g) := (mEv_1 _ _ _ _).trans rfl
theorem e_X6_breaks_194 {X : mX} {call : Nat → List mV → mG → mR} {g : mG} : mEv X call 0 t_X6_breaks (mDrop t_X6_breaks 194) [some (mr 7 20), none, none] [] g = mAns (mEv X call 0 t_X6_breaks) (mDrop t_X6_breaks 200) [some (mr 7 20), none, none] [] (call 158 [mr 7 20, mi 10] g) := (mEv_3 _ _ _ _).trans rfl
theorem e_X6_breaks_200 {X : mX} {call : Nat → List mV → mG → mR} {g : mG} {s0 : Int32} : mEv X call 0 t_X6_breaks (mDrop t_X6_breaks 200) [some (mr 7 20), none, none] [mi s0] g = mAns (mEv X call 0 t_X6_breaks) (mDrop t_X6_breaks 206) [some (mr 7 20), none, none] [mi s0] (call 158 [mr 7 20, mi 7] g) := (mEv_3 _ _ _ _).trans rfl
theorem e_X6_breaks_206 {X : mX} {call : Nat → List mV → mG → mR} {g : mG} {s0 s1 : Int32} : mEv X call 0 t_X6_breaks (mDrop t_X6_breaks 206) [some (mr 7 20), none, none] [mi s1, mi s0] g = mAns (mEv X call 0 t_X6_breaks) (mDrop t_X6_breaks 209) [some (mr 7 20), none, none] [] (call 156 [mi s0, mi s1] g) := (mEv_1 _ _ _ _).trans rfl
theorem e_X6_breaks_209 {X : mX} {call : Nat → List mV → mG → mR} {g : mG} {s0 : Int32} : mEv X call 0 t_X6_breaks (mDrop t_X6_breaks 209) [some (mr 7 20), none, none] [mi s0] g = if s0 = 0 then mEv X call 0 t_X6_breaks (mDrop t_X6_breaks 213) [some (mr 7 20), none, none] [] g else mEv X call 0 t_X6_breaks (mDrop t_X6_breaks 212) [some (mr 7 20), none, none] [] g := (mEv_1 _ _ _ _).trans rfl
theorem e_X6_breaks_213 {X : mX} {call : Nat → List mV → mG → mR} {g : mG} : mEv X call 0 t_X6_breaks (mDrop t_X6_breaks 213) [some (mr 7 20), none, none] [] g = mAns (mEv X call 0 t_X6_breaks) (mDrop t_X6_breaks 217) [some (mr 7 20), none, none] [] (call 206 [mr 7 20] g) := (mEv_2 _ _ _ _).trans rfl
theorem e_X6_breaks_217 {X : mX} {call : Nat → List mV → mG → mR} {g : mG} : mEv X call 0 t_X6_breaks (mDrop t_X6_breaks 217) [some (mr 7 20), none, none] [] g = mAns (mEv X call 0 t_X6_breaks) (mDrop t_X6_breaks 222) [some (mr 7 20), none, none] [] (call 181 [mr 7 20, mi 0] g) := (mEv_3 _ _ _ _).trans rfl
theorem e_X6_breaks_222 {X : mX} {call : Nat → List mV → mG → mR} {g : mG} {s0 : Int32} : mEv X call 0 t_X6_breaks (mDrop t_X6_breaks 222) [some (mr 7 20), none, none] [mi s0] g = if s0 = 0 then mEv X call 0 t_X6_breaks (mDrop t_X6_breaks 225) [some (mr 7 20), none, none] [] g else mEv X call 0 t_X6_breaks (mDrop t_X6_breaks 238) [some (mr 7 20), none, none] [] g := (mEv_1 _ _ _ _).trans rfl
theorem e_X6_breaks_225 {X : mX} {call : Nat → List mV → mG → mR} {g : mG} : mEv X call 0 t_X6_breaks (mDrop t_X6_breaks 225) [some (mr 7 20), none, none] [] g = mAns (mEv X call 0 t_X6_breaks) (mDrop t_X6_breaks 230) [some (mr 7 20), none, none] [] (call 181 [mr 7 20, mi 1] g) := (mEv_3 _ _ _ _).trans rfl
theorem e_X6_breaks_230 {X : mX} {call : Nat → List mV → mG → mR} {g : mG} {s0 : Int32} : mEv X call 0 t_X6_breaks (mDrop t_X6_breaks 230) [some (mr 7 20), none, none] [mi s0] g = if s0 = 0 then mEv X call 0 t_X6_breaks (mDrop t_X6_breaks 233) [some (mr 7 20), none, none] [] g else mEv X call 0 t_X6_breaks (mDrop t_X6_breaks 238) [some (mr 7 20), none, none] [] g := (mEv_1 _ _ _ _).trans rfl
theorem e_X6_breaks_233 {X : mX} {call : Nat → List mV → mG → mR} {g : mG} : mEv X call 0 t_X6_breaks (mDrop t_X6_breaks 233) [some (mr 7 20), none, none] [] g = mAns (mEv X call 0 t_X6_breaks) (mDrop t_X6_breaks 237) [some (mr 7 20), none, none] [] (call 174 [mr 7 20] g) := (mEv_2 _ _ _ _).trans rfl
theorem e_X6_breaks_237 {X : mX} {call : Nat → List mV → mG → mR} {g : mG} : mEv X call 0 t_X6_breaks (mDrop t_X6_breaks 237) [some (mr 7 20), none, none] [] g = some (none, g) := (mEv_1 _ _ _ _).trans rfl
theorem e_X6_breaks_238 {X : mX} {call : Nat → List mV → mG → mR} {g : mG} : mEv X call 0 t_X6_breaks (mDrop t_X6_breaks 238) [some (mr 7 20), none, none] [] g = mAns (mEv X call 0 t_X6_breaks) (mDrop t_X6_breaks 245) [some (mr 7 20), none, none] [mr 7 20, mr 7 20] (call 181 [mr 7 20, mi 0] g) := (mEv_5 _ _ _ _).trans rfl
theorem e_X6_breaks_245 {X : mX} {call : Nat → List mV → mG → mR} {g : mG} {s2 : Int32} : mEv X call 0 t_X6_breaks (mDrop t_X6_breaks 245) [some (mr 7 20), none, none] [mi s2, mr 7 20, mr 7 20] g = if s2 = 0 then mEv X call 0 t_X6_breaks (mDrop t_X6_breaks 252) [some (mr 7 20), none, none] [mr 7 20, mr 7 20] g else mEv X call 0 t_X6_breaks (mDrop t_X6_breaks 248) [some (mr 7 20), none, none] [mr 7 20, mr 7 20] g := (mEv_1 _ _ _ _).trans rfl
theorem e_X6_breaks_252 {X : mX} {call : Nat → List mV → mG → mR} {g : mG} : mEv X call 0 t_X6_breaks (mDrop t_X6_breaks 252) [some (mr 7 20), none, none] [mr 7 20, mr 7 20] g = mEv X call 0 t_X6_breaks (mDrop t_X6_breaks 253) [some (mr 7 20), none, none] [mi 1, mr 7 20, mr 7 20] g := (mEv_1 _ _ _ _).trans rfl
theorem e_X6_breaks_253 {X : mX} {call : Nat → List mV → mG → mR} {g : mG} {s2 : Int32} : mEv X call 0 t_X6_breaks (mDrop t_X6_breaks 253) [some (mr 7 20), none, none] [mi s2, mr 7 20, mr 7 20] g = mAns (mEv X call 0 t_X6_breaks) (mDrop t_X6_breaks 257) [some (mr 7 20), none, none] [mr 7 20] (call 163 [mr 7 20, mi s2, mi 0] g) := (mEv_2 _ _ _ _).trans rfl
theorem e_X6_breaks_257 {X : mX} {call : Nat → List mV → mG → mR} {g : mG} {s1 : Int32} : mEv X call 0 t_X6_breaks (mDrop t_X6_breaks 257) [some (mr 7 20), none, none] [mi s1, mr 7 20] g = mAns (mEv X call 0 t_X6_breaks) (mDrop t_X6_breaks 261) [some (mr 7 20), none, none] [] (call 165 [mr 7 20, mi s1, mi 1] g) := (mEv_2 _ _ _ _).trans rfl
theorem e_X6_breaks_261 {X : mX} {call : Nat → List mV → mG → mR} {g : mG} {s0 : Int32} : mEv X call 0 t_X6_breaks (mDrop t_X6_breaks 261) [some (mr 7 20), none, none] [mi s0] g = mEv X call 0 t_X6_breaks (mDrop t_X6_breaks 264) [some (mr 7 20), some (mi s0), some (mi 0)] [] g := (mEv_3 _ _ _ _).trans rfl
theorem e_X6_breaks_264 {X : mX} {call : Nat → List mV → mG → mR} {g : mG} {x1 x2 : Int32} : mEv X call 0 t_X6_breaks (mDrop t_X6_breaks 264) [some (mr 7 20), some (mi x1), some (mi x2)] [] g = if 2 ≤ x2 then mEv X call 0 t_X6_breaks (mDrop t_X6_breaks 299) [some (mr 7 20), some (mi x1), some (mi x2)] [] g else mEv X call 0 t_X6_breaks (mDrop t_X6_breaks 269) [some (mr 7 20), some (mi x1), some (mi x2)] [] g := (mEv_3 _ _ _ _).trans rfl
theorem e_X6_breaks_299 {X : mX} {call : Nat → List mV → mG → mR} {g : mG} {x1 x2 : Int32} : mEv X call 0 t_X6_breaks (mDrop t_X6_breaks 299) [some (mr 7 20), some (mi x1), some (mi x2)] [] g = some (none, g) := (mEv_1 _ _ _ _).trans rfl
theorem e_X6_breaks_269 {X : mX} {call : Nat → List mV → mG → mR} {g : mG} {x1 x2 : Int32} : mEv X call 0 t_X6_breaks (mDrop t_X6_breaks 269) [some (mr 7 20), some (mi x1), some (mi x2)] [] g = mAns (mEv X call 0 t_X6_breaks) (mDrop t_X6_breaks 275) [some (mr 7 20), some (mi x1), some (mi x2)] [] (call 163 [mr 7 20, mi x2, mi 0] g) := (mEv_4 _ _ _ _).trans rfl
theorem e_X6_breaks_275 {X : mX} {call : Nat → List mV → mG → mR} {g : mG} {x1 x2 s0 : Int32} : mEv X call 0 t_X6_breaks (mDrop t_X6_breaks 275) [some (mr 7 20), some (mi x1), some (mi x2)] [mi s0] g = if s0 = (-1) then mEv X call 0 t_X6_breaks (mDrop t_X6_breaks 279) [some (mr 7 20), some (mi x1), some (mi x2)] [] g else mEv X call 0 t_X6_breaks (mDrop t_X6_breaks 293) [some (mr 7 20), some (mi x1), some (mi x2)] [] g := (mEv_2 _ _ _ _).trans rfl
theorem e_X6_breaks_279 {X : mX} {call : Nat → List mV → mG → mR} {g : mG} {x1 x2 : Int32} : mEv X call 0 t_X6_breaks (mDrop t_X6_breaks 279) [some (mr 7 20), some (mi x1), some (mi x2)] [] g = mAns (mEv X call 0 t_X6_breaks) (mDrop t_X6_breaks 290) [some (mr 7 20), some (mi x1), some (mi x2)] [mi 3, mi x2, mr 7 20] (call 173 [mr 7 20, mi x2, mi x1, mi (-1), mi 0] g) := (mEv_9 _ _ _ _).trans rfl
theorem e_X6_breaks_290 {X : mX} {call : Nat → List mV → mG → mR} {g : mG} {x1 x2 s1 s2 s3 : Int32} : mEv X call 0 t_X6_breaks (mDrop t_X6_breaks 290) [some (mr 7 20), some (mi x1), some (mi x2)] [mi s3, mi s2, mi s1, mr 7 20] g = mAns (mEv X call 0 t_X6_breaks) (mDrop t_X6_breaks 293) [some (mr 7 20), some (mi x1), some (mi x2)] [] (call 164 [mr 7 20, mi s1, mi s2, mi s3] g) := (mEv_1 _ _ _ _).trans rfl
theorem e_X6_breaks_293 {X : mX} {call : Nat → List mV → mG → mR} {g : mG} {x1 x2 : Int32} : mEv X call 0 t_X6_breaks (mDrop t_X6_breaks 293) [some (mr 7 20), some (mi x1), some (mi x2)] [] g = mEv X call 0 t_X6_breaks (mDrop t_X6_breaks 264) [some (mr 7 20), some (mi x1), some (mi (x2 + 1))] [] g := (mEv_2 _ _ _ _).trans rfl
noncomputable def J_X6_breaks_293 (c : mC) (x1 : Int32) (x2 : Int32) : ((Int32 × mC) ⊕ (Option (mC))) := (.inl ((x2 + 1), c))
theorem rj_X6_breaks_293 (d : Nat) {X : mX} {g : mG} {x1 x2 : Int32} {c : mC} : mEv X (mCall mD X (d + 7)) 0 t_X6_breaks (mDrop t_X6_breaks 293) [some (mr 7 20), some (mi x1), some (mi x2)] [] (mU g 7 c) = (wB (fun s : (Int32 × mC) => match s with | (x2, c) => mEv X (mCall mD X (d + 7)) 0 t_X6_breaks (mDrop t_X6_breaks 264) [some (mr 7 20), some (mi x1), some (mi x2)] [] (mU g 7 c)) (wO (wV g 7))) (J_X6_breaks_293 c x1 x2) := by
  refine Eq.trans (e_X6_breaks_293) ?_
  try simp only [mU_same, mU_mU]
  exact mw_inl rfl
noncomputable def B_X6_breaks_264 (x1 : Int32) : (Int32 × mC) → (Int32 × mC) ⊕ (Option (mC)) := fun s => match s with | (x2, c) => (if 2 ≤ x2 then (.inr (some c)) else (mBo (α := Int32) (.inr none) (P_X6_ofRing c x2 0) (fun v1 => (if v1 = (-1) then (mBo (α := Int32) (.inr none) (P_X6_firstOf c x2 x1 (-1) 0) (fun v2 => (mBo (α := mC) (.inr none) (P_X6_putsRing c x2 3 v2) (fun c3 => (J_X6_breaks_293 c3 x1 x2))))) else (J_X6_breaks_293 c x1 x2)))))
set_option maxRecDepth 100000 in
theorem tm_X6_breaks_264 {x1 : Int32} : mTm (B_X6_breaks_264 x1) := by
  refine ⟨fun s => match s with | (x2, c) => mMx x2, fun s s2 h => ?_⟩
  obtain ⟨x2, c⟩ := s
  simp only [B_X6_breaks_264, J_X6_breaks_293, mBd, mBo] at h
  (repeat' split at h) <;> first | (have h2 := Sum.inl.inj h; subst h2; dsimp only; first | exact mtm_max (by assumption) | exact mtm_lt (by assumption)) | (cases h; done)
theorem rl_X6_breaks_264 (d : Nat) {X : mX} {g : mG} {x1 x2 : Int32} {c : mC} : mEv X (mCall mD X (d + 7)) 0 t_X6_breaks (mDrop t_X6_breaks 264) [some (mr 7 20), some (mi x1), some (mi x2)] [] (mU g 7 c) = (wO (wV g 7)) (mWh none (B_X6_breaks_264 x1) (x2, c)) := by
  refine mWh_ev (B := (B_X6_breaks_264 x1)) (ev := fun s : (Int32 × mC) => match s with | (x2, c) => mEv X (mCall mD X (d + 7)) 0 t_X6_breaks (mDrop t_X6_breaks 264) [some (mr 7 20), some (mi x1), some (mi x2)] [] (mU g 7 c)) (w := (wO (wV g 7))) (tm_X6_breaks_264) ?_ (x2, c)
  rintro ⟨x2, c⟩
  show mEv X (mCall mD X (d + 7)) 0 t_X6_breaks (mDrop t_X6_breaks 264) [some (mr 7 20), some (mi x1), some (mi x2)] [] (mU g 7 c) = wB (fun s : (Int32 × mC) => match s with | (x2, c) => mEv X (mCall mD X (d + 7)) 0 t_X6_breaks (mDrop t_X6_breaks 264) [some (mr 7 20), some (mi x1), some (mi x2)] [] (mU g 7 c)) (wO (wV g 7)) (B_X6_breaks_264 x1 (x2, c))
  refine Eq.trans (e_X6_breaks_264) ?_
  try simp only [mU_same, mU_mU]
  refine mw_ite (fun h5 => ?_) (fun h5 => ?_)
  · refine mw_inr ?_
    refine Eq.trans (e_X6_breaks_299) ?_
    try simp only [mU_same, mU_mU]
    all_goals rfl
  · refine Eq.trans (e_X6_breaks_269) ?_
    try simp only [mU_same, mU_mU]
    refine mw_oI ?_ (rr_X6_ofRing (d + 5)) (fun v1 => ?_)
    · rfl
    refine Eq.trans (e_X6_breaks_275) ?_
    try simp only [mU_same, mU_mU]
    refine mw_ite (fun h4 => ?_) (fun h4 => ?_)
    · refine Eq.trans (e_X6_breaks_279) ?_
      try simp only [mU_same, mU_mU]
      refine mw_oI ?_ (rr_X6_firstOf (d + 1)) (fun v2 => ?_)
      · rfl
      refine Eq.trans (e_X6_breaks_290) ?_
      try simp only [mU_same, mU_mU]
      refine mw_oV ?_ (rr_X6_putsRing (d + 5)) (fun c3 => ?_)
      · rfl
      exact rj_X6_breaks_293 d
    · exact rj_X6_breaks_293 d
noncomputable def J_X6_breaks_253 (c : mC) (s2 : Int32) : (Option (mC)) := (mBo (α := Int32) none (P_X6_ofRing c s2 0) (fun v1 => (mBo (α := Int32) none (P_X6_ofPhase c v1 1) (fun v2 => (mWh none (B_X6_breaks_264 v2) (0, c))))))
theorem rj_X6_breaks_253 (d : Nat) {X : mX} {g : mG} {s2 : Int32} {c : mC} : mEv X (mCall mD X (d + 7)) 0 t_X6_breaks (mDrop t_X6_breaks 253) [some (mr 7 20), none, none] [mi s2, mr 7 20, mr 7 20] (mU g 7 c) = (wO (wV g 7)) (J_X6_breaks_253 c s2) := by
  refine Eq.trans (e_X6_breaks_253) ?_
  try simp only [mU_same, mU_mU]
  refine mw_oI ?_ (rr_X6_ofRing (d + 5)) (fun v1 => ?_)
  · rfl
  refine Eq.trans (e_X6_breaks_257) ?_
  try simp only [mU_same, mU_mU]
  refine mw_oI ?_ (rr_X6_ofPhase (d + 5)) (fun v2 => ?_)
  · rfl
  refine Eq.trans (e_X6_breaks_261) ?_
  try simp only [mU_same, mU_mU]
  exact rl_X6_breaks_264 d
theorem e_X6_breaks_248 {X : mX} {call : Nat → List mV → mG → mR} {g : mG} : mEv X call 0 t_X6_breaks (mDrop t_X6_breaks 248) [some (mr 7 20), none, none] [mr 7 20, mr 7 20] g = mEv X call 0 t_X6_breaks (mDrop t_X6_breaks 253) [some (mr 7 20), none, none] [mi 0, mr 7 20, mr 7 20] g := (mEv_2 _ _ _ _).trans rfl
noncomputable def J_X6_breaks_238 (c : mC) : (Option (mC)) := (mBo (α := Int32) none (P_X6_isGreen c 0) (fun v1 => (if v1 = 0 then (J_X6_breaks_253 c 1) else (J_X6_breaks_253 c 0))))
theorem rj_X6_breaks_238 (d : Nat) {X : mX} {g : mG} {c : mC} : mEv X (mCall mD X (d + 7)) 0 t_X6_breaks (mDrop t_X6_breaks 238) [some (mr 7 20), none, none] [] (mU g 7 c) = (wO (wV g 7)) (J_X6_breaks_238 c) := by
  refine Eq.trans (e_X6_breaks_238) ?_
  try simp only [mU_same, mU_mU]
  refine mw_oZ ?_ (rr_X6_isGreen (d + 4)) rfl (fun v1 hv1 => ?_)
  · rfl
  refine Eq.trans (e_X6_breaks_245) ?_
  try simp only [mU_same, mU_mU]
  refine mw_ite (fun h2 => ?_) (fun h2 => ?_)
  · refine Eq.trans (e_X6_breaks_252) ?_
    try simp only [mU_same, mU_mU]
    exact rj_X6_breaks_253 d
  · refine Eq.trans (e_X6_breaks_248) ?_
    try simp only [mU_same, mU_mU]
    exact rj_X6_breaks_253 d
theorem e_X6_breaks_120 {X : mX} {call : Nat → List mV → mG → mR} {g : mG} : mEv X call 0 t_X6_breaks (mDrop t_X6_breaks 120) [some (mr 7 20), none, none] [] g = mAns (mEv X call 0 t_X6_breaks) (mDrop t_X6_breaks 125) [some (mr 7 20), none, none] [] (call 208 [mr 7 20, mi 0] g) := (mEv_3 _ _ _ _).trans rfl
theorem e_X6_breaks_125 {X : mX} {call : Nat → List mV → mG → mR} {g : mG} : mEv X call 0 t_X6_breaks (mDrop t_X6_breaks 125) [some (mr 7 20), none, none] [] g = mAns (mEv X call 0 t_X6_breaks) (mDrop t_X6_breaks 130) [some (mr 7 20), none, none] [] (call 208 [mr 7 20, mi 1] g) := (mEv_3 _ _ _ _).trans rfl
theorem e_X6_breaks_130 {X : mX} {call : Nat → List mV → mG → mR} {g : mG} : mEv X call 0 t_X6_breaks (mDrop t_X6_breaks 130) [some (mr 7 20), none, none] [] g = some (none, g) := (mEv_1 _ _ _ _).trans rfl
noncomputable def J_X6_breaks_110 (c : mC) (s1 : Int32) : (Option (mC)) := (if (s1 : Int32) &&& 1 = s1 then (if (((mP c 20 5 s1) 20 5) &&& 1) = 0 then (mBo (α := mC) none (P_X6_adds (mP c 20 5 s1) 9 1) (fun c1 => (mBo (α := Int32) none (P_X6_of c1 8) (fun v2 => (if v2 = 2 then (mBo (α := Int32) none (P_X6_of c1 9) (fun v3 => (mBo (α := Int32) none (P_X6_of c1 7) (fun v4 => (mBo (α := Int32) none (P_X6_ofBreak c1 v4 1) (fun v5 => (if v3 < v5 then (some c1) else (mBo (α := mC) none (P_X6_isStage c1 3) (fun c6 => (some c6)))))))))) else (mBo (α := Int32) none (P_X6_of c1 9) (fun v8 => (mBo (α := Int32) none (P_X6_of c1 7) (fun v9 => (mBo (α := Int32) none (P_X6_ofBreak c1 v9 3) (fun v10 => (if v8 < v10 then (some c1) else (mBo (α := Int32) none (P_X6_of c1 10) (fun v11 => (mBo (α := Int32) none (P_X6_of c1 7) (fun v12 => (mBd (α := Int32) (P_X6_has v11 v12) (fun v13 => (if v13 = 0 then (mBo (α := mC) none (P_X6_breakEnds c1) (fun c14 => (mBo (α := Int32) none (P_X6_isGreen c14 0) (fun v15 => (if v15 = 0 then (mBo (α := Int32) none (P_X6_isGreen c14 1) (fun v16 => (if v16 = 0 then (mBo (α := mC) none (P_X6_starts c14) (fun c17 => (some c17))) else (J_X6_breaks_238 c14)))) else (J_X6_breaks_238 c14)))))) else (some c1)))))))))))))))))))) else (mBo (α := mC) none (P_X6_goesTo (mP c 20 5 s1) 0) (fun c23 => (mBo (α := mC) none (P_X6_goesTo c23 1) (fun c24 => (some c24)))))) else none)
theorem rj_X6_breaks_110 (d : Nat) {X : mX} {g : mG} {s1 : Int32} {c : mC} : mEv X (mCall mD X (d + 7)) 0 t_X6_breaks (mDrop t_X6_breaks 110) [some (mr 7 20), none, none] [mi s1, mr 7 20] (mU g 7 c) = (wO (wV g 7)) (J_X6_breaks_110 c s1) := by
  refine Eq.trans (e_X6_breaks_110) ?_
  try simp only [mU_same, mU_mU]
  refine mw_ite (fun _ => ?_) (fun _ => rfl)
  refine Eq.trans (e_X6_breaks_113) ?_
  try simp only [mU_same, mU_mU]
  refine mw_ite (fun h25 => ?_) (fun h25 => ?_)
  · refine Eq.trans (e_X6_breaks_131) ?_
    try simp only [mU_same, mU_mU]
    refine mw_oV ?_ (rr_X6_adds (d + 6)) (fun c1 => ?_)
    · rfl
    refine Eq.trans (e_X6_breaks_138) ?_
    try simp only [mU_same, mU_mU]
    refine mw_oI ?_ (rr_X6_of (d + 6)) (fun v2 => ?_)
    · rfl
    refine Eq.trans (e_X6_breaks_144) ?_
    try simp only [mU_same, mU_mU]
    refine mw_ite (fun h22 => ?_) (fun h22 => ?_)
    · refine Eq.trans (e_X6_breaks_148) ?_
      try simp only [mU_same, mU_mU]
      refine mw_oI ?_ (rr_X6_of (d + 6)) (fun v3 => ?_)
      · rfl
      refine Eq.trans (e_X6_breaks_154) ?_
      try simp only [mU_same, mU_mU]
      refine mw_oI ?_ (rr_X6_of (d + 6)) (fun v4 => ?_)
      · rfl
      refine Eq.trans (e_X6_breaks_161) ?_
      try simp only [mU_same, mU_mU]
      refine mw_oI ?_ (rr_X6_ofBreak (d + 5)) (fun v5 => ?_)
      · rfl
      refine Eq.trans (e_X6_breaks_165) ?_
      try simp only [mU_same, mU_mU]
      refine mw_ite (fun h7 => ?_) (fun h7 => ?_)
      · refine Eq.trans (e_X6_breaks_173) ?_
        try simp only [mU_same, mU_mU]
        all_goals rfl
      · refine Eq.trans (e_X6_breaks_168) ?_
        try simp only [mU_same, mU_mU]
        refine mw_oV ?_ (rr_X6_isStage (d + 5)) (fun c6 => ?_)
        · rfl
        refine Eq.trans (e_X6_breaks_173) ?_
        try simp only [mU_same, mU_mU]
        all_goals rfl
    · refine Eq.trans (e_X6_breaks_174) ?_
      try simp only [mU_same, mU_mU]
      refine mw_oI ?_ (rr_X6_of (d + 6)) (fun v8 => ?_)
      · rfl
      refine Eq.trans (e_X6_breaks_180) ?_
      try simp only [mU_same, mU_mU]
      refine mw_oI ?_ (rr_X6_of (d + 6)) (fun v9 => ?_)
      · rfl
      refine Eq.trans (e_X6_breaks_187) ?_
      try simp only [mU_same, mU_mU]
      refine mw_oI ?_ (rr_X6_ofBreak (d + 5)) (fun v10 => ?_)
      · rfl
      refine Eq.trans (e_X6_breaks_191) ?_
      try simp only [mU_same, mU_mU]
      refine mw_ite (fun h21 => ?_) (fun h21 => ?_)
      · refine Eq.trans (e_X6_breaks_212) ?_
        try simp only [mU_same, mU_mU]
        all_goals rfl
      · refine Eq.trans (e_X6_breaks_194) ?_
        try simp only [mU_same, mU_mU]
        refine mw_oI ?_ (rr_X6_of (d + 6)) (fun v11 => ?_)
        · rfl
        refine Eq.trans (e_X6_breaks_200) ?_
        try simp only [mU_same, mU_mU]
        refine mw_oI ?_ (rr_X6_of (d + 6)) (fun v12 => ?_)
        · rfl
        refine Eq.trans (e_X6_breaks_206) ?_
        try simp only [mU_same, mU_mU]
        refine mw_cZ (rr_X6_has (d + 6)) rfl (fun v13 hv13 => ?_)
        refine Eq.trans (e_X6_breaks_209) ?_
        try simp only [mU_same, mU_mU]
        refine mw_ite (fun h20 => ?_) (fun h20 => ?_)
        · refine Eq.trans (e_X6_breaks_213) ?_
          try simp only [mU_same, mU_mU]
          refine mw_oV ?_ (rr_X6_breakEnds (d + 4)) (fun c14 => ?_)
          · rfl
          refine Eq.trans (e_X6_breaks_217) ?_
          try simp only [mU_same, mU_mU]
          refine mw_oZ ?_ (rr_X6_isGreen (d + 4)) rfl (fun v15 hv15 => ?_)
          · rfl
          refine Eq.trans (e_X6_breaks_222) ?_
          try simp only [mU_same, mU_mU]
          refine mw_ite (fun h19 => ?_) (fun h19 => ?_)
          · refine Eq.trans (e_X6_breaks_225) ?_
            try simp only [mU_same, mU_mU]
            refine mw_oZ ?_ (rr_X6_isGreen (d + 4)) rfl (fun v16 hv16 => ?_)
            · rfl
            refine Eq.trans (e_X6_breaks_230) ?_
            try simp only [mU_same, mU_mU]
            refine mw_ite (fun h18 => ?_) (fun h18 => ?_)
            · refine Eq.trans (e_X6_breaks_233) ?_
              try simp only [mU_same, mU_mU]
              refine mw_oV ?_ (rr_X6_starts d) (fun c17 => ?_)
              · rfl
              refine Eq.trans (e_X6_breaks_237) ?_
              try simp only [mU_same, mU_mU]
              all_goals rfl
            · exact rj_X6_breaks_238 d
          · exact rj_X6_breaks_238 d
        · refine Eq.trans (e_X6_breaks_212) ?_
          try simp only [mU_same, mU_mU]
          all_goals rfl
  · refine Eq.trans (e_X6_breaks_120) ?_
    try simp only [mU_same, mU_mU]
    refine mw_oV ?_ (rr_X6_goesTo (d + 2)) (fun c23 => ?_)
    · rfl
    refine Eq.trans (e_X6_breaks_125) ?_
    try simp only [mU_same, mU_mU]
    refine mw_oV ?_ (rr_X6_goesTo (d + 2)) (fun c24 => ?_)
    · rfl
    refine Eq.trans (e_X6_breaks_130) ?_
    try simp only [mU_same, mU_mU]
    all_goals rfl
noncomputable def J_X6_breaks_105 (c : mC) : (Option (mC)) := (J_X6_breaks_110 c 1)
theorem rj_X6_breaks_105 (d : Nat) {X : mX} {g : mG} {c : mC} : mEv X (mCall mD X (d + 7)) 0 t_X6_breaks (mDrop t_X6_breaks 105) [some (mr 7 20), none, none] [mr 7 20] (mU g 7 c) = (wO (wV g 7)) (J_X6_breaks_105 c) := by
  refine Eq.trans (e_X6_breaks_105) ?_
  try simp only [mU_same, mU_mU]
  exact rj_X6_breaks_110 d
theorem e_X6_breaks_95 {X : mX} {call : Nat → List mV → mG → mR} {g : mG} : mEv X call 0 t_X6_breaks (mDrop t_X6_breaks 95) [some (mr 7 20), none, none] [mr 7 20] g = mAns (mEv X call 0 t_X6_breaks) (mDrop t_X6_breaks 101) [some (mr 7 20), none, none] [mr 7 20] (call 158 [mr 7 20, mi 8] g) := (mEv_3 _ _ _ _).trans rfl
theorem e_X6_breaks_101 {X : mX} {call : Nat → List mV → mG → mR} {g : mG} {s1 : Int32} : mEv X call 0 t_X6_breaks (mDrop t_X6_breaks 101) [some (mr 7 20), none, none] [mi s1, mr 7 20] g = if s1 = 3 then mEv X call 0 t_X6_breaks (mDrop t_X6_breaks 105) [some (mr 7 20), none, none] [mr 7 20] g else mEv X call 0 t_X6_breaks (mDrop t_X6_breaks 109) [some (mr 7 20), none, none] [mr 7 20] g := (mEv_2 _ _ _ _).trans rfl
theorem e_X6_breaks_109 {X : mX} {call : Nat → List mV → mG → mR} {g : mG} : mEv X call 0 t_X6_breaks (mDrop t_X6_breaks 109) [some (mr 7 20), none, none] [mr 7 20] g = mEv X call 0 t_X6_breaks (mDrop t_X6_breaks 110) [some (mr 7 20), none, none] [mi 0, mr 7 20] g := (mEv_1 _ _ _ _).trans rfl
noncomputable def J_X6_breaks_73 (c : mC) : (Option (mC)) := (mBo (α := Int32) none (P_X6_of c 7) (fun v1 => (if v1 = (-1) then (some c) else (mBo (α := Int32) none (P_X6_of c 8) (fun v2 => (if v2 = 1 then (J_X6_breaks_105 c) else (mBo (α := Int32) none (P_X6_of c 8) (fun v3 => (if v3 = 3 then (J_X6_breaks_105 c) else (J_X6_breaks_110 c 0))))))))))
theorem rj_X6_breaks_73 (d : Nat) {X : mX} {g : mG} {c : mC} : mEv X (mCall mD X (d + 7)) 0 t_X6_breaks (mDrop t_X6_breaks 73) [some (mr 7 20), none, none] [] (mU g 7 c) = (wO (wV g 7)) (J_X6_breaks_73 c) := by
  refine Eq.trans (e_X6_breaks_73) ?_
  try simp only [mU_same, mU_mU]
  refine mw_oI ?_ (rr_X6_of (d + 6)) (fun v1 => ?_)
  · rfl
  refine Eq.trans (e_X6_breaks_79) ?_
  try simp only [mU_same, mU_mU]
  refine mw_ite (fun h6 => ?_) (fun h6 => ?_)
  · refine Eq.trans (e_X6_breaks_83) ?_
    try simp only [mU_same, mU_mU]
    all_goals rfl
  · refine Eq.trans (e_X6_breaks_84) ?_
    try simp only [mU_same, mU_mU]
    refine mw_oI ?_ (rr_X6_of (d + 6)) (fun v2 => ?_)
    · rfl
    refine Eq.trans (e_X6_breaks_91) ?_
    try simp only [mU_same, mU_mU]
    refine mw_ite (fun h5 => ?_) (fun h5 => ?_)
    · exact rj_X6_breaks_105 d
    · refine Eq.trans (e_X6_breaks_95) ?_
      try simp only [mU_same, mU_mU]
      refine mw_oI ?_ (rr_X6_of (d + 6)) (fun v3 => ?_)
      · rfl
      refine Eq.trans (e_X6_breaks_101) ?_
      try simp only [mU_same, mU_mU]
      refine mw_ite (fun h4 => ?_) (fun h4 => ?_)
      · exact rj_X6_breaks_105 d
      · refine Eq.trans (e_X6_breaks_109) ?_
        try simp only [mU_same, mU_mU]
        exact rj_X6_breaks_110 d
theorem e_X6_breaks_51 {X : mX} {call : Nat → List mV → mG → mR} {g : mG} : mEv X call 0 t_X6_breaks (mDrop t_X6_breaks 51) [some (mr 7 20), none, none] [] g = mAns (mEv X call 0 t_X6_breaks) (mDrop t_X6_breaks 58) [some (mr 7 20), none, none] [mr 7 20] (call 158 [mr 7 20, mi 10] g) := (mEv_4 _ _ _ _).trans rfl
theorem e_X6_breaks_58 {X : mX} {call : Nat → List mV → mG → mR} {g : mG} {s1 : Int32} : mEv X call 0 t_X6_breaks (mDrop t_X6_breaks 58) [some (mr 7 20), none, none] [mi s1, mr 7 20] g = mAns (mEv X call 0 t_X6_breaks) (mDrop t_X6_breaks 62) [some (mr 7 20), none, none] [mr 7 20] (call 156 [mi s1, mi 0] g) := (mEv_2 _ _ _ _).trans rfl
theorem e_X6_breaks_62 {X : mX} {call : Nat → List mV → mG → mR} {g : mG} {s1 : Int32} : mEv X call 0 t_X6_breaks (mDrop t_X6_breaks 62) [some (mr 7 20), none, none] [mi s1, mr 7 20] g = if s1 = 0 then mEv X call 0 t_X6_breaks (mDrop t_X6_breaks 69) [some (mr 7 20), none, none] [mr 7 20] g else mEv X call 0 t_X6_breaks (mDrop t_X6_breaks 65) [some (mr 7 20), none, none] [mr 7 20] g := (mEv_1 _ _ _ _).trans rfl
theorem e_X6_breaks_69 {X : mX} {call : Nat → List mV → mG → mR} {g : mG} : mEv X call 0 t_X6_breaks (mDrop t_X6_breaks 69) [some (mr 7 20), none, none] [mr 7 20] g = mEv X call 0 t_X6_breaks (mDrop t_X6_breaks 70) [some (mr 7 20), none, none] [mi 1, mr 7 20] g := (mEv_1 _ _ _ _).trans rfl
theorem e_X6_breaks_70 {X : mX} {call : Nat → List mV → mG → mR} {g : mG} {s1 : Int32} : mEv X call 0 t_X6_breaks (mDrop t_X6_breaks 70) [some (mr 7 20), none, none] [mi s1, mr 7 20] g = mAns (mEv X call 0 t_X6_breaks) (mDrop t_X6_breaks 73) [some (mr 7 20), none, none] [] (call 205 [mr 7 20, mi s1] g) := (mEv_1 _ _ _ _).trans rfl
noncomputable def J_X6_breaks_70 (c : mC) (s1 : Int32) : (Option (mC)) := (mBo (α := mC) none (P_X6_breakBegins c s1) (fun c1 => (J_X6_breaks_73 c1)))
theorem rj_X6_breaks_70 (d : Nat) {X : mX} {g : mG} {s1 : Int32} {c : mC} : mEv X (mCall mD X (d + 7)) 0 t_X6_breaks (mDrop t_X6_breaks 70) [some (mr 7 20), none, none] [mi s1, mr 7 20] (mU g 7 c) = (wO (wV g 7)) (J_X6_breaks_70 c s1) := by
  refine Eq.trans (e_X6_breaks_70) ?_
  try simp only [mU_same, mU_mU]
  refine mw_oV ?_ (rr_X6_breakBegins (d + 4)) (fun c1 => ?_)
  · rfl
  exact rj_X6_breaks_73 d
theorem e_X6_breaks_65 {X : mX} {call : Nat → List mV → mG → mR} {g : mG} : mEv X call 0 t_X6_breaks (mDrop t_X6_breaks 65) [some (mr 7 20), none, none] [mr 7 20] g = mEv X call 0 t_X6_breaks (mDrop t_X6_breaks 70) [some (mr 7 20), none, none] [mi 0, mr 7 20] g := (mEv_2 _ _ _ _).trans rfl
noncomputable def J_X6_breaks_32 (c : mC) : (Option (mC)) := (mBo (α := Int32) none (P_X6_of c 7) (fun v1 => (if v1 = (-1) then (mBo (α := Int32) none (P_X6_of c 10) (fun v2 => (if v2 = 0 then (J_X6_breaks_73 c) else (mBo (α := Int32) none (P_X6_of c 10) (fun v3 => (mBd (α := Int32) (P_X6_has v3 0) (fun v4 => (if v4 = 0 then (J_X6_breaks_70 c 1) else (J_X6_breaks_70 c 0))))))))) else (J_X6_breaks_73 c))))
theorem rj_X6_breaks_32 (d : Nat) {X : mX} {g : mG} {c : mC} : mEv X (mCall mD X (d + 7)) 0 t_X6_breaks (mDrop t_X6_breaks 32) [some (mr 7 20), none, none] [] (mU g 7 c) = (wO (wV g 7)) (J_X6_breaks_32 c) := by
  refine Eq.trans (e_X6_breaks_32) ?_
  try simp only [mU_same, mU_mU]
  refine mw_oI ?_ (rr_X6_of (d + 6)) (fun v1 => ?_)
  · rfl
  refine Eq.trans (e_X6_breaks_38) ?_
  try simp only [mU_same, mU_mU]
  refine mw_ite (fun h7 => ?_) (fun h7 => ?_)
  · refine Eq.trans (e_X6_breaks_42) ?_
    try simp only [mU_same, mU_mU]
    refine mw_oI ?_ (rr_X6_of (d + 6)) (fun v2 => ?_)
    · rfl
    refine Eq.trans (e_X6_breaks_48) ?_
    try simp only [mU_same, mU_mU]
    refine mw_ite (fun h6 => ?_) (fun h6 => ?_)
    · exact rj_X6_breaks_73 d
    · refine Eq.trans (e_X6_breaks_51) ?_
      try simp only [mU_same, mU_mU]
      refine mw_oI ?_ (rr_X6_of (d + 6)) (fun v3 => ?_)
      · rfl
      refine Eq.trans (e_X6_breaks_58) ?_
      try simp only [mU_same, mU_mU]
      refine mw_cZ (rr_X6_has (d + 6)) rfl (fun v4 hv4 => ?_)
      refine Eq.trans (e_X6_breaks_62) ?_
      try simp only [mU_same, mU_mU]
      refine mw_ite (fun h5 => ?_) (fun h5 => ?_)
      · refine Eq.trans (e_X6_breaks_69) ?_
        try simp only [mU_same, mU_mU]
        exact rj_X6_breaks_70 d
      · refine Eq.trans (e_X6_breaks_65) ?_
        try simp only [mU_same, mU_mU]
        exact rj_X6_breaks_70 d
  · exact rj_X6_breaks_73 d
theorem e_X6_breaks_28 {X : mX} {call : Nat → List mV → mG → mR} {g : mG} : mEv X call 0 t_X6_breaks (mDrop t_X6_breaks 28) [some (mr 7 20), none, none] [] g = mAns (mEv X call 0 t_X6_breaks) (mDrop t_X6_breaks 32) [some (mr 7 20), none, none] [] (call 206 [mr 7 20] g) := (mEv_2 _ _ _ _).trans rfl
noncomputable def P_X6_breaks (c : mC) : (Option (mC)) := (mBo (α := Int32) none (P_X6_of (mP c 20 5 0) 7) (fun v1 => (if v1 = 1 then (mBo (α := Int32) none (P_X6_of (mP c 20 5 0) 10) (fun v2 => (mBd (α := Int32) (P_X6_has v2 0) (fun v3 => (if v3 = 0 then (J_X6_breaks_32 (mP c 20 5 0)) else (mBo (α := mC) none (P_X6_breakEnds (mP c 20 5 0)) (fun c4 => (J_X6_breaks_32 c4)))))))) else (J_X6_breaks_32 (mP c 20 5 0)))))
theorem rr_X6_breaks (d : Nat) {X : mX} {g : mG} {c : mC} : mCall mD X (d + 8) 209 [mr 7 20] (mU g 7 c) = (wO (wV g 7)) (P_X6_breaks c) := by
  refine Eq.trans (mCall_eq (d := d + 7) rfl) ?_
  show mEv X (mCall mD X (d + 7)) 0 t_X6_breaks (mDrop t_X6_breaks 0) [some (mr 7 20), none, none] [] (mU g 7 c) = _
  refine Eq.trans (e_X6_breaks_0) ?_
  try simp only [mU_same, mU_mU]
  refine Eq.trans (if_pos (by decide)) ?_
  refine Eq.trans (e_X6_breaks_5) ?_
  try simp only [mU_same, mU_mU]
  refine mw_oI ?_ (rr_X6_of (d + 6)) (fun v1 => ?_)
  · rfl
  refine Eq.trans (e_X6_breaks_11) ?_
  try simp only [mU_same, mU_mU]
  refine mw_ite (fun h6 => ?_) (fun h6 => ?_)
  · refine Eq.trans (e_X6_breaks_15) ?_
    try simp only [mU_same, mU_mU]
    refine mw_oI ?_ (rr_X6_of (d + 6)) (fun v2 => ?_)
    · rfl
    refine Eq.trans (e_X6_breaks_21) ?_
    try simp only [mU_same, mU_mU]
    refine mw_cZ (rr_X6_has (d + 6)) rfl (fun v3 hv3 => ?_)
    refine Eq.trans (e_X6_breaks_25) ?_
    try simp only [mU_same, mU_mU]
    refine mw_ite (fun h5 => ?_) (fun h5 => ?_)
    · exact rj_X6_breaks_32 d
    · refine Eq.trans (e_X6_breaks_28) ?_
      try simp only [mU_same, mU_mU]
      refine mw_oV ?_ (rr_X6_breakEnds (d + 4)) (fun c4 => ?_)
      · rfl
      exact rj_X6_breaks_32 d
  · exact rj_X6_breaks_32 d
theorem rr_X6_breaks_at (d : Nat) {X : mX} {g : mG} : mCall mD X (d + 8) 209 [mr 7 20] g = wO (wV g 7) (P_X6_breaks (g 7)) := by
  have h := rr_X6_breaks (X := X) d (g := g) (c := g 7)
  rw [mU_self] at h
  exact h
theorem e_X6_staged_0 {X : mX} {call : Nat → List mV → mG → mR} {g : mG} : mEv X call 0 t_X6_staged (mDrop t_X6_staged 0) [some (mr 7 20), none, none] [] g = if ((g 7 20 5) &&& 1) = 0 then mEv X call 0 t_X6_staged (mDrop t_X6_staged 17) [some (mr 7 20), none, none] [] g else mEv X call 0 t_X6_staged (mDrop t_X6_staged 7) [some (mr 7 20), none, none] [] g := (mEv_3 _ _ _ _).trans rfl
theorem e_X6_staged_17 {X : mX} {call : Nat → List mV → mG → mR} {g : mG} : mEv X call 0 t_X6_staged (mDrop t_X6_staged 17) [some (mr 7 20), none, none] [] g = some (none, g) := (mEv_1 _ _ _ _).trans rfl
theorem e_X6_staged_7 {X : mX} {call : Nat → List mV → mG → mR} {g : mG} : mEv X call 0 t_X6_staged (mDrop t_X6_staged 7) [some (mr 7 20), none, none] [] g = mAns (mEv X call 0 t_X6_staged) (mDrop t_X6_staged 13) [some (mr 7 20), none, none] [] (call 158 [mr 7 20, mi 7] g) := (mEv_3 _ _ _ _).trans rfl
theorem e_X6_staged_13 {X : mX} {call : Nat → List mV → mG → mR} {g : mG} {s0 : Int32} : mEv X call 0 t_X6_staged (mDrop t_X6_staged 13) [some (mr 7 20), none, none] [mi s0] g = if s0 = (-1) then mEv X call 0 t_X6_staged (mDrop t_X6_staged 17) [some (mr 7 20), none, none] [] g else mEv X call 0 t_X6_staged (mDrop t_X6_staged 18) [some (mr 7 20), none, none] [] g := (mEv_2 _ _ _ _).trans rfl
theorem e_X6_staged_18 {X : mX} {call : Nat → List mV → mG → mR} {g : mG} : mEv X call 0 t_X6_staged (mDrop t_X6_staged 18) [some (mr 7 20), none, none] [] g = mEv X call 0 t_X6_staged (mDrop t_X6_staged 20) [some (mr 7 20), some (mi 0), none] [] g := (mEv_2 _ _ _ _).trans rfl
theorem hk_X6_staged_20 {X : mX} {call : Nat → List mV → mG → mR} {g : mG} {x1 : Int32} {k2 : Option mV} : mEv X call 0 t_X6_staged (mDrop t_X6_staged 20) [some (mr 7 20), some (mi x1), k2] [] g = mEv X call 0 t_X6_staged (mDrop t_X6_staged 20) [some (mr 7 20), some (mi x1), none] [] g := Eq.trans (mEv_1 _ _ _ _) (Eq.symm (Eq.trans (mEv_1 _ _ _ _) rfl))
theorem e_X6_staged_20 {X : mX} {call : Nat → List mV → mG → mR} {g : mG} {x1 : Int32} {u2 : Option mV} : mEv X call 0 t_X6_staged (mDrop t_X6_staged 20) [some (mr 7 20), some (mi x1), u2] [] g = if 2 ≤ x1 then mEv X call 0 t_X6_staged (mDrop t_X6_staged 74) [some (mr 7 20), some (mi x1), none] [] g else mEv X call 0 t_X6_staged (mDrop t_X6_staged 25) [some (mr 7 20), some (mi x1), none] [] g := (mEv_3 _ _ _ _).trans rfl
theorem e_X6_staged_74 {X : mX} {call : Nat → List mV → mG → mR} {g : mG} {x1 : Int32} {u2 : Option mV} : mEv X call 0 t_X6_staged (mDrop t_X6_staged 74) [some (mr 7 20), some (mi x1), u2] [] g = mAns (mEv X call 0 t_X6_staged) (mDrop t_X6_staged 81) [some (mr 7 20), some (mi x1), u2] [mr 7 20] (call 158 [mr 7 20, mi 8] g) := (mEv_4 _ _ _ _).trans rfl
theorem e_X6_staged_81 {X : mX} {call : Nat → List mV → mG → mR} {g : mG} {x1 s1 : Int32} {u2 : Option mV} : mEv X call 0 t_X6_staged (mDrop t_X6_staged 81) [some (mr 7 20), some (mi x1), u2] [mi s1, mr 7 20] g = mAns (mEv X call 0 t_X6_staged) (mDrop t_X6_staged 86) [some (mr 7 20), some (mi x1), u2] [] (call 204 [mr 7 20, mi (s1 + 1)] g) := (mEv_3 _ _ _ _).trans rfl
theorem e_X6_staged_86 {X : mX} {call : Nat → List mV → mG → mR} {g : mG} {x1 : Int32} {u2 : Option mV} : mEv X call 0 t_X6_staged (mDrop t_X6_staged 86) [some (mr 7 20), some (mi x1), u2] [] g = some (none, g) := (mEv_1 _ _ _ _).trans rfl
theorem e_X6_staged_25 {X : mX} {call : Nat → List mV → mG → mR} {g : mG} {x1 : Int32} {u2 : Option mV} : mEv X call 0 t_X6_staged (mDrop t_X6_staged 25) [some (mr 7 20), some (mi x1), u2] [] g = mAns (mEv X call 0 t_X6_staged) (mDrop t_X6_staged 30) [some (mr 7 20), some (mi x1), u2] [] (call 207 [mr 7 20, mi x1] g) := (mEv_3 _ _ _ _).trans rfl
theorem e_X6_staged_30 {X : mX} {call : Nat → List mV → mG → mR} {g : mG} {x1 s0 : Int32} {u2 : Option mV} : mEv X call 0 t_X6_staged (mDrop t_X6_staged 30) [some (mr 7 20), some (mi x1), u2] [mi s0] g = if s0 = (-1) then mEv X call 0 t_X6_staged (mDrop t_X6_staged 36) [some (mr 7 20), some (mi x1), some (mi s0)] [] g else mEv X call 0 t_X6_staged (mDrop t_X6_staged 49) [some (mr 7 20), some (mi x1), some (mi s0)] [] g := (mEv_4 _ _ _ _).trans rfl
theorem e_X6_staged_36 {X : mX} {call : Nat → List mV → mG → mR} {g : mG} {x1 x2 : Int32} : mEv X call 0 t_X6_staged (mDrop t_X6_staged 36) [some (mr 7 20), some (mi x1), some (mi x2)] [] g = mAns (mEv X call 0 t_X6_staged) (mDrop t_X6_staged 42) [some (mr 7 20), some (mi x1), some (mi x2)] [] (call 163 [mr 7 20, mi x1, mi 0] g) := (mEv_4 _ _ _ _).trans rfl
theorem e_X6_staged_42 {X : mX} {call : Nat → List mV → mG → mR} {g : mG} {x1 x2 s0 : Int32} : mEv X call 0 t_X6_staged (mDrop t_X6_staged 42) [some (mr 7 20), some (mi x1), some (mi x2)] [mi s0] g = if s0 = (-1) then mEv X call 0 t_X6_staged (mDrop t_X6_staged 68) [some (mr 7 20), some (mi x1), some (mi x2)] [] g else mEv X call 0 t_X6_staged (mDrop t_X6_staged 46) [some (mr 7 20), some (mi x1), some (mi x2)] [] g := (mEv_2 _ _ _ _).trans rfl
theorem e_X6_staged_68 {X : mX} {call : Nat → List mV → mG → mR} {g : mG} {x1 x2 : Int32} : mEv X call 0 t_X6_staged (mDrop t_X6_staged 68) [some (mr 7 20), some (mi x1), some (mi x2)] [] g = mEv X call 0 t_X6_staged (mDrop t_X6_staged 20) [some (mr 7 20), some (mi (x1 + 1)), some (mi x2)] [] g := (mEv_2 _ _ _ _).trans rfl
noncomputable def J_X6_staged_68 (c : mC) (x1 : Int32) : ((Int32) ⊕ (Option (mC))) := (.inl (x1 + 1))
theorem rj_X6_staged_68 (d : Nat) {X : mX} {g : mG} {x1 x2 : Int32} {c : mC} : mEv X (mCall mD X (d + 3)) 0 t_X6_staged (mDrop t_X6_staged 68) [some (mr 7 20), some (mi x1), some (mi x2)] [] (mU g 7 c) = (wB (fun x1 : (Int32) => mEv X (mCall mD X (d + 3)) 0 t_X6_staged (mDrop t_X6_staged 20) [some (mr 7 20), some (mi x1), none] [] (mU g 7 c)) (wO (wV g 7))) (J_X6_staged_68 c x1) := by
  refine Eq.trans (e_X6_staged_68) ?_
  try simp only [mU_same, mU_mU]
  exact mw_inl hk_X6_staged_20
theorem e_X6_staged_46 {X : mX} {call : Nat → List mV → mG → mR} {g : mG} {x1 x2 : Int32} : mEv X call 0 t_X6_staged (mDrop t_X6_staged 46) [some (mr 7 20), some (mi x1), some (mi x2)] [] g = mEv X call 0 t_X6_staged (mDrop t_X6_staged 67) [some (mr 7 20), some (mi x1), some (mi x2)] [] g := (mEv_1 _ _ _ _).trans rfl
theorem e_X6_staged_67 {X : mX} {call : Nat → List mV → mG → mR} {g : mG} {x1 x2 : Int32} : mEv X call 0 t_X6_staged (mDrop t_X6_staged 67) [some (mr 7 20), some (mi x1), some (mi x2)] [] g = some (none, g) := (mEv_1 _ _ _ _).trans rfl
theorem e_X6_staged_49 {X : mX} {call : Nat → List mV → mG → mR} {g : mG} {x1 x2 : Int32} : mEv X call 0 t_X6_staged (mDrop t_X6_staged 49) [some (mr 7 20), some (mi x1), some (mi x2)] [] g = mAns (mEv X call 0 t_X6_staged) (mDrop t_X6_staged 54) [some (mr 7 20), some (mi x1), some (mi x2)] [] (call 181 [mr 7 20, mi x1] g) := (mEv_3 _ _ _ _).trans rfl
theorem e_X6_staged_54 {X : mX} {call : Nat → List mV → mG → mR} {g : mG} {x1 x2 s0 : Int32} : mEv X call 0 t_X6_staged (mDrop t_X6_staged 54) [some (mr 7 20), some (mi x1), some (mi x2)] [mi s0] g = if s0 = 0 then mEv X call 0 t_X6_staged (mDrop t_X6_staged 67) [some (mr 7 20), some (mi x1), some (mi x2)] [] g else mEv X call 0 t_X6_staged (mDrop t_X6_staged 57) [some (mr 7 20), some (mi x1), some (mi x2)] [] g := (mEv_1 _ _ _ _).trans rfl
theorem e_X6_staged_57 {X : mX} {call : Nat → List mV → mG → mR} {g : mG} {x1 x2 : Int32} : mEv X call 0 t_X6_staged (mDrop t_X6_staged 57) [some (mr 7 20), some (mi x1), some (mi x2)] [] g = mAns (mEv X call 0 t_X6_staged) (mDrop t_X6_staged 63) [some (mr 7 20), some (mi x1), some (mi x2)] [] (call 163 [mr 7 20, mi x1, mi 0] g) := (mEv_4 _ _ _ _).trans rfl
theorem e_X6_staged_63 {X : mX} {call : Nat → List mV → mG → mR} {g : mG} {x1 x2 s0 : Int32} : mEv X call 0 t_X6_staged (mDrop t_X6_staged 63) [some (mr 7 20), some (mi x1), some (mi x2)] [mi s0] g = if s0 = x2 then mEv X call 0 t_X6_staged (mDrop t_X6_staged 68) [some (mr 7 20), some (mi x1), some (mi x2)] [] g else mEv X call 0 t_X6_staged (mDrop t_X6_staged 67) [some (mr 7 20), some (mi x1), some (mi x2)] [] g := (mEv_2 _ _ _ _).trans rfl
noncomputable def B_X6_staged_20 (c : mC) : (Int32) → (Int32) ⊕ (Option (mC)) := fun x1 => (if 2 ≤ x1 then (.inr (mBo (α := Int32) none (P_X6_of c 8) (fun v1 => (mBo (α := mC) none (P_X6_isStage c (v1 + 1)) (fun c2 => (some c2)))))) else (mBo (α := Int32) (.inr none) (P_X6_goal c x1) (fun v3 => (if v3 = (-1) then (mBo (α := Int32) (.inr none) (P_X6_ofRing c x1 0) (fun v4 => (if v4 = (-1) then (J_X6_staged_68 c x1) else (.inr (some c))))) else (mBo (α := Int32) (.inr none) (P_X6_isGreen c x1) (fun v6 => (if v6 = 0 then (.inr (some c)) else (mBo (α := Int32) (.inr none) (P_X6_ofRing c x1 0) (fun v7 => (if v7 = v3 then (J_X6_staged_68 c x1) else (.inr (some c))))))))))))
set_option maxRecDepth 100000 in
theorem tm_X6_staged_20 {c : mC} : mTm (B_X6_staged_20 c) := by
  refine ⟨fun x1 => mMx x1, fun s s2 h => ?_⟩
  skip
  simp only [B_X6_staged_20, J_X6_staged_68, mBd, mBo] at h
  (repeat' split at h) <;> first | (have h2 := Sum.inl.inj h; subst h2; dsimp only; first | exact mtm_max (by assumption) | exact mtm_lt (by assumption)) | (cases h; done)
theorem rl_X6_staged_20 (d : Nat) {X : mX} {g : mG} {x1 : Int32} {c : mC} : mEv X (mCall mD X (d + 3)) 0 t_X6_staged (mDrop t_X6_staged 20) [some (mr 7 20), some (mi x1), none] [] (mU g 7 c) = (wO (wV g 7)) (mWh none (B_X6_staged_20 c) x1) := by
  refine mWh_ev (B := (B_X6_staged_20 c)) (ev := fun x1 : (Int32) => mEv X (mCall mD X (d + 3)) 0 t_X6_staged (mDrop t_X6_staged 20) [some (mr 7 20), some (mi x1), none] [] (mU g 7 c)) (w := (wO (wV g 7))) (tm_X6_staged_20) ?_ x1
  intro x1
  show mEv X (mCall mD X (d + 3)) 0 t_X6_staged (mDrop t_X6_staged 20) [some (mr 7 20), some (mi x1), none] [] (mU g 7 c) = wB (fun x1 : (Int32) => mEv X (mCall mD X (d + 3)) 0 t_X6_staged (mDrop t_X6_staged 20) [some (mr 7 20), some (mi x1), none] [] (mU g 7 c)) (wO (wV g 7)) (B_X6_staged_20 c x1)
  refine Eq.trans (e_X6_staged_20) ?_
  try simp only [mU_same, mU_mU]
  refine mw_ite (fun h11 => ?_) (fun h11 => ?_)
  · refine mw_inr ?_
    refine Eq.trans (e_X6_staged_74) ?_
    try simp only [mU_same, mU_mU]
    refine mw_oI ?_ (rr_X6_of (d + 2)) (fun v1 => ?_)
    · rfl
    refine Eq.trans (e_X6_staged_81) ?_
    try simp only [mU_same, mU_mU]
    refine mw_oV ?_ (rr_X6_isStage (d + 1)) (fun c2 => ?_)
    · rfl
    refine Eq.trans (e_X6_staged_86) ?_
    try simp only [mU_same, mU_mU]
    all_goals rfl
  · refine Eq.trans (e_X6_staged_25) ?_
    try simp only [mU_same, mU_mU]
    refine mw_oI ?_ (rr_X6_goal d) (fun v3 => ?_)
    · rfl
    refine Eq.trans (e_X6_staged_30) ?_
    try simp only [mU_same, mU_mU]
    refine mw_ite (fun h10 => ?_) (fun h10 => ?_)
    · refine Eq.trans (e_X6_staged_36) ?_
      try simp only [mU_same, mU_mU]
      refine mw_oI ?_ (rr_X6_ofRing (d + 1)) (fun v4 => ?_)
      · rfl
      refine Eq.trans (e_X6_staged_42) ?_
      try simp only [mU_same, mU_mU]
      refine mw_ite (fun h5 => ?_) (fun h5 => ?_)
      · exact rj_X6_staged_68 d
      · refine mw_inr ?_
        refine Eq.trans (e_X6_staged_46) ?_
        try simp only [mU_same, mU_mU]
        refine Eq.trans (e_X6_staged_67) ?_
        try simp only [mU_same, mU_mU]
        all_goals rfl
    · refine Eq.trans (e_X6_staged_49) ?_
      try simp only [mU_same, mU_mU]
      refine mw_oZ ?_ (rr_X6_isGreen d) rfl (fun v6 hv6 => ?_)
      · rfl
      refine Eq.trans (e_X6_staged_54) ?_
      try simp only [mU_same, mU_mU]
      refine mw_ite (fun h9 => ?_) (fun h9 => ?_)
      · refine mw_inr ?_
        refine Eq.trans (e_X6_staged_67) ?_
        try simp only [mU_same, mU_mU]
        all_goals rfl
      · refine Eq.trans (e_X6_staged_57) ?_
        try simp only [mU_same, mU_mU]
        refine mw_oI ?_ (rr_X6_ofRing (d + 1)) (fun v7 => ?_)
        · rfl
        refine Eq.trans (e_X6_staged_63) ?_
        try simp only [mU_same, mU_mU]
        refine mw_ite (fun h8 => ?_) (fun h8 => ?_)
        · exact rj_X6_staged_68 d
        · refine mw_inr ?_
          refine Eq.trans (e_X6_staged_67) ?_
          try simp only [mU_same, mU_mU]
          all_goals rfl
noncomputable def P_X6_staged (c : mC) : (Option (mC)) := (if ((c 20 5) &&& 1) = 0 then (some c) else (mBo (α := Int32) none (P_X6_of c 7) (fun v1 => (if v1 = (-1) then (some c) else (mWh none (B_X6_staged_20 c) 0)))))
theorem rr_X6_staged (d : Nat) {X : mX} {g : mG} {c : mC} : mCall mD X (d + 4) 210 [mr 7 20] (mU g 7 c) = (wO (wV g 7)) (P_X6_staged c) := by
  refine Eq.trans (mCall_eq (d := d + 3) rfl) ?_
  show mEv X (mCall mD X (d + 3)) 0 t_X6_staged (mDrop t_X6_staged 0) [some (mr 7 20), none, none] [] (mU g 7 c) = _
  refine Eq.trans (e_X6_staged_0) ?_
  try simp only [mU_same, mU_mU]
  refine mw_ite (fun h3 => ?_) (fun h3 => ?_)
  · refine Eq.trans (e_X6_staged_17) ?_
    try simp only [mU_same, mU_mU]
    all_goals rfl
  · refine Eq.trans (e_X6_staged_7) ?_
    try simp only [mU_same, mU_mU]
    refine mw_oI ?_ (rr_X6_of (d + 2)) (fun v1 => ?_)
    · rfl
    refine Eq.trans (e_X6_staged_13) ?_
    try simp only [mU_same, mU_mU]
    refine mw_ite (fun h2 => ?_) (fun h2 => ?_)
    · refine Eq.trans (e_X6_staged_17) ?_
      try simp only [mU_same, mU_mU]
      all_goals rfl
    · refine Eq.trans (e_X6_staged_18) ?_
      try simp only [mU_same, mU_mU]
      exact Eq.trans hk_X6_staged_20 (rl_X6_staged_20 d)
theorem rr_X6_staged_at (d : Nat) {X : mX} {g : mG} : mCall mD X (d + 4) 210 [mr 7 20] g = wO (wV g 7) (P_X6_staged (g 7)) := by
  have h := rr_X6_staged (X := X) d (g := g) (c := g 7)
  rw [mU_self] at h
  exact h
theorem e_X6_ticks_0 {X : mX} {call : Nat → List mV → mG → mR} {g : mG} {x1 : Int32} : mEv X call 0 t_X6_ticks (mDrop t_X6_ticks 0) [some (mr 7 20), some (mi x1), none] [] g = mAns (mEv X call 0 t_X6_ticks) (mDrop t_X6_ticks 6) [some (mr 7 20), some (mi x1), none] [] (call 160 [mr 7 20, mi 1, mi 1] g) := (mEv_4 _ _ _ _).trans rfl
theorem e_X6_ticks_6 {X : mX} {call : Nat → List mV → mG → mR} {g : mG} {x1 : Int32} : mEv X call 0 t_X6_ticks (mDrop t_X6_ticks 6) [some (mr 7 20), some (mi x1), none] [] g = if x1 = 0 then mEv X call 0 t_X6_ticks (mDrop t_X6_ticks 14) [some (mr 7 20), some (mi x1), none] [] g else mEv X call 0 t_X6_ticks (mDrop t_X6_ticks 10) [some (mr 7 20), some (mi x1), none] [] g := (mEv_2 _ _ _ _).trans rfl
theorem e_X6_ticks_14 {X : mX} {call : Nat → List mV → mG → mR} {g : mG} {x1 : Int32} : mEv X call 0 t_X6_ticks (mDrop t_X6_ticks 14) [some (mr 7 20), some (mi x1), none] [] g = mAns (mEv X call 0 t_X6_ticks) (mDrop t_X6_ticks 18) [some (mr 7 20), some (mi x1), none] [] (call 189 [mr 7 20] g) := (mEv_2 _ _ _ _).trans rfl
theorem e_X6_ticks_18 {X : mX} {call : Nat → List mV → mG → mR} {g : mG} {x1 : Int32} : mEv X call 0 t_X6_ticks (mDrop t_X6_ticks 18) [some (mr 7 20), some (mi x1), none] [] g = mAns (mEv X call 0 t_X6_ticks) (mDrop t_X6_ticks 23) [some (mr 7 20), some (mi x1), none] [] (call 158 [mr 7 20, mi 5] g) := (mEv_3 _ _ _ _).trans rfl
theorem e_X6_ticks_23 {X : mX} {call : Nat → List mV → mG → mR} {g : mG} {x1 s0 : Int32} : mEv X call 0 t_X6_ticks (mDrop t_X6_ticks 23) [some (mr 7 20), some (mi x1), none] [mi s0] g = if s0 = 0 then mEv X call 0 t_X6_ticks (mDrop t_X6_ticks 26) [some (mr 7 20), some (mi x1), none] [] g else mEv X call 0 t_X6_ticks (mDrop t_X6_ticks 62) [some (mr 7 20), some (mi x1), none] [] g := (mEv_1 _ _ _ _).trans rfl
theorem e_X6_ticks_26 {X : mX} {call : Nat → List mV → mG → mR} {g : mG} {x1 : Int32} : mEv X call 0 t_X6_ticks (mDrop t_X6_ticks 26) [some (mr 7 20), some (mi x1), none] [] g = mAns (mEv X call 0 t_X6_ticks) (mDrop t_X6_ticks 31) [some (mr 7 20), some (mi x1), none] [] (call 191 [mr 7 20, mi 0] g) := (mEv_3 _ _ _ _).trans rfl
theorem e_X6_ticks_31 {X : mX} {call : Nat → List mV → mG → mR} {g : mG} {x1 : Int32} : mEv X call 0 t_X6_ticks (mDrop t_X6_ticks 31) [some (mr 7 20), some (mi x1), none] [] g = mAns (mEv X call 0 t_X6_ticks) (mDrop t_X6_ticks 36) [some (mr 7 20), some (mi x1), none] [] (call 191 [mr 7 20, mi 1] g) := (mEv_3 _ _ _ _).trans rfl
theorem e_X6_ticks_36 {X : mX} {call : Nat → List mV → mG → mR} {g : mG} {x1 : Int32} : mEv X call 0 t_X6_ticks (mDrop t_X6_ticks 36) [some (mr 7 20), some (mi x1), none] [] g = mAns (mEv X call 0 t_X6_ticks) (mDrop t_X6_ticks 40) [some (mr 7 20), some (mi x1), none] [] (call 209 [mr 7 20] g) := (mEv_2 _ _ _ _).trans rfl
theorem e_X6_ticks_40 {X : mX} {call : Nat → List mV → mG → mR} {g : mG} {x1 : Int32} : mEv X call 0 t_X6_ticks (mDrop t_X6_ticks 40) [some (mr 7 20), some (mi x1), none] [] g = mAns (mEv X call 0 t_X6_ticks) (mDrop t_X6_ticks 46) [some (mr 7 20), some (mi x1), none] [] (call 158 [mr 7 20, mi 7] g) := (mEv_3 _ _ _ _).trans rfl
theorem e_X6_ticks_46 {X : mX} {call : Nat → List mV → mG → mR} {g : mG} {x1 s0 : Int32} : mEv X call 0 t_X6_ticks (mDrop t_X6_ticks 46) [some (mr 7 20), some (mi x1), none] [mi s0] g = if s0 = (-1) then mEv X call 0 t_X6_ticks (mDrop t_X6_ticks 50) [some (mr 7 20), some (mi x1), none] [] g else mEv X call 0 t_X6_ticks (mDrop t_X6_ticks 54) [some (mr 7 20), some (mi x1), none] [] g := (mEv_2 _ _ _ _).trans rfl
theorem e_X6_ticks_50 {X : mX} {call : Nat → List mV → mG → mR} {g : mG} {x1 : Int32} : mEv X call 0 t_X6_ticks (mDrop t_X6_ticks 50) [some (mr 7 20), some (mi x1), none] [] g = mAns (mEv X call 0 t_X6_ticks) (mDrop t_X6_ticks 54) [some (mr 7 20), some (mi x1), none] [] (call 196 [mr 7 20] g) := (mEv_2 _ _ _ _).trans rfl
theorem e_X6_ticks_54 {X : mX} {call : Nat → List mV → mG → mR} {g : mG} {x1 : Int32} : mEv X call 0 t_X6_ticks (mDrop t_X6_ticks 54) [some (mr 7 20), some (mi x1), none] [] g = mAns (mEv X call 0 t_X6_ticks) (mDrop t_X6_ticks 58) [some (mr 7 20), some (mi x1), none] [] (call 197 [mr 7 20] g) := (mEv_2 _ _ _ _).trans rfl
theorem e_X6_ticks_58 {X : mX} {call : Nat → List mV → mG → mR} {g : mG} {x1 : Int32} : mEv X call 0 t_X6_ticks (mDrop t_X6_ticks 58) [some (mr 7 20), some (mi x1), none] [] g = mAns (mEv X call 0 t_X6_ticks) (mDrop t_X6_ticks 62) [some (mr 7 20), some (mi x1), none] [] (call 210 [mr 7 20] g) := (mEv_2 _ _ _ _).trans rfl
theorem e_X6_ticks_62 {X : mX} {call : Nat → List mV → mG → mR} {g : mG} {x1 : Int32} : mEv X call 0 t_X6_ticks (mDrop t_X6_ticks 62) [some (mr 7 20), some (mi x1), none] [] g = mAns (mEv X call 0 t_X6_ticks) (mDrop t_X6_ticks 66) [some (mr 7 20), some (mi x1), none] [] (call 199 [mr 7 20] g) := (mEv_2 _ _ _ _).trans rfl
theorem e_X6_ticks_66 {X : mX} {call : Nat → List mV → mG → mR} {g : mG} {x1 : Int32} : mEv X call 0 t_X6_ticks (mDrop t_X6_ticks 66) [some (mr 7 20), some (mi x1), none] [] g = mAns (mEv X call 0 t_X6_ticks) (mDrop t_X6_ticks 73) [some (mr 7 20), some (mi x1), none] [mi 11, mr 7 20] (call 200 [mr 7 20] g) := (mEv_4 _ _ _ _).trans rfl
theorem e_X6_ticks_73 {X : mX} {call : Nat → List mV → mG → mR} {g : mG} {x1 s1 s2 : Int32} : mEv X call 0 t_X6_ticks (mDrop t_X6_ticks 73) [some (mr 7 20), some (mi x1), none] [mi s2, mi s1, mr 7 20] g = mAns (mEv X call 0 t_X6_ticks) (mDrop t_X6_ticks 76) [some (mr 7 20), some (mi x1), none] [] (call 160 [mr 7 20, mi s1, mi s2] g) := (mEv_1 _ _ _ _).trans rfl
theorem e_X6_ticks_76 {X : mX} {call : Nat → List mV → mG → mR} {g : mG} {x1 : Int32} : mEv X call 0 t_X6_ticks (mDrop t_X6_ticks 76) [some (mr 7 20), some (mi x1), none] [] g = mEv X call 0 t_X6_ticks (mDrop t_X6_ticks 78) [some (mr 7 20), some (mi x1), some (mi 0)] [] g := (mEv_2 _ _ _ _).trans rfl
theorem e_X6_ticks_78 {X : mX} {call : Nat → List mV → mG → mR} {g : mG} {x1 x2 : Int32} : mEv X call 0 t_X6_ticks (mDrop t_X6_ticks 78) [some (mr 7 20), some (mi x1), some (mi x2)] [] g = mAns (mEv X call 0 t_X6_ticks) (mDrop t_X6_ticks 84) [some (mr 7 20), some (mi x1), some (mi x2)] [mi x2] (call 158 [mr 7 20, mi 0] g) := (mEv_4 _ _ _ _).trans rfl
theorem e_X6_ticks_84 {X : mX} {call : Nat → List mV → mG → mR} {g : mG} {x1 x2 s0 s1 : Int32} : mEv X call 0 t_X6_ticks (mDrop t_X6_ticks 84) [some (mr 7 20), some (mi x1), some (mi x2)] [mi s1, mi s0] g = if s1 ≤ s0 then mEv X call 0 t_X6_ticks (mDrop t_X6_ticks 101) [some (mr 7 20), some (mi x1), some (mi x2)] [] g else mEv X call 0 t_X6_ticks (mDrop t_X6_ticks 87) [some (mr 7 20), some (mi x1), some (mi x2)] [] g := (mEv_1 _ _ _ _).trans rfl
theorem e_X6_ticks_101 {X : mX} {call : Nat → List mV → mG → mR} {g : mG} {x1 x2 : Int32} : mEv X call 0 t_X6_ticks (mDrop t_X6_ticks 101) [some (mr 7 20), some (mi x1), some (mi x2)] [] g = some (none, g) := (mEv_1 _ _ _ _).trans rfl
theorem e_X6_ticks_87 {X : mX} {call : Nat → List mV → mG → mR} {g : mG} {x1 x2 : Int32} : mEv X call 0 t_X6_ticks (mDrop t_X6_ticks 87) [some (mr 7 20), some (mi x1), some (mi x2)] [] g = mAns (mEv X call 0 t_X6_ticks) (mDrop t_X6_ticks 95) [some (mr 7 20), some (mi x1), some (mi x2)] [] (call 166 [mr 7 20, mi x2, mi 16, mi 0] g) := (mEv_5 _ _ _ _).trans rfl
theorem e_X6_ticks_95 {X : mX} {call : Nat → List mV → mG → mR} {g : mG} {x1 x2 : Int32} : mEv X call 0 t_X6_ticks (mDrop t_X6_ticks 95) [some (mr 7 20), some (mi x1), some (mi x2)] [] g = mEv X call 0 t_X6_ticks (mDrop t_X6_ticks 78) [some (mr 7 20), some (mi x1), some (mi (x2 + 1))] [] g := (mEv_2 _ _ _ _).trans rfl
noncomputable def B_X6_ticks_78  : (Int32 × mC) → (Int32 × mC) ⊕ (Option (mC)) := fun s => match s with | (x2, c) => (mBo (α := Int32) (.inr none) (P_X6_of c 0) (fun v1 => (if v1 ≤ x2 then (.inr (some c)) else (mBo (α := mC) (.inr none) (P_X6_putsPhase c x2 16 0) (fun c2 => (.inl ((x2 + 1), c2)))))))
set_option maxRecDepth 100000 in
theorem tm_X6_ticks_78  : mTm (B_X6_ticks_78 ) := by
  refine ⟨fun s => match s with | (x2, c) => mMx x2, fun s s2 h => ?_⟩
  obtain ⟨x2, c⟩ := s
  simp only [B_X6_ticks_78, mBd, mBo] at h
  (repeat' split at h) <;> first | (have h2 := Sum.inl.inj h; subst h2; dsimp only; first | exact mtm_max (by assumption) | exact mtm_lt (by assumption)) | (cases h; done)
theorem rl_X6_ticks_78 (d : Nat) {X : mX} {g : mG} {x1 x2 : Int32} {c : mC} : mEv X (mCall mD X (d + 9)) 0 t_X6_ticks (mDrop t_X6_ticks 78) [some (mr 7 20), some (mi x1), some (mi x2)] [] (mU g 7 c) = (wO (wV g 7)) (mWh none B_X6_ticks_78 (x2, c)) := by
  refine mWh_ev (B := B_X6_ticks_78) (ev := fun s : (Int32 × mC) => match s with | (x2, c) => mEv X (mCall mD X (d + 9)) 0 t_X6_ticks (mDrop t_X6_ticks 78) [some (mr 7 20), some (mi x1), some (mi x2)] [] (mU g 7 c)) (w := (wO (wV g 7))) (tm_X6_ticks_78) ?_ (x2, c)
  rintro ⟨x2, c⟩
  show mEv X (mCall mD X (d + 9)) 0 t_X6_ticks (mDrop t_X6_ticks 78) [some (mr 7 20), some (mi x1), some (mi x2)] [] (mU g 7 c) = wB (fun s : (Int32 × mC) => match s with | (x2, c) => mEv X (mCall mD X (d + 9)) 0 t_X6_ticks (mDrop t_X6_ticks 78) [some (mr 7 20), some (mi x1), some (mi x2)] [] (mU g 7 c)) (wO (wV g 7)) (mBo (α := Int32) (.inr none) (P_X6_of c 0) (fun v1 => (if v1 ≤ x2 then (.inr (some c)) else (mBo (α := mC) (.inr none) (P_X6_putsPhase c x2 16 0) (fun c2 => (.inl ((x2 + 1), c2)))))))
  refine Eq.trans (e_X6_ticks_78) ?_
  try simp only [mU_same, mU_mU]
  refine mw_oI ?_ (rr_X6_of (d + 8)) (fun v1 => ?_)
  · rfl
  refine Eq.trans (e_X6_ticks_84) ?_
  try simp only [mU_same, mU_mU]
  refine mw_ite (fun h3 => ?_) (fun h3 => ?_)
  · refine mw_inr ?_
    refine Eq.trans (e_X6_ticks_101) ?_
    try simp only [mU_same, mU_mU]
    all_goals rfl
  · refine Eq.trans (e_X6_ticks_87) ?_
    try simp only [mU_same, mU_mU]
    refine mw_oV ?_ (rr_X6_putsPhase (d + 7)) (fun c2 => ?_)
    · rfl
    refine Eq.trans (e_X6_ticks_95) ?_
    try simp only [mU_same, mU_mU]
    exact mw_inl rfl
noncomputable def J_X6_ticks_62 (c : mC) : (Option (mC)) := (mBo (α := mC) none (P_X6_watches c) (fun c1 => (mBo (α := Int32) none (P_X6_queues c1) (fun v2 => (mBo (α := mC) none (P_X6_adds c1 11 v2) (fun c3 => (mWh none B_X6_ticks_78 (0, c3))))))))
theorem rj_X6_ticks_62 (d : Nat) {X : mX} {g : mG} {x1 : Int32} {c : mC} : mEv X (mCall mD X (d + 9)) 0 t_X6_ticks (mDrop t_X6_ticks 62) [some (mr 7 20), some (mi x1), none] [] (mU g 7 c) = (wO (wV g 7)) (J_X6_ticks_62 c) := by
  refine Eq.trans (e_X6_ticks_62) ?_
  try simp only [mU_same, mU_mU]
  refine mw_oV ?_ (rr_X6_watches (d + 3)) (fun c1 => ?_)
  · rfl
  refine Eq.trans (e_X6_ticks_66) ?_
  try simp only [mU_same, mU_mU]
  refine mw_oI ?_ (rr_X6_queues (d + 6)) (fun v2 => ?_)
  · rfl
  refine Eq.trans (e_X6_ticks_73) ?_
  try simp only [mU_same, mU_mU]
  refine mw_oV ?_ (rr_X6_adds (d + 8)) (fun c3 => ?_)
  · rfl
  refine Eq.trans (e_X6_ticks_76) ?_
  try simp only [mU_same, mU_mU]
  exact rl_X6_ticks_78 d
noncomputable def J_X6_ticks_54 (c : mC) : (Option (mC)) := (mBo (α := mC) none (P_X6_becomes c) (fun c1 => (mBo (α := mC) none (P_X6_staged c1) (fun c2 => (J_X6_ticks_62 c2)))))
theorem rj_X6_ticks_54 (d : Nat) {X : mX} {g : mG} {x1 : Int32} {c : mC} : mEv X (mCall mD X (d + 9)) 0 t_X6_ticks (mDrop t_X6_ticks 54) [some (mr 7 20), some (mi x1), none] [] (mU g 7 c) = (wO (wV g 7)) (J_X6_ticks_54 c) := by
  refine Eq.trans (e_X6_ticks_54) ?_
  try simp only [mU_same, mU_mU]
  refine mw_oV ?_ (rr_X6_becomes (d + 3)) (fun c1 => ?_)
  · rfl
  refine Eq.trans (e_X6_ticks_58) ?_
  try simp only [mU_same, mU_mU]
  refine mw_oV ?_ (rr_X6_staged (d + 5)) (fun c2 => ?_)
  · rfl
  exact rj_X6_ticks_62 d
noncomputable def J_X6_ticks_14 (c : mC) : (Option (mC)) := (mBo (α := mC) none (P_X6_clockGoes c) (fun c1 => (mBo (α := Int32) none (P_X6_of c1 5) (fun v2 => (if v2 = 0 then (mBo (α := mC) none (P_X6_ringGoes c1 0) (fun c3 => (mBo (α := mC) none (P_X6_ringGoes c3 1) (fun c4 => (mBo (α := mC) none (P_X6_breaks c4) (fun c5 => (mBo (α := Int32) none (P_X6_of c5 7) (fun v6 => (if v6 = (-1) then (mBo (α := mC) none (P_X6_goesOn c5) (fun c7 => (J_X6_ticks_54 c7))) else (J_X6_ticks_54 c5)))))))))) else (J_X6_ticks_62 c1))))))
theorem rj_X6_ticks_14 (d : Nat) {X : mX} {g : mG} {x1 : Int32} {c : mC} : mEv X (mCall mD X (d + 9)) 0 t_X6_ticks (mDrop t_X6_ticks 14) [some (mr 7 20), some (mi x1), none] [] (mU g 7 c) = (wO (wV g 7)) (J_X6_ticks_14 c) := by
  refine Eq.trans (e_X6_ticks_14) ?_
  try simp only [mU_same, mU_mU]
  refine mw_oV ?_ (rr_X6_clockGoes (d + 6)) (fun c1 => ?_)
  · rfl
  refine Eq.trans (e_X6_ticks_18) ?_
  try simp only [mU_same, mU_mU]
  refine mw_oI ?_ (rr_X6_of (d + 8)) (fun v2 => ?_)
  · rfl
  refine Eq.trans (e_X6_ticks_23) ?_
  try simp only [mU_same, mU_mU]
  refine mw_ite (fun h9 => ?_) (fun h9 => ?_)
  · refine Eq.trans (e_X6_ticks_26) ?_
    try simp only [mU_same, mU_mU]
    refine mw_oV ?_ (rr_X6_ringGoes (d + 1)) (fun c3 => ?_)
    · rfl
    refine Eq.trans (e_X6_ticks_31) ?_
    try simp only [mU_same, mU_mU]
    refine mw_oV ?_ (rr_X6_ringGoes (d + 1)) (fun c4 => ?_)
    · rfl
    refine Eq.trans (e_X6_ticks_36) ?_
    try simp only [mU_same, mU_mU]
    refine mw_oV ?_ (rr_X6_breaks (d + 1)) (fun c5 => ?_)
    · rfl
    refine Eq.trans (e_X6_ticks_40) ?_
    try simp only [mU_same, mU_mU]
    refine mw_oI ?_ (rr_X6_of (d + 8)) (fun v6 => ?_)
    · rfl
    refine Eq.trans (e_X6_ticks_46) ?_
    try simp only [mU_same, mU_mU]
    refine mw_ite (fun h8 => ?_) (fun h8 => ?_)
    · refine Eq.trans (e_X6_ticks_50) ?_
      try simp only [mU_same, mU_mU]
      refine mw_oV ?_ (rr_X6_goesOn d) (fun c7 => ?_)
      · rfl
      exact rj_X6_ticks_54 d
    · exact rj_X6_ticks_54 d
  · exact rj_X6_ticks_62 d
theorem e_X6_ticks_10 {X : mX} {call : Nat → List mV → mG → mR} {g : mG} {x1 : Int32} : mEv X call 0 t_X6_ticks (mDrop t_X6_ticks 10) [some (mr 7 20), some (mi x1), none] [] g = mAns (mEv X call 0 t_X6_ticks) (mDrop t_X6_ticks 14) [some (mr 7 20), some (mi x1), none] [] (call 187 [mr 7 20] g) := (mEv_2 _ _ _ _).trans rfl
noncomputable def P_X6_ticks (c : mC) (x1 : Int32) : (Option (mC)) := (mBo (α := mC) none (P_X6_adds c 1 1) (fun c1 => (if x1 = 0 then (J_X6_ticks_14 c1) else (mBo (α := mC) none (P_X6_comers c1) (fun c2 => (J_X6_ticks_14 c2))))))
theorem rr_X6_ticks (d : Nat) {X : mX} {g : mG} {x1 : Int32} {c : mC} : mCall mD X (d + 10) 201 [mr 7 20, mi x1] (mU g 7 c) = (wO (wV g 7)) (P_X6_ticks c x1) := by
  refine Eq.trans (mCall_eq (d := d + 9) rfl) ?_
  show mEv X (mCall mD X (d + 9)) 0 t_X6_ticks (mDrop t_X6_ticks 0) [some (mr 7 20), some (mi x1), none] [] (mU g 7 c) = _
  refine Eq.trans (e_X6_ticks_0) ?_
  try simp only [mU_same, mU_mU]
  refine mw_oV ?_ (rr_X6_adds (d + 8)) (fun c1 => ?_)
  · rfl
  refine Eq.trans (e_X6_ticks_6) ?_
  try simp only [mU_same, mU_mU]
  refine mw_ite (fun h3 => ?_) (fun h3 => ?_)
  · exact rj_X6_ticks_14 d
  · refine Eq.trans (e_X6_ticks_10) ?_
    try simp only [mU_same, mU_mU]
    refine mw_oV ?_ (rr_X6_comers (d + 5)) (fun c2 => ?_)
    · rfl
    exact rj_X6_ticks_14 d
theorem rr_X6_ticks_at (d : Nat) {X : mX} {g : mG} {x1 : Int32} : mCall mD X (d + 10) 201 [mr 7 20, mi x1] g = wO (wV g 7) (P_X6_ticks (g 7) x1) := by
  have h := rr_X6_ticks (X := X) d (g := g) (c := g 7) (x1 := x1)
  rw [mU_self] at h
  exact h
