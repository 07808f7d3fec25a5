theorem e_X5_tapeFour_0 {X : mX} {call : Nat → List mV → mG → mR} {g : mG} {x1 : Int32} : mEv X call 0 t_X5_tapeFour (mDrop t_X5_tapeFour 0) [some (mr 6 18), some (mi x1), none] [] g = mEv X call 0 t_X5_tapeFour (mDrop t_X5_tapeFour 3) [some (mr 6 18), some (mi x1), some (mi 24)] [] g := (mEv_2 _ _ _ _).trans rfl
theorem e_X5_tapeFour_3 {X : mX} {call : Nat → List mV → mG → mR} {g : mG} {x1 x2 : Int32} : mEv X call 0 t_X5_tapeFour (mDrop t_X5_tapeFour 3) [some (mr 6 18), some (mi x1), some (mi x2)] [] g = if x2 < 0 then mEv X call 0 t_X5_tapeFour (mDrop t_X5_tapeFour 37) [some (mr 6 18), some (mi x1), some (mi x2)] [] g else mEv X call 0 t_X5_tapeFour (mDrop t_X5_tapeFour 7) [some (mr 6 18), some (mi x1), some (mi x2)] [] g := (mEv_2 _ _ _ _).trans rfl
theorem e_X5_tapeFour_7 {X : mX} {call : Nat → List mV → mG → mR} {g : mG} {x1 x2 : Int32} : mEv X call 0 t_X5_tapeFour (mDrop t_X5_tapeFour 7) [some (mr 6 18), some (mi x1), some (mi x2)] [] g = mAns (mEv X call 0 t_X5_tapeFour) (mDrop t_X5_tapeFour 21) [some (mr 6 18), some (mi x1), some (mi x2)] [] (call 69 [mr 5 16, mi (g 6 18 7), mi (x1 >>> (x2 &&& 31))] g) := (mEv_8 _ _ _ _).trans rfl
theorem e_X5_tapeFour_21 {X : mX} {call : Nat → List mV → mG → mR} {g : mG} {x1 x2 : Int32} : mEv X call 0 t_X5_tapeFour (mDrop t_X5_tapeFour 21) [some (mr 6 18), some (mi x1), some (mi x2)] [] g = mEv X call 0 t_X5_tapeFour (mDrop t_X5_tapeFour 31) [some (mr 6 18), some (mi x1), some (mi x2)] [] (mU g 6 (mP (g 6) 18 7 ((g 6 18 7) + 1))) := (mEv_6 _ _ _ _).trans rfl
theorem e_X5_tapeFour_31 {X : mX} {call : Nat → List mV → mG → mR} {g : mG} {x1 x2 : Int32} : mEv X call 0 t_X5_tapeFour (mDrop t_X5_tapeFour 31) [some (mr 6 18), some (mi x1), some (mi x2)] [] g = mEv X call 0 t_X5_tapeFour (mDrop t_X5_tapeFour 3) [some (mr 6 18), some (mi x1), some (mi (x2 + (-8)))] [] g := (mEv_2 _ _ _ _).trans rfl
theorem e_X5_tapeFour_37 {X : mX} {call : Nat → List mV → mG → mR} {g : mG} {x1 x2 : Int32} : mEv X call 0 t_X5_tapeFour (mDrop t_X5_tapeFour 37) [some (mr 6 18), some (mi x1), some (mi x2)] [] g = some (none, g) := (mEv_1 _ _ _ _).trans rfl
noncomputable def tp1 (x s : Int32) (g : mG) : mG := mU (mU g 5 (P_X3_putByte (g 5) (g 6 18 7) (x >>> (s &&& 31)))) 6 (mP (g 6) 18 7 (g 6 18 7 + 1))
theorem tp1_ev (d : Nat) {X : mX} {g : mG} {x s : Int32} (hs : ¬ s < 0) : mEv X (mCall mD X (d + 1)) 0 t_X5_tapeFour (mDrop t_X5_tapeFour 3) [some (mr 6 18), some (mi x), some (mi s)] [] g = mEv X (mCall mD X (d + 1)) 0 t_X5_tapeFour (mDrop t_X5_tapeFour 3) [some (mr 6 18), some (mi x), some (mi (s + (-8)))] [] (tp1 x s g) := by
  refine Eq.trans e_X5_tapeFour_3 ?_
  rw [if_neg hs]
  refine Eq.trans e_X5_tapeFour_7 ?_
  rw [rr_X3_putByte_at d]
  show mEv X (mCall mD X (d + 1)) 0 t_X5_tapeFour (mDrop t_X5_tapeFour 21) [some (mr 6 18), some (mi x), some (mi s)] [] (mU g 5 (P_X3_putByte (g 5) (g 6 18 7) (x >>> (s &&& 31)))) = _
  refine Eq.trans e_X5_tapeFour_21 ?_
  rw [show (mU g 5 (P_X3_putByte (g 5) (g 6 18 7) (x >>> (s &&& 31)))) 6 = g 6 from rfl]
  exact e_X5_tapeFour_31
noncomputable def P_X5_tapeFour (g : mG) (x1 : Int32) : mG := tp1 x1 0 (tp1 x1 8 (tp1 x1 16 (tp1 x1 24 g)))
theorem rr_X5_tapeFour (d : Nat) {X : mX} {g : mG} {x1 : Int32} : mCall mD X (d + 2) 135 [mr 6 18, mi x1] g = some (none, P_X5_tapeFour g x1) := by
  refine Eq.trans (mCall_eq (d := d + 1) rfl) ?_
  show mEv X (mCall mD X (d + 1)) 0 t_X5_tapeFour (mDrop t_X5_tapeFour 0) [some (mr 6 18), some (mi x1), none] [] g = _
  refine Eq.trans e_X5_tapeFour_0 (Eq.trans (tp1_ev d (by decide)) ?_)
  have e1 : (24 : Int32) + (-8) = 16 := by decide
  have e2 : (16 : Int32) + (-8) = 8 := by decide
  have e3 : (8 : Int32) + (-8) = 0 := by decide
  rw [e1]
  refine Eq.trans (tp1_ev d (by decide)) ?_
  rw [e2]
  refine Eq.trans (tp1_ev d (by decide)) ?_
  rw [e3]
  refine Eq.trans (tp1_ev d (by decide)) ?_
  refine Eq.trans e_X5_tapeFour_3 ?_
  exact Eq.trans (if_pos (by decide)) e_X5_tapeFour_37
theorem e_X5_feed_0 {X : mX} {call : Nat → List mV → mG → mR} {g : mG} {x1 x2 x3 x4 x5 : Int32} : mEv X call 1 t_X5_feed (mDrop t_X5_feed 0) [some (mr 6 18), some (mi x1), some (mi x2), some (mi x3), some (mi x4), some (mi x5)] [] g = if ((g 6 18 7) + 20) ≤ 700 then mEv X call 1 t_X5_feed (mDrop t_X5_feed 15) [some (mr 6 18), some (mi x1), some (mi x2), some (mi x3), some (mi x4), some (mi x5)] [] g else mEv X call 1 t_X5_feed (mDrop t_X5_feed 13) [some (mr 6 18), some (mi x1), some (mi x2), some (mi x3), some (mi x4), some (mi x5)] [] g := (mEv_6 _ _ _ _).trans rfl
theorem e_X5_feed_13 {X : mX} {call : Nat → List mV → mG → mR} {g : mG} {x1 x2 x3 x4 x5 : Int32} : mEv X call 1 t_X5_feed (mDrop t_X5_feed 13) [some (mr 6 18), some (mi x1), some (mi x2), some (mi x3), some (mi x4), some (mi x5)] [] g = some (some (mi (-1)), g) := (mEv_2 _ _ _ _).trans rfl
theorem e_X5_feed_15 {X : mX} {call : Nat → List mV → mG → mR} {g : mG} {x1 x2 x3 x4 x5 : Int32} : mEv X call 1 t_X5_feed (mDrop t_X5_feed 15) [some (mr 6 18), some (mi x1), some (mi x2), some (mi x3), some (mi x4), some (mi x5)] [] g = mAns (mEv X call 1 t_X5_feed) (mDrop t_X5_feed 20) [some (mr 6 18), some (mi x1), some (mi x2), some (mi x3), some (mi x4), some (mi x5)] [] (call 135 [mr 6 18, mi x1] g) := (mEv_3 _ _ _ _).trans rfl
theorem e_X5_feed_20 {X : mX} {call : Nat → List mV → mG → mR} {g : mG} {x1 x2 x3 x4 x5 : Int32} : mEv X call 1 t_X5_feed (mDrop t_X5_feed 20) [some (mr 6 18), some (mi x1), some (mi x2), some (mi x3), some (mi x4), some (mi x5)] [] g = mAns (mEv X call 1 t_X5_feed) (mDrop t_X5_feed 25) [some (mr 6 18), some (mi x1), some (mi x2), some (mi x3), some (mi x4), some (mi x5)] [] (call 135 [mr 6 18, mi x2] g) := (mEv_3 _ _ _ _).trans rfl
theorem e_X5_feed_25 {X : mX} {call : Nat → List mV → mG → mR} {g : mG} {x1 x2 x3 x4 x5 : Int32} : mEv X call 1 t_X5_feed (mDrop t_X5_feed 25) [some (mr 6 18), some (mi x1), some (mi x2), some (mi x3), some (mi x4), some (mi x5)] [] g = mAns (mEv X call 1 t_X5_feed) (mDrop t_X5_feed 30) [some (mr 6 18), some (mi x1), some (mi x2), some (mi x3), some (mi x4), some (mi x5)] [] (call 135 [mr 6 18, mi x3] g) := (mEv_3 _ _ _ _).trans rfl
theorem e_X5_feed_30 {X : mX} {call : Nat → List mV → mG → mR} {g : mG} {x1 x2 x3 x4 x5 : Int32} : mEv X call 1 t_X5_feed (mDrop t_X5_feed 30) [some (mr 6 18), some (mi x1), some (mi x2), some (mi x3), some (mi x4), some (mi x5)] [] g = mAns (mEv X call 1 t_X5_feed) (mDrop t_X5_feed 36) [some (mr 6 18), some (mi x1), some (mi x2), some (mi x3), some (mi x4), some (mi x5)] [] (call 135 [mr 6 18, mi x4] g) := (mEv_3 _ _ _ _).trans rfl
theorem e_X5_feed_36 {X : mX} {call : Nat → List mV → mG → mR} {g : mG} {x1 x2 x3 x4 x5 : Int32} : mEv X call 1 t_X5_feed (mDrop t_X5_feed 36) [some (mr 6 18), some (mi x1), some (mi x2), some (mi x3), some (mi x4), some (mi x5)] [] g = mAns (mEv X call 1 t_X5_feed) (mDrop t_X5_feed 42) [some (mr 6 18), some (mi x1), some (mi x2), some (mi x3), some (mi x4), some (mi x5)] [] (call 135 [mr 6 18, mi x5] g) := (mEv_3 _ _ _ _).trans rfl
theorem e_X5_feed_42 {X : mX} {call : Nat → List mV → mG → mR} {g : mG} {x1 x2 x3 x4 x5 : Int32} : mEv X call 1 t_X5_feed (mDrop t_X5_feed 42) [some (mr 6 18), some (mi x1), some (mi x2), some (mi x3), some (mi x4), some (mi x5)] [] g = some (some (mi (g 6 18 7)), g) := (mEv_3 _ _ _ _).trans rfl
noncomputable def P_X5_feed (g : mG) (x1 x2 x3 x4 x5 : Int32) : Int32 × mG := if g 6 18 7 + 20 ≤ 700 then ((P_X5_tapeFour (P_X5_tapeFour (P_X5_tapeFour (P_X5_tapeFour (P_X5_tapeFour g x1) x2) x3) x4) x5) 6 18 7, P_X5_tapeFour (P_X5_tapeFour (P_X5_tapeFour (P_X5_tapeFour (P_X5_tapeFour g x1) x2) x3) x4) x5) else (-1, g)
theorem rr_X5_feed (d : Nat) {X : mX} {g : mG} {x1 x2 x3 x4 x5 : Int32} : mCall mD X (d + 3) 98 [mr 6 18, mi x1, mi x2, mi x3, mi x4, mi x5] g = wG (P_X5_feed g x1 x2 x3 x4 x5) := by
  refine Eq.trans (mCall_eq (d := d + 2) rfl) ?_
  show mEv X (mCall mD X (d + 2)) 1 t_X5_feed (mDrop t_X5_feed 0) [some (mr 6 18), some (mi x1), some (mi x2), some (mi x3), some (mi x4), some (mi x5)] [] g = _
  refine Eq.trans e_X5_feed_0 ?_
  refine mw_ite (w := fun z : Int32 × mG => wG z) (fun _ => ?_) (fun _ => ?_)
  · refine Eq.trans e_X5_feed_15 ?_
    rw [rr_X5_tapeFour d]
    generalize P_X5_tapeFour g x1 = g1
    show mEv X (mCall mD X (d + 2)) 1 t_X5_feed (mDrop t_X5_feed 20) [some (mr 6 18), some (mi x1), some (mi x2), some (mi x3), some (mi x4), some (mi x5)] [] g1 = _
    refine Eq.trans e_X5_feed_20 ?_
    rw [rr_X5_tapeFour d]
    generalize P_X5_tapeFour g1 x2 = g2
    show mEv X (mCall mD X (d + 2)) 1 t_X5_feed (mDrop t_X5_feed 25) [some (mr 6 18), some (mi x1), some (mi x2), some (mi x3), some (mi x4), some (mi x5)] [] g2 = _
    refine Eq.trans e_X5_feed_25 ?_
    rw [rr_X5_tapeFour d]
    generalize P_X5_tapeFour g2 x3 = g3
    show mEv X (mCall mD X (d + 2)) 1 t_X5_feed (mDrop t_X5_feed 30) [some (mr 6 18), some (mi x1), some (mi x2), some (mi x3), some (mi x4), some (mi x5)] [] g3 = _
    refine Eq.trans e_X5_feed_30 ?_
    rw [rr_X5_tapeFour d]
    generalize P_X5_tapeFour g3 x4 = g4
    show mEv X (mCall mD X (d + 2)) 1 t_X5_feed (mDrop t_X5_feed 36) [some (mr 6 18), some (mi x1), some (mi x2), some (mi x3), some (mi x4), some (mi x5)] [] g4 = _
    refine Eq.trans e_X5_feed_36 ?_
    rw [rr_X5_tapeFour d]
    generalize P_X5_tapeFour g4 x5 = g5
    show mEv X (mCall mD X (d + 2)) 1 t_X5_feed (mDrop t_X5_feed 42) [some (mr 6 18), some (mi x1), some (mi x2), some (mi x3), some (mi x4), some (mi x5)] [] g5 = _
    exact e_X5_feed_42
  · exact e_X5_feed_13
theorem e_X5_status_0 {X : mX} {call : Nat → List mV → mG → mR} {g : mG} : mEv X call 1 t_X5_status (mDrop t_X5_status 0) [some (mr 6 18)] [] g = some (some (mi (g 6 18 9)), g) := (mEv_3 _ _ _ _).trans rfl
noncomputable def P_X5_status (g : mG) : (Int32) := (g 6 18 9)
theorem rr_X5_status (d : Nat) {X : mX} {g : mG} : mCall mD X (d + 1) 97 [mr 6 18] g = (wN g) (P_X5_status g) := by
  refine Eq.trans (mCall_eq (d := d + 0) rfl) ?_
  show mEv X (mCall mD X (d + 0)) 1 t_X5_status (mDrop t_X5_status 0) [some (mr 6 18)] [] g = _
  refine Eq.trans (e_X5_status_0) ?_
  all_goals rfl
theorem e_X5_refuse_0 {X : mX} {call : Nat → List mV → mG → mR} {g : mG} {x1 : Int32} : mEv X call 1 t_X5_refuse (mDrop t_X5_refuse 0) [some (mr 6 18), some (mi x1)] [] g = mEv X call 1 t_X5_refuse (mDrop t_X5_refuse 5) [some (mr 6 18), some (mi x1)] [] (mU g 6 (mP (g 6) 18 9 x1)) := (mEv_3 _ _ _ _).trans rfl
theorem e_X5_refuse_5 {X : mX} {call : Nat → List mV → mG → mR} {g : mG} {x1 : Int32} : mEv X call 1 t_X5_refuse (mDrop t_X5_refuse 5) [some (mr 6 18), some (mi x1)] [] g = some (some (mi (-1)), g) := (mEv_2 _ _ _ _).trans rfl
noncomputable def P_X5_refuse (g : mG) (x1 : Int32) : (Int32 × mG) := ((-1), (mU g 6 (mP (g 6) 18 9 x1)))
theorem rr_X5_refuse (d : Nat) {X : mX} {g : mG} {x1 : Int32} : mCall mD X (d + 1) 132 [mr 6 18, mi x1] g = (wG) (P_X5_refuse g x1) := by
  refine Eq.trans (mCall_eq (d := d + 0) rfl) ?_
  show mEv X (mCall mD X (d + 0)) 1 t_X5_refuse (mDrop t_X5_refuse 0) [some (mr 6 18), some (mi x1)] [] g = _
  refine Eq.trans (e_X5_refuse_0) ?_
  refine Eq.trans (e_X5_refuse_5) ?_
  all_goals rfl
theorem e_X5_answer_0 {X : mX} {call : Nat → List mV → mG → mR} {g : mG} {x1 : Int32} : mEv X call 1 t_X5_answer (mDrop t_X5_answer 0) [some (mr 6 18), some (mi x1)] [] g = mEv X call 1 t_X5_answer (mDrop t_X5_answer 5) [some (mr 6 18), some (mi x1)] [] (mU g 6 (mP (g 6) 18 9 0)) := (mEv_3 _ _ _ _).trans rfl
theorem e_X5_answer_5 {X : mX} {call : Nat → List mV → mG → mR} {g : mG} {x1 : Int32} : mEv X call 1 t_X5_answer (mDrop t_X5_answer 5) [some (mr 6 18), some (mi x1)] [] g = some (some (mi x1), g) := (mEv_2 _ _ _ _).trans rfl
noncomputable def P_X5_answer (g : mG) (x1 : Int32) : (Int32 × mG) := (x1, (mU g 6 (mP (g 6) 18 9 0)))
theorem rr_X5_answer (d : Nat) {X : mX} {g : mG} {x1 : Int32} : mCall mD X (d + 1) 131 [mr 6 18, mi x1] g = (wG) (P_X5_answer g x1) := by
  refine Eq.trans (mCall_eq (d := d + 0) rfl) ?_
  show mEv X (mCall mD X (d + 0)) 1 t_X5_answer (mDrop t_X5_answer 0) [some (mr 6 18), some (mi x1)] [] g = _
  refine Eq.trans (e_X5_answer_0) ?_
  refine Eq.trans (e_X5_answer_5) ?_
  all_goals rfl
theorem e_X5_load_0 {X : mX} {call : Nat → List mV → mG → mR} {g : mG} {x1 : Int32} : mEv X call 1 t_X5_load (mDrop t_X5_load 0) [some (mr 6 18), some (mi x1)] [] g = if x1 < 0 then mEv X call 1 t_X5_load (mDrop t_X5_load 12) [some (mr 6 18), some (mi x1)] [] g else mEv X call 1 t_X5_load (mDrop t_X5_load 4) [some (mr 6 18), some (mi x1)] [] g := (mEv_2 _ _ _ _).trans rfl
theorem e_X5_load_12 {X : mX} {call : Nat → List mV → mG → mR} {g : mG} {x1 : Int32} : mEv X call 1 t_X5_load (mDrop t_X5_load 12) [some (mr 6 18), some (mi x1)] [] g = mAns (mEv X call 1 t_X5_load) (mDrop t_X5_load 17) [some (mr 6 18), some (mi x1)] [] (call 132 [mr 6 18, mi 1] g) := (mEv_3 _ _ _ _).trans rfl
theorem e_X5_load_17 {X : mX} {call : Nat → List mV → mG → mR} {g : mG} {x1 s0 : Int32} : mEv X call 1 t_X5_load (mDrop t_X5_load 17) [some (mr 6 18), some (mi x1)] [mi s0] g = some (some (mi s0), g) := (mEv_1 _ _ _ _).trans rfl
noncomputable def J_X5_load_12 (g : mG) : (Int32 × mG) := (mBd (α := Int32 × mG) (P_X5_refuse g 1) (fun p1 => (p1.1, p1.2)))
theorem rj_X5_load_12 (d : Nat) {X : mX} {g : mG} {x1 : Int32} : mEv X (mCall mD X (d + 9)) 1 t_X5_load (mDrop t_X5_load 12) [some (mr 6 18), some (mi x1)] [] g = (wG) (J_X5_load_12 g) := by
  refine Eq.trans (e_X5_load_12) ?_
  refine mw_gW (rr_X5_refuse (d + 8)) (fun p1 => ?_)
  refine Eq.trans (e_X5_load_17) ?_
  all_goals rfl
theorem e_X5_load_4 {X : mX} {call : Nat → List mV → mG → mR} {g : mG} {x1 : Int32} : mEv X call 1 t_X5_load (mDrop t_X5_load 4) [some (mr 6 18), some (mi x1)] [] g = if x1 ≤ (g 6 18 7) then mEv X call 1 t_X5_load (mDrop t_X5_load 18) [some (mr 6 18), some (mi x1)] [] g else mEv X call 1 t_X5_load (mDrop t_X5_load 12) [some (mr 6 18), some (mi x1)] [] g := (mEv_4 _ _ _ _).trans rfl
theorem e_X5_load_18 {X : mX} {call : Nat → List mV → mG → mR} {g : mG} {x1 : Int32} : mEv X call 1 t_X5_load (mDrop t_X5_load 18) [some (mr 6 18), some (mi x1)] [] g = mEv X call 1 t_X5_load (mDrop t_X5_load 23) [some (mr 6 18), some (mi x1)] [] (mU g 6 (mP (g 6) 18 7 0)) := (mEv_3 _ _ _ _).trans rfl
theorem e_X5_load_23 {X : mX} {call : Nat → List mV → mG → mR} {g : mG} {x1 : Int32} : mEv X call 1 t_X5_load (mDrop t_X5_load 23) [some (mr 6 18), some (mi x1)] [] g = if (1 : Int32) &&& 1 = 1 then mEv X call 1 t_X5_load (mDrop t_X5_load 28) [some (mr 6 18), some (mi x1)] [] (mU g 6 (mP (g 6) 18 8 1)) else none := (mEv_3 _ _ _ _).trans rfl
theorem e_X5_load_28 {X : mX} {call : Nat → List mV → mG → mR} {g : mG} {x1 : Int32} : mEv X call 1 t_X5_load (mDrop t_X5_load 28) [some (mr 6 18), some (mi x1)] [] g = mAns (mEv X call 1 t_X5_load) (mDrop t_X5_load 36) [some (mr 6 18), some (mi x1)] [] (call 70 [mr 5 16, mi x1] g) := (mEv_4 _ _ _ _).trans rfl
theorem e_X5_load_36 {X : mX} {call : Nat → List mV → mG → mR} {g : mG} {x1 : Int32} : mEv X call 1 t_X5_load (mDrop t_X5_load 36) [some (mr 6 18), some (mi x1)] [] g = if (g 5 16 9) = 0 then mEv X call 1 t_X5_load (mDrop t_X5_load 53) [some (mr 6 18), some (mi x1)] [] g else mEv X call 1 t_X5_load (mDrop t_X5_load 46) [some (mr 6 18), some (mi x1)] [] g := (mEv_4 _ _ _ _).trans rfl
theorem e_X5_load_53 {X : mX} {call : Nat → List mV → mG → mR} {g : mG} {x1 : Int32} : mEv X call 1 t_X5_load (mDrop t_X5_load 53) [some (mr 6 18), some (mi x1)] [] g = mAns (mEv X call 1 t_X5_load) (mDrop t_X5_load 70) [some (mr 6 18), some (mi x1)] [] (call 52 [mr 0 1, mr 5 1] g) := (mEv_7 _ _ _ _).trans rfl
theorem e_X5_load_70 {X : mX} {call : Nat → List mV → mG → mR} {g : mG} {x1 : Int32} : mEv X call 1 t_X5_load (mDrop t_X5_load 70) [some (mr 6 18), some (mi x1)] [] g = mAns (mEv X call 1 t_X5_load) (mDrop t_X5_load 77) [some (mr 6 18), some (mi x1)] [] (call 1 [mr 0 0] g) := (mEv_3 _ _ _ _).trans rfl
theorem e_X5_load_77 {X : mX} {call : Nat → List mV → mG → mR} {g : mG} {x1 : Int32} : mEv X call 1 t_X5_load (mDrop t_X5_load 77) [some (mr 6 18), some (mi x1)] [] g = mAns (mEv X call 1 t_X5_load) (mDrop t_X5_load 91) [some (mr 6 18), some (mi x1)] [] (call 131 [mr 6 18, mi (g 0 1 0)] g) := (mEv_6 _ _ _ _).trans rfl
theorem e_X5_load_91 {X : mX} {call : Nat → List mV → mG → mR} {g : mG} {x1 s0 : Int32} : mEv X call 1 t_X5_load (mDrop t_X5_load 91) [some (mr 6 18), some (mi x1)] [mi s0] g = some (some (mi s0), g) := (mEv_1 _ _ _ _).trans rfl
theorem e_X5_load_46 {X : mX} {call : Nat → List mV → mG → mR} {g : mG} {x1 : Int32} : mEv X call 1 t_X5_load (mDrop t_X5_load 46) [some (mr 6 18), some (mi x1)] [] g = mAns (mEv X call 1 t_X5_load) (mDrop t_X5_load 52) [some (mr 6 18), some (mi x1)] [] (call 132 [mr 6 18, mi 9] g) := (mEv_3 _ _ _ _).trans rfl
theorem e_X5_load_52 {X : mX} {call : Nat → List mV → mG → mR} {g : mG} {x1 s0 : Int32} : mEv X call 1 t_X5_load (mDrop t_X5_load 52) [some (mr 6 18), some (mi x1)] [mi s0] g = some (some (mi s0), g) := (mEv_1 _ _ _ _).trans rfl
noncomputable def P_X5_load (g : mG) (x1 : Int32) : (Int32 × mG) := (if x1 < 0 then (J_X5_load_12 g) else (if x1 ≤ (g 6 18 7) then (mBd (α := mG) (mU (mU (mU g 6 (mP (g 6) 18 7 0)) 6 (mP ((mU g 6 (mP (g 6) 18 7 0)) 6) 18 8 1)) 5 (P_X3_readText ((mU (mU g 6 (mP (g 6) 18 7 0)) 6 (mP ((mU g 6 (mP (g 6) 18 7 0)) 6) 18 8 1)) 5) x1)) (fun g1 => (if (g1 5 16 9) = 0 then (mBd (α := mG) (mU g1 0 (P_X2_takeFrom (g1 0) (g1 5))) (fun g2 => (mBd (α := mG) (mU g2 0 (P_X0_beginAnew (g2 0))) (fun g3 => (mBd (α := Int32 × mG) (P_X5_answer g3 (g3 0 1 0)) (fun p4 => (p4.1, p4.2))))))) else (mBd (α := Int32 × mG) (P_X5_refuse g1 9) (fun p5 => (p5.1, p5.2)))))) else (J_X5_load_12 g)))
theorem rr_X5_load (d : Nat) {X : mX} {g : mG} {x1 : Int32} : mCall mD X (d + 10) 99 [mr 6 18, mi x1] g = (wG) (P_X5_load g x1) := by
  refine Eq.trans (mCall_eq (d := d + 9) rfl) ?_
  show mEv X (mCall mD X (d + 9)) 1 t_X5_load (mDrop t_X5_load 0) [some (mr 6 18), some (mi x1)] [] g = _
  refine Eq.trans (e_X5_load_0) ?_
  refine mw_ite (fun h8 => ?_) (fun h8 => ?_)
  · exact rj_X5_load_12 d
  · refine Eq.trans (e_X5_load_4) ?_
    refine mw_ite (fun h7 => ?_) (fun h7 => ?_)
    · refine Eq.trans (e_X5_load_18) ?_
      refine Eq.trans (e_X5_load_23) ?_
      refine Eq.trans (if_pos (by decide)) ?_
      refine Eq.trans (e_X5_load_28) ?_
      refine mw_gV (rr_X3_readText_at d) (fun g1 => ?_)
      refine Eq.trans (e_X5_load_36) ?_
      refine mw_ite (fun h6 => ?_) (fun h6 => ?_)
      · refine Eq.trans (e_X5_load_53) ?_
        refine mw_gV (rr_X2_takeFrom_at (d + 6) (by decide)) (fun g2 => ?_)
        refine Eq.trans (e_X5_load_70) ?_
        refine mw_gV (rr_X0_beginAnew_at (d + 6)) (fun g3 => ?_)
        refine Eq.trans (e_X5_load_77) ?_
        refine mw_gW (rr_X5_answer (d + 8)) (fun p4 => ?_)
        refine Eq.trans (e_X5_load_91) ?_
        all_goals rfl
      · refine Eq.trans (e_X5_load_46) ?_
        refine mw_gW (rr_X5_refuse (d + 8)) (fun p5 => ?_)
        refine Eq.trans (e_X5_load_52) ?_
        all_goals rfl
    · exact rj_X5_load_12 d
theorem e_X5_fault_0 {X : mX} {call : Nat → List mV → mG → mR} {g : mG} {x1 : Int32} : mEv X call 1 t_X5_fault (mDrop t_X5_fault 0) [some (mr 6 18), some (mi x1)] [] g = if ((g 6 18 8) &&& 1) = 0 then mEv X call 1 t_X5_fault (mDrop t_X5_fault 7) [some (mr 6 18), some (mi x1)] [] g else mEv X call 1 t_X5_fault (mDrop t_X5_fault 9) [some (mr 6 18), some (mi x1)] [] g := (mEv_3 _ _ _ _).trans rfl
theorem e_X5_fault_7 {X : mX} {call : Nat → List mV → mG → mR} {g : mG} {x1 : Int32} : mEv X call 1 t_X5_fault (mDrop t_X5_fault 7) [some (mr 6 18), some (mi x1)] [] g = some (some (mi (-1)), g) := (mEv_2 _ _ _ _).trans rfl
theorem e_X5_fault_9 {X : mX} {call : Nat → List mV → mG → mR} {g : mG} {x1 : Int32} : mEv X call 1 t_X5_fault (mDrop t_X5_fault 9) [some (mr 6 18), some (mi x1)] [] g = if x1 = 0 then mEv X call 1 t_X5_fault (mDrop t_X5_fault 36) [some (mr 6 18), some (mi x1)] [] g else (if x1 = 1 then mEv X call 1 t_X5_fault (mDrop t_X5_fault 44) [some (mr 6 18), some (mi x1)] [] g else (if x1 = 2 then mEv X call 1 t_X5_fault (mDrop t_X5_fault 52) [some (mr 6 18), some (mi x1)] [] g else (mEv X call 1 t_X5_fault (mDrop t_X5_fault 60) [some (mr 6 18), some (mi x1)] [] g))) := (mEv_2 _ _ _ _).trans rfl
theorem e_X5_fault_60 {X : mX} {call : Nat → List mV → mG → mR} {g : mG} {x1 : Int32} : mEv X call 1 t_X5_fault (mDrop t_X5_fault 60) [some (mr 6 18), some (mi x1)] [] g = some (some (mi (-1)), g) := (mEv_2 _ _ _ _).trans rfl
theorem e_X5_fault_36 {X : mX} {call : Nat → List mV → mG → mR} {g : mG} {x1 : Int32} : mEv X call 1 t_X5_fault (mDrop t_X5_fault 36) [some (mr 6 18), some (mi x1)] [] g = some (some (mi (g 5 16 9)), g) := (mEv_4 _ _ _ _).trans rfl
theorem e_X5_fault_44 {X : mX} {call : Nat → List mV → mG → mR} {g : mG} {x1 : Int32} : mEv X call 1 t_X5_fault (mDrop t_X5_fault 44) [some (mr 6 18), some (mi x1)] [] g = some (some (mi (g 5 16 10)), g) := (mEv_4 _ _ _ _).trans rfl
theorem e_X5_fault_52 {X : mX} {call : Nat → List mV → mG → mR} {g : mG} {x1 : Int32} : mEv X call 1 t_X5_fault (mDrop t_X5_fault 52) [some (mr 6 18), some (mi x1)] [] g = some (some (mi (g 5 16 11)), g) := (mEv_4 _ _ _ _).trans rfl
noncomputable def P_X5_fault (g : mG) (x1 : Int32) : (Int32) := (if ((g 6 18 8) &&& 1) = 0 then (-1) else (if x1 = 0 then (g 5 16 9) else (if x1 = 1 then (g 5 16 10) else (if x1 = 2 then (g 5 16 11) else (-1)))))
theorem rr_X5_fault (d : Nat) {X : mX} {g : mG} {x1 : Int32} : mCall mD X (d + 1) 100 [mr 6 18, mi x1] g = (wN g) (P_X5_fault g x1) := by
  refine Eq.trans (mCall_eq (d := d + 0) rfl) ?_
  show mEv X (mCall mD X (d + 0)) 1 t_X5_fault (mDrop t_X5_fault 0) [some (mr 6 18), some (mi x1)] [] g = _
  refine Eq.trans (e_X5_fault_0) ?_
  refine mw_ite (fun h1 => ?_) (fun h1 => ?_)
  · refine Eq.trans (e_X5_fault_7) ?_
    all_goals rfl
  · refine Eq.trans (e_X5_fault_9) ?_
    refine mw_ite (fun _ => ?_) (fun _ => ?_)
    · refine Eq.trans (e_X5_fault_36) ?_
      all_goals rfl
    · refine mw_ite (fun _ => ?_) (fun _ => ?_)
      · refine Eq.trans (e_X5_fault_44) ?_
        all_goals rfl
      · refine mw_ite (fun _ => ?_) (fun _ => ?_)
        · refine Eq.trans (e_X5_fault_52) ?_
          all_goals rfl
        · refine Eq.trans (e_X5_fault_60) ?_
          all_goals rfl
theorem e_X5_many_0 {X : mX} {call : Nat → List mV → mG → mR} {g : mG} {x1 : Int32} : mEv X call 1 t_X5_many (mDrop t_X5_many 0) [some (mr 6 18), some (mi x1)] [] g = if x1 = 0 then mEv X call 1 t_X5_many (mDrop t_X5_many 64) [some (mr 6 18), some (mi x1)] [] g else (if x1 = 1 then mEv X call 1 t_X5_many (mDrop t_X5_many 79) [some (mr 6 18), some (mi x1)] [] g else (if x1 = 2 then mEv X call 1 t_X5_many (mDrop t_X5_many 91) [some (mr 6 18), some (mi x1)] [] g else (if x1 = 3 then mEv X call 1 t_X5_many (mDrop t_X5_many 106) [some (mr 6 18), some (mi x1)] [] g else (if x1 = 4 then mEv X call 1 t_X5_many (mDrop t_X5_many 121) [some (mr 6 18), some (mi x1)] [] g else (if x1 = 5 then mEv X call 1 t_X5_many (mDrop t_X5_many 133) [some (mr 6 18), some (mi x1)] [] g else (if x1 = 6 then mEv X call 1 t_X5_many (mDrop t_X5_many 153) [some (mr 6 18), some (mi x1)] [] g else (if x1 = 7 then mEv X call 1 t_X5_many (mDrop t_X5_many 165) [some (mr 6 18), some (mi x1)] [] g else (if x1 = 8 then mEv X call 1 t_X5_many (mDrop t_X5_many 177) [some (mr 6 18), some (mi x1)] [] g else (if x1 = 9 then mEv X call 1 t_X5_many (mDrop t_X5_many 189) [some (mr 6 18), some (mi x1)] [] g else (if x1 = 10 then mEv X call 1 t_X5_many (mDrop t_X5_many 201) [some (mr 6 18), some (mi x1)] [] g else (if x1 = 11 then mEv X call 1 t_X5_many (mDrop t_X5_many 213) [some (mr 6 18), some (mi x1)] [] g else (mEv X call 1 t_X5_many (mDrop t_X5_many 222) [some (mr 6 18), some (mi x1)] [] g)))))))))))) := (mEv_2 _ _ _ _).trans rfl
theorem e_X5_many_222 {X : mX} {call : Nat → List mV → mG → mR} {g : mG} {x1 : Int32} : mEv X call 1 t_X5_many (mDrop t_X5_many 222) [some (mr 6 18), some (mi x1)] [] g = mAns (mEv X call 1 t_X5_many) (mDrop t_X5_many 227) [some (mr 6 18), some (mi x1)] [] (call 132 [mr 6 18, mi 1] g) := (mEv_3 _ _ _ _).trans rfl
theorem e_X5_many_227 {X : mX} {call : Nat → List mV → mG → mR} {g : mG} {x1 s0 : Int32} : mEv X call 1 t_X5_many (mDrop t_X5_many 227) [some (mr 6 18), some (mi x1)] [mi s0] g = some (some (mi s0), g) := (mEv_1 _ _ _ _).trans rfl
theorem e_X5_many_64 {X : mX} {call : Nat → List mV → mG → mR} {g : mG} {x1 : Int32} : mEv X call 1 t_X5_many (mDrop t_X5_many 64) [some (mr 6 18), some (mi x1)] [] g = mAns (mEv X call 1 t_X5_many) (mDrop t_X5_many 78) [some (mr 6 18), some (mi x1)] [] (call 131 [mr 6 18, mi (g 0 1 0)] g) := (mEv_6 _ _ _ _).trans rfl
theorem e_X5_many_78 {X : mX} {call : Nat → List mV → mG → mR} {g : mG} {x1 s0 : Int32} : mEv X call 1 t_X5_many (mDrop t_X5_many 78) [some (mr 6 18), some (mi x1)] [mi s0] g = some (some (mi s0), g) := (mEv_1 _ _ _ _).trans rfl
theorem e_X5_many_79 {X : mX} {call : Nat → List mV → mG → mR} {g : mG} {x1 : Int32} : mEv X call 1 t_X5_many (mDrop t_X5_many 79) [some (mr 6 18), some (mi x1)] [] g = mAns (mEv X call 1 t_X5_many) (mDrop t_X5_many 90) [some (mr 6 18), some (mi x1)] [] (call 131 [mr 6 18, mi (g 0 0 12)] g) := (mEv_5 _ _ _ _).trans rfl
theorem e_X5_many_90 {X : mX} {call : Nat → List mV → mG → mR} {g : mG} {x1 s0 : Int32} : mEv X call 1 t_X5_many (mDrop t_X5_many 90) [some (mr 6 18), some (mi x1)] [mi s0] g = some (some (mi s0), g) := (mEv_1 _ _ _ _).trans rfl
theorem e_X5_many_91 {X : mX} {call : Nat → List mV → mG → mR} {g : mG} {x1 : Int32} : mEv X call 1 t_X5_many (mDrop t_X5_many 91) [some (mr 6 18), some (mi x1)] [] g = mAns (mEv X call 1 t_X5_many) (mDrop t_X5_many 105) [some (mr 6 18), some (mi x1)] [] (call 131 [mr 6 18, mi (g 0 1 1)] g) := (mEv_6 _ _ _ _).trans rfl
theorem e_X5_many_105 {X : mX} {call : Nat → List mV → mG → mR} {g : mG} {x1 s0 : Int32} : mEv X call 1 t_X5_many (mDrop t_X5_many 105) [some (mr 6 18), some (mi x1)] [mi s0] g = some (some (mi s0), g) := (mEv_1 _ _ _ _).trans rfl
theorem e_X5_many_106 {X : mX} {call : Nat → List mV → mG → mR} {g : mG} {x1 : Int32} : mEv X call 1 t_X5_many (mDrop t_X5_many 106) [some (mr 6 18), some (mi x1)] [] g = mAns (mEv X call 1 t_X5_many) (mDrop t_X5_many 120) [some (mr 6 18), some (mi x1)] [] (call 131 [mr 6 18, mi (g 0 1 2)] g) := (mEv_6 _ _ _ _).trans rfl
theorem e_X5_many_120 {X : mX} {call : Nat → List mV → mG → mR} {g : mG} {x1 s0 : Int32} : mEv X call 1 t_X5_many (mDrop t_X5_many 120) [some (mr 6 18), some (mi x1)] [mi s0] g = some (some (mi s0), g) := (mEv_1 _ _ _ _).trans rfl
theorem e_X5_many_121 {X : mX} {call : Nat → List mV → mG → mR} {g : mG} {x1 : Int32} : mEv X call 1 t_X5_many (mDrop t_X5_many 121) [some (mr 6 18), some (mi x1)] [] g = mAns (mEv X call 1 t_X5_many) (mDrop t_X5_many 132) [some (mr 6 18), some (mi x1)] [] (call 131 [mr 6 18, mi (g 0 0 13)] g) := (mEv_5 _ _ _ _).trans rfl
theorem e_X5_many_132 {X : mX} {call : Nat → List mV → mG → mR} {g : mG} {x1 s0 : Int32} : mEv X call 1 t_X5_many (mDrop t_X5_many 132) [some (mr 6 18), some (mi x1)] [mi s0] g = some (some (mi s0), g) := (mEv_1 _ _ _ _).trans rfl
theorem e_X5_many_133 {X : mX} {call : Nat → List mV → mG → mR} {g : mG} {x1 : Int32} : mEv X call 1 t_X5_many (mDrop t_X5_many 133) [some (mr 6 18), some (mi x1)] [] g = if ((g 0 0 15) &&& 1) = 0 then mEv X call 1 t_X5_many (mDrop t_X5_many 148) [some (mr 6 18), some (mi x1)] [mr 6 18] g else mEv X call 1 t_X5_many (mDrop t_X5_many 144) [some (mr 6 18), some (mi x1)] [mr 6 18] g := (mEv_5 _ _ _ _).trans rfl
theorem e_X5_many_148 {X : mX} {call : Nat → List mV → mG → mR} {g : mG} {x1 : Int32} : mEv X call 1 t_X5_many (mDrop t_X5_many 148) [some (mr 6 18), some (mi x1)] [mr 6 18] g = mEv X call 1 t_X5_many (mDrop t_X5_many 149) [some (mr 6 18), some (mi x1)] [mi 0, mr 6 18] g := (mEv_1 _ _ _ _).trans rfl
theorem e_X5_many_149 {X : mX} {call : Nat → List mV → mG → mR} {g : mG} {x1 s1 : Int32} : mEv X call 1 t_X5_many (mDrop t_X5_many 149) [some (mr 6 18), some (mi x1)] [mi s1, mr 6 18] g = mAns (mEv X call 1 t_X5_many) (mDrop t_X5_many 152) [some (mr 6 18), some (mi x1)] [] (call 131 [mr 6 18, mi s1] g) := (mEv_1 _ _ _ _).trans rfl
theorem e_X5_many_152 {X : mX} {call : Nat → List mV → mG → mR} {g : mG} {x1 s0 : Int32} : mEv X call 1 t_X5_many (mDrop t_X5_many 152) [some (mr 6 18), some (mi x1)] [mi s0] g = some (some (mi s0), g) := (mEv_1 _ _ _ _).trans rfl
noncomputable def J_X5_many_149 (g : mG) (s1 : Int32) : (Int32 × mG) := (mBd (α := Int32 × mG) (P_X5_answer g s1) (fun p1 => (p1.1, p1.2)))
theorem rj_X5_many_149 (d : Nat) {X : mX} {g : mG} {x1 s1 : Int32} : mEv X (mCall mD X (d + 1)) 1 t_X5_many (mDrop t_X5_many 149) [some (mr 6 18), some (mi x1)] [mi s1, mr 6 18] g = (wG) (J_X5_many_149 g s1) := by
  refine Eq.trans (e_X5_many_149) ?_
  refine mw_gW (rr_X5_answer d) (fun p1 => ?_)
  refine Eq.trans (e_X5_many_152) ?_
  all_goals rfl
theorem e_X5_many_144 {X : mX} {call : Nat → List mV → mG → mR} {g : mG} {x1 : Int32} : mEv X call 1 t_X5_many (mDrop t_X5_many 144) [some (mr 6 18), some (mi x1)] [mr 6 18] g = mEv X call 1 t_X5_many (mDrop t_X5_many 149) [some (mr 6 18), some (mi x1)] [mi 1, mr 6 18] g := (mEv_2 _ _ _ _).trans rfl
theorem e_X5_many_153 {X : mX} {call : Nat → List mV → mG → mR} {g : mG} {x1 : Int32} : mEv X call 1 t_X5_many (mDrop t_X5_many 153) [some (mr 6 18), some (mi x1)] [] g = mAns (mEv X call 1 t_X5_many) (mDrop t_X5_many 164) [some (mr 6 18), some (mi x1)] [] (call 131 [mr 6 18, mi (g 0 0 10)] g) := (mEv_5 _ _ _ _).trans rfl
theorem e_X5_many_164 {X : mX} {call : Nat → List mV → mG → mR} {g : mG} {x1 s0 : Int32} : mEv X call 1 t_X5_many (mDrop t_X5_many 164) [some (mr 6 18), some (mi x1)] [mi s0] g = some (some (mi s0), g) := (mEv_1 _ _ _ _).trans rfl
theorem e_X5_many_165 {X : mX} {call : Nat → List mV → mG → mR} {g : mG} {x1 : Int32} : mEv X call 1 t_X5_many (mDrop t_X5_many 165) [some (mr 6 18), some (mi x1)] [] g = mAns (mEv X call 1 t_X5_many) (mDrop t_X5_many 176) [some (mr 6 18), some (mi x1)] [] (call 131 [mr 6 18, mi (g 0 0 16)] g) := (mEv_5 _ _ _ _).trans rfl
theorem e_X5_many_176 {X : mX} {call : Nat → List mV → mG → mR} {g : mG} {x1 s0 : Int32} : mEv X call 1 t_X5_many (mDrop t_X5_many 176) [some (mr 6 18), some (mi x1)] [mi s0] g = some (some (mi s0), g) := (mEv_1 _ _ _ _).trans rfl
theorem e_X5_many_177 {X : mX} {call : Nat → List mV → mG → mR} {g : mG} {x1 : Int32} : mEv X call 1 t_X5_many (mDrop t_X5_many 177) [some (mr 6 18), some (mi x1)] [] g = mAns (mEv X call 1 t_X5_many) (mDrop t_X5_many 188) [some (mr 6 18), some (mi x1)] [] (call 131 [mr 6 18, mi (g 0 0 17)] g) := (mEv_5 _ _ _ _).trans rfl
theorem e_X5_many_188 {X : mX} {call : Nat → List mV → mG → mR} {g : mG} {x1 s0 : Int32} : mEv X call 1 t_X5_many (mDrop t_X5_many 188) [some (mr 6 18), some (mi x1)] [mi s0] g = some (some (mi s0), g) := (mEv_1 _ _ _ _).trans rfl
theorem e_X5_many_189 {X : mX} {call : Nat → List mV → mG → mR} {g : mG} {x1 : Int32} : mEv X call 1 t_X5_many (mDrop t_X5_many 189) [some (mr 6 18), some (mi x1)] [] g = mAns (mEv X call 1 t_X5_many) (mDrop t_X5_many 200) [some (mr 6 18), some (mi x1)] [] (call 131 [mr 6 18, mi (g 0 0 18)] g) := (mEv_5 _ _ _ _).trans rfl
theorem e_X5_many_200 {X : mX} {call : Nat → List mV → mG → mR} {g : mG} {x1 s0 : Int32} : mEv X call 1 t_X5_many (mDrop t_X5_many 200) [some (mr 6 18), some (mi x1)] [mi s0] g = some (some (mi s0), g) := (mEv_1 _ _ _ _).trans rfl
theorem e_X5_many_201 {X : mX} {call : Nat → List mV → mG → mR} {g : mG} {x1 : Int32} : mEv X call 1 t_X5_many (mDrop t_X5_many 201) [some (mr 6 18), some (mi x1)] [] g = mAns (mEv X call 1 t_X5_many) (mDrop t_X5_many 212) [some (mr 6 18), some (mi x1)] [] (call 131 [mr 6 18, mi (g 0 0 11)] g) := (mEv_5 _ _ _ _).trans rfl
theorem e_X5_many_212 {X : mX} {call : Nat → List mV → mG → mR} {g : mG} {x1 s0 : Int32} : mEv X call 1 t_X5_many (mDrop t_X5_many 212) [some (mr 6 18), some (mi x1)] [mi s0] g = some (some (mi s0), g) := (mEv_1 _ _ _ _).trans rfl
theorem e_X5_many_213 {X : mX} {call : Nat → List mV → mG → mR} {g : mG} {x1 : Int32} : mEv X call 1 t_X5_many (mDrop t_X5_many 213) [some (mr 6 18), some (mi x1)] [] g = mAns (mEv X call 1 t_X5_many) (mDrop t_X5_many 221) [some (mr 6 18), some (mi x1)] [] (call 131 [mr 6 18, mi (g 6 18 6)] g) := (mEv_4 _ _ _ _).trans rfl
theorem e_X5_many_221 {X : mX} {call : Nat → List mV → mG → mR} {g : mG} {x1 s0 : Int32} : mEv X call 1 t_X5_many (mDrop t_X5_many 221) [some (mr 6 18), some (mi x1)] [mi s0] g = some (some (mi s0), g) := (mEv_1 _ _ _ _).trans rfl
noncomputable def P_X5_many (g : mG) (x1 : Int32) : (Int32 × mG) := (if x1 = 0 then (mBd (α := Int32 × mG) (P_X5_answer g (g 0 1 0)) (fun p2 => (p2.1, p2.2))) else (if x1 = 1 then (mBd (α := Int32 × mG) (P_X5_answer g (g 0 0 12)) (fun p3 => (p3.1, p3.2))) else (if x1 = 2 then (mBd (α := Int32 × mG) (P_X5_answer g (g 0 1 1)) (fun p4 => (p4.1, p4.2))) else (if x1 = 3 then (mBd (α := Int32 × mG) (P_X5_answer g (g 0 1 2)) (fun p5 => (p5.1, p5.2))) else (if x1 = 4 then (mBd (α := Int32 × mG) (P_X5_answer g (g 0 0 13)) (fun p6 => (p6.1, p6.2))) else (if x1 = 5 then (if ((g 0 0 15) &&& 1) = 0 then (J_X5_many_149 g 0) else (J_X5_many_149 g 1)) else (if x1 = 6 then (mBd (α := Int32 × mG) (P_X5_answer g (g 0 0 10)) (fun p8 => (p8.1, p8.2))) else (if x1 = 7 then (mBd (α := Int32 × mG) (P_X5_answer g (g 0 0 16)) (fun p9 => (p9.1, p9.2))) else (if x1 = 8 then (mBd (α := Int32 × mG) (P_X5_answer g (g 0 0 17)) (fun p10 => (p10.1, p10.2))) else (if x1 = 9 then (mBd (α := Int32 × mG) (P_X5_answer g (g 0 0 18)) (fun p11 => (p11.1, p11.2))) else (if x1 = 10 then (mBd (α := Int32 × mG) (P_X5_answer g (g 0 0 11)) (fun p12 => (p12.1, p12.2))) else (if x1 = 11 then (mBd (α := Int32 × mG) (P_X5_answer g (g 6 18 6)) (fun p13 => (p13.1, p13.2))) else (mBd (α := Int32 × mG) (P_X5_refuse g 1) (fun p1 => (p1.1, p1.2)))))))))))))))
theorem rr_X5_many (d : Nat) {X : mX} {g : mG} {x1 : Int32} : mCall mD X (d + 2) 101 [mr 6 18, mi x1] g = (wG) (P_X5_many g x1) := by
  refine Eq.trans (mCall_eq (d := d + 1) rfl) ?_
  show mEv X (mCall mD X (d + 1)) 1 t_X5_many (mDrop t_X5_many 0) [some (mr 6 18), some (mi x1)] [] g = _
  refine Eq.trans (e_X5_many_0) ?_
  refine mw_ite (fun _ => ?_) (fun _ => ?_)
  · refine Eq.trans (e_X5_many_64) ?_
    refine mw_gW (rr_X5_answer d) (fun p2 => ?_)
    refine Eq.trans (e_X5_many_78) ?_
    all_goals rfl
  · refine mw_ite (fun _ => ?_) (fun _ => ?_)
    · refine Eq.trans (e_X5_many_79) ?_
      refine mw_gW (rr_X5_answer d) (fun p3 => ?_)
      refine Eq.trans (e_X5_many_90) ?_
      all_goals rfl
    · refine mw_ite (fun _ => ?_) (fun _ => ?_)
      · refine Eq.trans (e_X5_many_91) ?_
        refine mw_gW (rr_X5_answer d) (fun p4 => ?_)
        refine Eq.trans (e_X5_many_105) ?_
        all_goals rfl
      · refine mw_ite (fun _ => ?_) (fun _ => ?_)
        · refine Eq.trans (e_X5_many_106) ?_
          refine mw_gW (rr_X5_answer d) (fun p5 => ?_)
          refine Eq.trans (e_X5_many_120) ?_
          all_goals rfl
        · refine mw_ite (fun _ => ?_) (fun _ => ?_)
          · refine Eq.trans (e_X5_many_121) ?_
            refine mw_gW (rr_X5_answer d) (fun p6 => ?_)
            refine Eq.trans (e_X5_many_132) ?_
            all_goals rfl
          · refine mw_ite (fun _ => ?_) (fun _ => ?_)
            · refine Eq.trans (e_X5_many_133) ?_
              refine mw_ite (fun h7 => ?_) (fun h7 => ?_)
              · refine Eq.trans (e_X5_many_148) ?_
                exact rj_X5_many_149 d
              · refine Eq.trans (e_X5_many_144) ?_
                exact rj_X5_many_149 d
            · refine mw_ite (fun _ => ?_) (fun _ => ?_)
              · refine Eq.trans (e_X5_many_153) ?_
                refine mw_gW (rr_X5_answer d) (fun p8 => ?_)
                refine Eq.trans (e_X5_many_164) ?_
                all_goals rfl
              · refine mw_ite (fun _ => ?_) (fun _ => ?_)
                · refine Eq.trans (e_X5_many_165) ?_
                  refine mw_gW (rr_X5_answer d) (fun p9 => ?_)
                  refine Eq.trans (e_X5_many_176) ?_
                  all_goals rfl
                · refine mw_ite (fun _ => ?_) (fun _ => ?_)
                  · refine Eq.trans (e_X5_many_177) ?_
                    refine mw_gW (rr_X5_answer d) (fun p10 => ?_)
                    refine Eq.trans (e_X5_many_188) ?_
                    all_goals rfl
                  · refine mw_ite (fun _ => ?_) (fun _ => ?_)
                    · refine Eq.trans (e_X5_many_189) ?_
                      refine mw_gW (rr_X5_answer d) (fun p11 => ?_)
                      refine Eq.trans (e_X5_many_200) ?_
                      all_goals rfl
                    · refine mw_ite (fun _ => ?_) (fun _ => ?_)
                      · refine Eq.trans (e_X5_many_201) ?_
                        refine mw_gW (rr_X5_answer d) (fun p12 => ?_)
                        refine Eq.trans (e_X5_many_212) ?_
                        all_goals rfl
                      · refine mw_ite (fun _ => ?_) (fun _ => ?_)
                        · refine Eq.trans (e_X5_many_213) ?_
                          refine mw_gW (rr_X5_answer d) (fun p13 => ?_)
                          refine Eq.trans (e_X5_many_221) ?_
                          all_goals rfl
                        · refine Eq.trans (e_X5_many_222) ?_
                          refine mw_gW (rr_X5_refuse d) (fun p1 => ?_)
                          refine Eq.trans (e_X5_many_227) ?_
                          all_goals rfl
theorem e_X5_ring_0 {X : mX} {call : Nat → List mV → mG → mR} {g : mG} {x1 x2 : Int32} : mEv X call 1 t_X5_ring (mDrop t_X5_ring 0) [some (mr 6 18), some (mi x1), some (mi x2)] [] g = if x2 < 0 then mEv X call 1 t_X5_ring (mDrop t_X5_ring 10) [some (mr 6 18), some (mi x1), some (mi x2)] [] g else mEv X call 1 t_X5_ring (mDrop t_X5_ring 4) [some (mr 6 18), some (mi x1), some (mi x2)] [] g := (mEv_2 _ _ _ _).trans rfl
theorem e_X5_ring_10 {X : mX} {call : Nat → List mV → mG → mR} {g : mG} {x1 x2 : Int32} : mEv X call 1 t_X5_ring (mDrop t_X5_ring 10) [some (mr 6 18), some (mi x1), some (mi x2)] [] g = mAns (mEv X call 1 t_X5_ring) (mDrop t_X5_ring 15) [some (mr 6 18), some (mi x1), some (mi x2)] [] (call 132 [mr 6 18, mi 1] g) := (mEv_3 _ _ _ _).trans rfl
theorem e_X5_ring_15 {X : mX} {call : Nat → List mV → mG → mR} {g : mG} {x1 x2 s0 : Int32} : mEv X call 1 t_X5_ring (mDrop t_X5_ring 15) [some (mr 6 18), some (mi x1), some (mi x2)] [mi s0] g = some (some (mi s0), g) := (mEv_1 _ _ _ _).trans rfl
noncomputable def J_X5_ring_10 (g : mG) : (Int32 × mG) := (mBd (α := Int32 × mG) (P_X5_refuse g 1) (fun p1 => (p1.1, p1.2)))
theorem rj_X5_ring_10 (d : Nat) {X : mX} {g : mG} {x1 x2 : Int32} : mEv X (mCall mD X (d + 5)) 1 t_X5_ring (mDrop t_X5_ring 10) [some (mr 6 18), some (mi x1), some (mi x2)] [] g = (wG) (J_X5_ring_10 g) := by
  refine Eq.trans (e_X5_ring_10) ?_
  refine mw_gW (rr_X5_refuse (d + 4)) (fun p1 => ?_)
  refine Eq.trans (e_X5_ring_15) ?_
  all_goals rfl
theorem e_X5_ring_4 {X : mX} {call : Nat → List mV → mG → mR} {g : mG} {x1 x2 : Int32} : mEv X call 1 t_X5_ring (mDrop t_X5_ring 4) [some (mr 6 18), some (mi x1), some (mi x2)] [] g = if x2 ≤ 9 then mEv X call 1 t_X5_ring (mDrop t_X5_ring 16) [some (mr 6 18), some (mi x1), some (mi x2)] [] g else mEv X call 1 t_X5_ring (mDrop t_X5_ring 10) [some (mr 6 18), some (mi x1), some (mi x2)] [] g := (mEv_3 _ _ _ _).trans rfl
theorem e_X5_ring_16 {X : mX} {call : Nat → List mV → mG → mR} {g : mG} {x1 x2 : Int32} : mEv X call 1 t_X5_ring (mDrop t_X5_ring 16) [some (mr 6 18), some (mi x1), some (mi x2)] [] g = if x1 < 0 then mEv X call 1 t_X5_ring (mDrop t_X5_ring 25) [some (mr 6 18), some (mi x1), some (mi x2)] [] g else mEv X call 1 t_X5_ring (mDrop t_X5_ring 20) [some (mr 6 18), some (mi x1), some (mi x2)] [] g := (mEv_2 _ _ _ _).trans rfl
theorem e_X5_ring_25 {X : mX} {call : Nat → List mV → mG → mR} {g : mG} {x1 x2 : Int32} : mEv X call 1 t_X5_ring (mDrop t_X5_ring 25) [some (mr 6 18), some (mi x1), some (mi x2)] [] g = mAns (mEv X call 1 t_X5_ring) (mDrop t_X5_ring 30) [some (mr 6 18), some (mi x1), some (mi x2)] [] (call 132 [mr 6 18, mi 2] g) := (mEv_3 _ _ _ _).trans rfl
theorem e_X5_ring_30 {X : mX} {call : Nat → List mV → mG → mR} {g : mG} {x1 x2 s0 : Int32} : mEv X call 1 t_X5_ring (mDrop t_X5_ring 30) [some (mr 6 18), some (mi x1), some (mi x2)] [mi s0] g = some (some (mi s0), g) := (mEv_1 _ _ _ _).trans rfl
noncomputable def J_X5_ring_25 (g : mG) : (Int32 × mG) := (mBd (α := Int32 × mG) (P_X5_refuse g 2) (fun p1 => (p1.1, p1.2)))
theorem rj_X5_ring_25 (d : Nat) {X : mX} {g : mG} {x1 x2 : Int32} : mEv X (mCall mD X (d + 5)) 1 t_X5_ring (mDrop t_X5_ring 25) [some (mr 6 18), some (mi x1), some (mi x2)] [] g = (wG) (J_X5_ring_25 g) := by
  refine Eq.trans (e_X5_ring_25) ?_
  refine mw_gW (rr_X5_refuse (d + 4)) (fun p1 => ?_)
  refine Eq.trans (e_X5_ring_30) ?_
  all_goals rfl
theorem e_X5_ring_20 {X : mX} {call : Nat → List mV → mG → mR} {g : mG} {x1 x2 : Int32} : mEv X call 1 t_X5_ring (mDrop t_X5_ring 20) [some (mr 6 18), some (mi x1), some (mi x2)] [] g = if x1 ≤ 1 then mEv X call 1 t_X5_ring (mDrop t_X5_ring 31) [some (mr 6 18), some (mi x1), some (mi x2)] [] g else mEv X call 1 t_X5_ring (mDrop t_X5_ring 25) [some (mr 6 18), some (mi x1), some (mi x2)] [] g := (mEv_3 _ _ _ _).trans rfl
theorem e_X5_ring_31 {X : mX} {call : Nat → List mV → mG → mR} {g : mG} {x1 x2 : Int32} : mEv X call 1 t_X5_ring (mDrop t_X5_ring 31) [some (mr 6 18), some (mi x1), some (mi x2)] [] g = if x1 = 0 then mEv X call 1 t_X5_ring (mDrop t_X5_ring 40) [some (mr 6 18), some (mi x1), some (mi x2)] [mr 0 0, mr 6 18] g else mEv X call 1 t_X5_ring (mDrop t_X5_ring 50) [some (mr 6 18), some (mi x1), some (mi x2)] [mr 0 0, mr 6 18] g := (mEv_5 _ _ _ _).trans rfl
theorem e_X5_ring_40 {X : mX} {call : Nat → List mV → mG → mR} {g : mG} {x1 x2 : Int32} : mEv X call 1 t_X5_ring (mDrop t_X5_ring 40) [some (mr 6 18), some (mi x1), some (mi x2)] [mr 0 0, mr 6 18] g = mEv X call 1 t_X5_ring (mDrop t_X5_ring 57) [some (mr 6 18), some (mi x1), some (mi x2)] [mr 0 8, mr 0 0, mr 6 18] g := (mEv_4 _ _ _ _).trans rfl
theorem e_X5_ring_57 {X : mX} {call : Nat → List mV → mG → mR} {g : mG} {x1 x2 : Int32} {q : Nat} (h_q : q = 8 ∨ q = 9) : mEv X call 1 t_X5_ring (mDrop t_X5_ring 57) [some (mr 6 18), some (mi x1), some (mi x2)] [mr 0 q, mr 0 0, mr 6 18] g = mAns (mEv X call 1 t_X5_ring) (mDrop t_X5_ring 61) [some (mr 6 18), some (mi x1), some (mi x2)] [mr 6 18] (call 3 [mr 0 0, mr 0 q, mi x2] g) := by
  rcases h_q with rfl | rfl <;> exact (mEv_2 _ _ _ _).trans rfl
theorem e_X5_ring_61 {X : mX} {call : Nat → List mV → mG → mR} {g : mG} {x1 x2 s1 : Int32} : mEv X call 1 t_X5_ring (mDrop t_X5_ring 61) [some (mr 6 18), some (mi x1), some (mi x2)] [mi s1, mr 6 18] g = mAns (mEv X call 1 t_X5_ring) (mDrop t_X5_ring 64) [some (mr 6 18), some (mi x1), some (mi x2)] [] (call 131 [mr 6 18, mi s1] g) := (mEv_1 _ _ _ _).trans rfl
theorem e_X5_ring_64 {X : mX} {call : Nat → List mV → mG → mR} {g : mG} {x1 x2 s0 : Int32} : mEv X call 1 t_X5_ring (mDrop t_X5_ring 64) [some (mr 6 18), some (mi x1), some (mi x2)] [mi s0] g = some (some (mi s0), g) := (mEv_1 _ _ _ _).trans rfl
noncomputable def J_X5_ring_57 (q : Nat) (g : mG) (x2 : Int32) : (Int32 × mG) := (mBd (α := Int32) (P_X0_tellRing q (g 0) x2) (fun v1 => (mBd (α := Int32 × mG) (P_X5_answer g v1) (fun p2 => (p2.1, p2.2)))))
theorem rj_X5_ring_57 (d : Nat) {X : mX} {g : mG} {q : Nat} (h_q : q = 8 ∨ q = 9) {x1 x2 : Int32} : mEv X (mCall mD X (d + 5)) 1 t_X5_ring (mDrop t_X5_ring 57) [some (mr 6 18), some (mi x1), some (mi x2)] [mr 0 q, mr 0 0, mr 6 18] g = (wG) (J_X5_ring_57 q g x2) := by
  refine Eq.trans (e_X5_ring_57 h_q) ?_
  refine mw_cI (rr_X0_tellRing_at d h_q) (fun v1 => ?_)
  refine Eq.trans (e_X5_ring_61) ?_
  refine mw_gW (rr_X5_answer (d + 4)) (fun p2 => ?_)
  refine Eq.trans (e_X5_ring_64) ?_
  all_goals rfl
theorem e_X5_ring_50 {X : mX} {call : Nat → List mV → mG → mR} {g : mG} {x1 x2 : Int32} : mEv X call 1 t_X5_ring (mDrop t_X5_ring 50) [some (mr 6 18), some (mi x1), some (mi x2)] [mr 0 0, mr 6 18] g = mEv X call 1 t_X5_ring (mDrop t_X5_ring 57) [some (mr 6 18), some (mi x1), some (mi x2)] [mr 0 9, mr 0 0, mr 6 18] g := (mEv_3 _ _ _ _).trans rfl
noncomputable def P_X5_ring (g : mG) (x1 : Int32) (x2 : Int32) : (Int32 × mG) := (if x2 < 0 then (J_X5_ring_10 g) else (if x2 ≤ 9 then (if x1 < 0 then (J_X5_ring_25 g) else (if x1 ≤ 1 then (if x1 = 0 then (J_X5_ring_57 8 g x2) else (J_X5_ring_57 9 g x2)) else (J_X5_ring_25 g))) else (J_X5_ring_10 g)))
theorem rr_X5_ring (d : Nat) {X : mX} {g : mG} {x1 x2 : Int32} : mCall mD X (d + 6) 102 [mr 6 18, mi x1, mi x2] g = (wG) (P_X5_ring g x1 x2) := by
  refine Eq.trans (mCall_eq (d := d + 5) rfl) ?_
  show mEv X (mCall mD X (d + 5)) 1 t_X5_ring (mDrop t_X5_ring 0) [some (mr 6 18), some (mi x1), some (mi x2)] [] g = _
  refine Eq.trans (e_X5_ring_0) ?_
  refine mw_ite (fun h5 => ?_) (fun h5 => ?_)
  · exact rj_X5_ring_10 d
  · refine Eq.trans (e_X5_ring_4) ?_
    refine mw_ite (fun h4 => ?_) (fun h4 => ?_)
    · refine Eq.trans (e_X5_ring_16) ?_
      refine mw_ite (fun h3 => ?_) (fun h3 => ?_)
      · exact rj_X5_ring_25 d
      · refine Eq.trans (e_X5_ring_20) ?_
        refine mw_ite (fun h2 => ?_) (fun h2 => ?_)
        · refine Eq.trans (e_X5_ring_31) ?_
          refine mw_ite (fun h1 => ?_) (fun h1 => ?_)
          · refine Eq.trans (e_X5_ring_40) ?_
            exact rj_X5_ring_57 d (Or.inl rfl)
          · refine Eq.trans (e_X5_ring_50) ?_
            exact rj_X5_ring_57 d (Or.inr rfl)
        · exact rj_X5_ring_25 d
    · exact rj_X5_ring_10 d
theorem e_X5_phase_0 {X : mX} {call : Nat → List mV → mG → mR} {g : mG} {x1 x2 : Int32} : mEv X call 1 t_X5_phase (mDrop t_X5_phase 0) [some (mr 6 18), some (mi x1), some (mi x2)] [] g = if x2 < 0 then mEv X call 1 t_X5_phase (mDrop t_X5_phase 10) [some (mr 6 18), some (mi x1), some (mi x2)] [] g else mEv X call 1 t_X5_phase (mDrop t_X5_phase 4) [some (mr 6 18), some (mi x1), some (mi x2)] [] g := (mEv_2 _ _ _ _).trans rfl
theorem e_X5_phase_10 {X : mX} {call : Nat → List mV → mG → mR} {g : mG} {x1 x2 : Int32} : mEv X call 1 t_X5_phase (mDrop t_X5_phase 10) [some (mr 6 18), some (mi x1), some (mi x2)] [] g = mAns (mEv X call 1 t_X5_phase) (mDrop t_X5_phase 15) [some (mr 6 18), some (mi x1), some (mi x2)] [] (call 132 [mr 6 18, mi 1] g) := (mEv_3 _ _ _ _).trans rfl
theorem e_X5_phase_15 {X : mX} {call : Nat → List mV → mG → mR} {g : mG} {x1 x2 s0 : Int32} : mEv X call 1 t_X5_phase (mDrop t_X5_phase 15) [some (mr 6 18), some (mi x1), some (mi x2)] [mi s0] g = some (some (mi s0), g) := (mEv_1 _ _ _ _).trans rfl
noncomputable def J_X5_phase_10 (g : mG) : (Int32 × mG) := (mBd (α := Int32 × mG) (P_X5_refuse g 1) (fun p1 => (p1.1, p1.2)))
theorem rj_X5_phase_10 (d : Nat) {X : mX} {g : mG} {x1 x2 : Int32} : mEv X (mCall mD X (d + 3)) 1 t_X5_phase (mDrop t_X5_phase 10) [some (mr 6 18), some (mi x1), some (mi x2)] [] g = (wG) (J_X5_phase_10 g) := by
  refine Eq.trans (e_X5_phase_10) ?_
  refine mw_gW (rr_X5_refuse (d + 2)) (fun p1 => ?_)
  refine Eq.trans (e_X5_phase_15) ?_
  all_goals rfl
theorem e_X5_phase_4 {X : mX} {call : Nat → List mV → mG → mR} {g : mG} {x1 x2 : Int32} : mEv X call 1 t_X5_phase (mDrop t_X5_phase 4) [some (mr 6 18), some (mi x1), some (mi x2)] [] g = if x2 ≤ 8 then mEv X call 1 t_X5_phase (mDrop t_X5_phase 16) [some (mr 6 18), some (mi x1), some (mi x2)] [] g else mEv X call 1 t_X5_phase (mDrop t_X5_phase 10) [some (mr 6 18), some (mi x1), some (mi x2)] [] g := (mEv_3 _ _ _ _).trans rfl
theorem e_X5_phase_16 {X : mX} {call : Nat → List mV → mG → mR} {g : mG} {x1 x2 : Int32} : mEv X call 1 t_X5_phase (mDrop t_X5_phase 16) [some (mr 6 18), some (mi x1), some (mi x2)] [] g = mAns (mEv X call 1 t_X5_phase) (mDrop t_X5_phase 27) [some (mr 6 18), some (mi x1), some (mi x2)] [] (call 54 [mr 0 1, mi x1] g) := (mEv_5 _ _ _ _).trans rfl
theorem e_X5_phase_27 {X : mX} {call : Nat → List mV → mG → mR} {g : mG} {x1 x2 s0 : Int32} : mEv X call 1 t_X5_phase (mDrop t_X5_phase 27) [some (mr 6 18), some (mi x1), some (mi x2)] [mi s0] g = if s0 = 0 then mEv X call 1 t_X5_phase (mDrop t_X5_phase 30) [some (mr 6 18), some (mi x1), some (mi x2)] [] g else mEv X call 1 t_X5_phase (mDrop t_X5_phase 36) [some (mr 6 18), some (mi x1), some (mi x2)] [] g := (mEv_1 _ _ _ _).trans rfl
theorem e_X5_phase_30 {X : mX} {call : Nat → List mV → mG → mR} {g : mG} {x1 x2 : Int32} : mEv X call 1 t_X5_phase (mDrop t_X5_phase 30) [some (mr 6 18), some (mi x1), some (mi x2)] [] g = mAns (mEv X call 1 t_X5_phase) (mDrop t_X5_phase 35) [some (mr 6 18), some (mi x1), some (mi x2)] [] (call 132 [mr 6 18, mi 2] g) := (mEv_3 _ _ _ _).trans rfl
theorem e_X5_phase_35 {X : mX} {call : Nat → List mV → mG → mR} {g : mG} {x1 x2 s0 : Int32} : mEv X call 1 t_X5_phase (mDrop t_X5_phase 35) [some (mr 6 18), some (mi x1), some (mi x2)] [mi s0] g = some (some (mi s0), g) := (mEv_1 _ _ _ _).trans rfl
theorem e_X5_phase_36 {X : mX} {call : Nat → List mV → mG → mR} {g : mG} {x1 x2 : Int32} : mEv X call 1 t_X5_phase (mDrop t_X5_phase 36) [some (mr 6 18), some (mi x1), some (mi x2)] [] g = mAns (mEv X call 1 t_X5_phase) (mDrop t_X5_phase 46) [some (mr 6 18), some (mi x1), some (mi x2)] [mr 6 18] (call 4 [mr 0 0, mi x1, mi x2] g) := (mEv_6 _ _ _ _).trans rfl
theorem e_X5_phase_46 {X : mX} {call : Nat → List mV → mG → mR} {g : mG} {x1 x2 s1 : Int32} : mEv X call 1 t_X5_phase (mDrop t_X5_phase 46) [some (mr 6 18), some (mi x1), some (mi x2)] [mi s1, mr 6 18] g = mAns (mEv X call 1 t_X5_phase) (mDrop t_X5_phase 49) [some (mr 6 18), some (mi x1), some (mi x2)] [] (call 131 [mr 6 18, mi s1] g) := (mEv_1 _ _ _ _).trans rfl
theorem e_X5_phase_49 {X : mX} {call : Nat → List mV → mG → mR} {g : mG} {x1 x2 s0 : Int32} : mEv X call 1 t_X5_phase (mDrop t_X5_phase 49) [some (mr 6 18), some (mi x1), some (mi x2)] [mi s0] g = some (some (mi s0), g) := (mEv_1 _ _ _ _).trans rfl
noncomputable def P_X5_phase (g : mG) (x1 : Int32) (x2 : Int32) : (Int32 × mG) := (if x2 < 0 then (J_X5_phase_10 g) else (if x2 ≤ 8 then (mBd (α := Int32) (P_X2_hasPhase (g 0) x1) (fun v1 => (if v1 = 0 then (mBd (α := Int32 × mG) (P_X5_refuse g 2) (fun p2 => (p2.1, p2.2))) else (mBd (α := Int32) (P_X0_tellPhase (g 0) x1 x2) (fun v3 => (mBd (α := Int32 × mG) (P_X5_answer g v3) (fun p4 => (p4.1, p4.2)))))))) else (J_X5_phase_10 g)))
theorem rr_X5_phase (d : Nat) {X : mX} {g : mG} {x1 x2 : Int32} : mCall mD X (d + 4) 103 [mr 6 18, mi x1, mi x2] g = (wG) (P_X5_phase g x1 x2) := by
  refine Eq.trans (mCall_eq (d := d + 3) rfl) ?_
  show mEv X (mCall mD X (d + 3)) 1 t_X5_phase (mDrop t_X5_phase 0) [some (mr 6 18), some (mi x1), some (mi x2)] [] g = _
  refine Eq.trans (e_X5_phase_0) ?_
  refine mw_ite (fun h7 => ?_) (fun h7 => ?_)
  · exact rj_X5_phase_10 d
  · refine Eq.trans (e_X5_phase_4) ?_
    refine mw_ite (fun h6 => ?_) (fun h6 => ?_)
    · refine Eq.trans (e_X5_phase_16) ?_
      refine mw_cZ (rr_X2_hasPhase_at (d + 2)) rfl (fun v1 hv1 => ?_)
      refine Eq.trans (e_X5_phase_27) ?_
      refine mw_ite (fun h5 => ?_) (fun h5 => ?_)
      · refine Eq.trans (e_X5_phase_30) ?_
        refine mw_gW (rr_X5_refuse (d + 2)) (fun p2 => ?_)
        refine Eq.trans (e_X5_phase_35) ?_
        all_goals rfl
      · refine Eq.trans (e_X5_phase_36) ?_
        refine mw_cI (rr_X0_tellPhase_at d) (fun v3 => ?_)
        refine Eq.trans (e_X5_phase_46) ?_
        refine mw_gW (rr_X5_answer (d + 2)) (fun p4 => ?_)
        refine Eq.trans (e_X5_phase_49) ?_
        all_goals rfl
    · exact rj_X5_phase_10 d
theorem e_X5_marked_0 {X : mX} {call : Nat → List mV → mG → mR} {g : mG} {x1 x2 : Int32} : mEv X call 1 t_X5_marked (mDrop t_X5_marked 0) [some (mr 6 18), some (mi x1), some (mi x2)] [] g = if x2 < 0 then mEv X call 1 t_X5_marked (mDrop t_X5_marked 10) [some (mr 6 18), some (mi x1), some (mi x2)] [] g else mEv X call 1 t_X5_marked (mDrop t_X5_marked 4) [some (mr 6 18), some (mi x1), some (mi x2)] [] g := (mEv_2 _ _ _ _).trans rfl
theorem e_X5_marked_10 {X : mX} {call : Nat → List mV → mG → mR} {g : mG} {x1 x2 : Int32} : mEv X call 1 t_X5_marked (mDrop t_X5_marked 10) [some (mr 6 18), some (mi x1), some (mi x2)] [] g = mAns (mEv X call 1 t_X5_marked) (mDrop t_X5_marked 15) [some (mr 6 18), some (mi x1), some (mi x2)] [] (call 132 [mr 6 18, mi 1] g) := (mEv_3 _ _ _ _).trans rfl
theorem e_X5_marked_15 {X : mX} {call : Nat → List mV → mG → mR} {g : mG} {x1 x2 s0 : Int32} : mEv X call 1 t_X5_marked (mDrop t_X5_marked 15) [some (mr 6 18), some (mi x1), some (mi x2)] [mi s0] g = some (some (mi s0), g) := (mEv_1 _ _ _ _).trans rfl
noncomputable def J_X5_marked_10 (g : mG) : (Int32 × mG) := (mBd (α := Int32 × mG) (P_X5_refuse g 1) (fun p1 => (p1.1, p1.2)))
theorem rj_X5_marked_10 (d : Nat) {X : mX} {g : mG} {x1 x2 : Int32} : mEv X (mCall mD X (d + 1)) 1 t_X5_marked (mDrop t_X5_marked 10) [some (mr 6 18), some (mi x1), some (mi x2)] [] g = (wG) (J_X5_marked_10 g) := by
  refine Eq.trans (e_X5_marked_10) ?_
  refine mw_gW (rr_X5_refuse d) (fun p1 => ?_)
  refine Eq.trans (e_X5_marked_15) ?_
  all_goals rfl
theorem e_X5_marked_4 {X : mX} {call : Nat → List mV → mG → mR} {g : mG} {x1 x2 : Int32} : mEv X call 1 t_X5_marked (mDrop t_X5_marked 4) [some (mr 6 18), some (mi x1), some (mi x2)] [] g = if x2 < 10 then mEv X call 1 t_X5_marked (mDrop t_X5_marked 16) [some (mr 6 18), some (mi x1), some (mi x2)] [] g else mEv X call 1 t_X5_marked (mDrop t_X5_marked 10) [some (mr 6 18), some (mi x1), some (mi x2)] [] g := (mEv_3 _ _ _ _).trans rfl
theorem e_X5_marked_16 {X : mX} {call : Nat → List mV → mG → mR} {g : mG} {x1 x2 : Int32} : mEv X call 1 t_X5_marked (mDrop t_X5_marked 16) [some (mr 6 18), some (mi x1), some (mi x2)] [] g = mAns (mEv X call 1 t_X5_marked) (mDrop t_X5_marked 27) [some (mr 6 18), some (mi x1), some (mi x2)] [] (call 54 [mr 0 1, mi x1] g) := (mEv_5 _ _ _ _).trans rfl
theorem e_X5_marked_27 {X : mX} {call : Nat → List mV → mG → mR} {g : mG} {x1 x2 s0 : Int32} : mEv X call 1 t_X5_marked (mDrop t_X5_marked 27) [some (mr 6 18), some (mi x1), some (mi x2)] [mi s0] g = if s0 = 0 then mEv X call 1 t_X5_marked (mDrop t_X5_marked 30) [some (mr 6 18), some (mi x1), some (mi x2)] [] g else mEv X call 1 t_X5_marked (mDrop t_X5_marked 36) [some (mr 6 18), some (mi x1), some (mi x2)] [] g := (mEv_1 _ _ _ _).trans rfl
theorem e_X5_marked_30 {X : mX} {call : Nat → List mV → mG → mR} {g : mG} {x1 x2 : Int32} : mEv X call 1 t_X5_marked (mDrop t_X5_marked 30) [some (mr 6 18), some (mi x1), some (mi x2)] [] g = mAns (mEv X call 1 t_X5_marked) (mDrop t_X5_marked 35) [some (mr 6 18), some (mi x1), some (mi x2)] [] (call 132 [mr 6 18, mi 2] g) := (mEv_3 _ _ _ _).trans rfl
theorem e_X5_marked_35 {X : mX} {call : Nat → List mV → mG → mR} {g : mG} {x1 x2 s0 : Int32} : mEv X call 1 t_X5_marked (mDrop t_X5_marked 35) [some (mr 6 18), some (mi x1), some (mi x2)] [mi s0] g = some (some (mi s0), g) := (mEv_1 _ _ _ _).trans rfl
theorem e_X5_marked_36 {X : mX} {call : Nat → List mV → mG → mR} {g : mG} {x1 x2 : Int32} : mEv X call 1 t_X5_marked (mDrop t_X5_marked 36) [some (mr 6 18), some (mi x1), some (mi x2)] [] g = mAns (mEv X call 1 t_X5_marked) (mDrop t_X5_marked 49) [some (mr 6 18), some (mi x1), some (mi x2)] [mr 6 18] (call 57 [mr 0 1, mi x1, mi x2] g) := (mEv_7 _ _ _ _).trans rfl
theorem e_X5_marked_49 {X : mX} {call : Nat → List mV → mG → mR} {g : mG} {x1 x2 s1 : Int32} : mEv X call 1 t_X5_marked (mDrop t_X5_marked 49) [some (mr 6 18), some (mi x1), some (mi x2)] [mi s1, mr 6 18] g = mAns (mEv X call 1 t_X5_marked) (mDrop t_X5_marked 52) [some (mr 6 18), some (mi x1), some (mi x2)] [] (call 131 [mr 6 18, mi s1] g) := (mEv_1 _ _ _ _).trans rfl
theorem e_X5_marked_52 {X : mX} {call : Nat → List mV → mG → mR} {g : mG} {x1 x2 s0 : Int32} : mEv X call 1 t_X5_marked (mDrop t_X5_marked 52) [some (mr 6 18), some (mi x1), some (mi x2)] [mi s0] g = some (some (mi s0), g) := (mEv_1 _ _ _ _).trans rfl
noncomputable def P_X5_marked (g : mG) (x1 : Int32) (x2 : Int32) : (Int32 × mG) := (if x2 < 0 then (J_X5_marked_10 g) else (if x2 < 10 then (mBd (α := Int32) (P_X2_hasPhase (g 0) x1) (fun v1 => (if v1 = 0 then (mBd (α := Int32 × mG) (P_X5_refuse g 2) (fun p2 => (p2.1, p2.2))) else (mBd (α := Int32) (P_X2_markOf (g 0) x1 x2) (fun v3 => (mBd (α := Int32 × mG) (P_X5_answer g v3) (fun p4 => (p4.1, p4.2)))))))) else (J_X5_marked_10 g)))
theorem rr_X5_marked (d : Nat) {X : mX} {g : mG} {x1 x2 : Int32} : mCall mD X (d + 2) 104 [mr 6 18, mi x1, mi x2] g = (wG) (P_X5_marked g x1 x2) := by
  refine Eq.trans (mCall_eq (d := d + 1) rfl) ?_
  show mEv X (mCall mD X (d + 1)) 1 t_X5_marked (mDrop t_X5_marked 0) [some (mr 6 18), some (mi x1), some (mi x2)] [] g = _
  refine Eq.trans (e_X5_marked_0) ?_
  refine mw_ite (fun h7 => ?_) (fun h7 => ?_)
  · exact rj_X5_marked_10 d
  · refine Eq.trans (e_X5_marked_4) ?_
    refine mw_ite (fun h6 => ?_) (fun h6 => ?_)
    · refine Eq.trans (e_X5_marked_16) ?_
      refine mw_cZ (rr_X2_hasPhase_at d) rfl (fun v1 hv1 => ?_)
      refine Eq.trans (e_X5_marked_27) ?_
      refine mw_ite (fun h5 => ?_) (fun h5 => ?_)
      · refine Eq.trans (e_X5_marked_30) ?_
        refine mw_gW (rr_X5_refuse d) (fun p2 => ?_)
        refine Eq.trans (e_X5_marked_35) ?_
        all_goals rfl
      · refine Eq.trans (e_X5_marked_36) ?_
        refine mw_cI (rr_X2_markOf_at d) (fun v3 => ?_)
        refine Eq.trans (e_X5_marked_49) ?_
        refine mw_gW (rr_X5_answer d) (fun p4 => ?_)
        refine Eq.trans (e_X5_marked_52) ?_
        all_goals rfl
    · exact rj_X5_marked_10 d
theorem e_X5_brake_0 {X : mX} {call : Nat → List mV → mG → mR} {g : mG} {x1 x2 : Int32} : mEv X call 1 t_X5_brake (mDrop t_X5_brake 0) [some (mr 6 18), some (mi x1), some (mi x2)] [] g = if x2 < 0 then mEv X call 1 t_X5_brake (mDrop t_X5_brake 9) [some (mr 6 18), some (mi x1), some (mi x2)] [] g else mEv X call 1 t_X5_brake (mDrop t_X5_brake 4) [some (mr 6 18), some (mi x1), some (mi x2)] [] g := (mEv_2 _ _ _ _).trans rfl
theorem e_X5_brake_9 {X : mX} {call : Nat → List mV → mG → mR} {g : mG} {x1 x2 : Int32} : mEv X call 1 t_X5_brake (mDrop t_X5_brake 9) [some (mr 6 18), some (mi x1), some (mi x2)] [] g = mAns (mEv X call 1 t_X5_brake) (mDrop t_X5_brake 14) [some (mr 6 18), some (mi x1), some (mi x2)] [] (call 132 [mr 6 18, mi 1] g) := (mEv_3 _ _ _ _).trans rfl
theorem e_X5_brake_14 {X : mX} {call : Nat → List mV → mG → mR} {g : mG} {x1 x2 s0 : Int32} : mEv X call 1 t_X5_brake (mDrop t_X5_brake 14) [some (mr 6 18), some (mi x1), some (mi x2)] [mi s0] g = some (some (mi s0), g) := (mEv_1 _ _ _ _).trans rfl
noncomputable def J_X5_brake_9 (g : mG) : (Int32 × mG) := (mBd (α := Int32 × mG) (P_X5_refuse g 1) (fun p1 => (p1.1, p1.2)))
theorem rj_X5_brake_9 (d : Nat) {X : mX} {g : mG} {x1 x2 : Int32} : mEv X (mCall mD X (d + 2)) 1 t_X5_brake (mDrop t_X5_brake 9) [some (mr 6 18), some (mi x1), some (mi x2)] [] g = (wG) (J_X5_brake_9 g) := by
  refine Eq.trans (e_X5_brake_9) ?_
  refine mw_gW (rr_X5_refuse (d + 1)) (fun p1 => ?_)
  refine Eq.trans (e_X5_brake_14) ?_
  all_goals rfl
theorem e_X5_brake_4 {X : mX} {call : Nat → List mV → mG → mR} {g : mG} {x1 x2 : Int32} : mEv X call 1 t_X5_brake (mDrop t_X5_brake 4) [some (mr 6 18), some (mi x1), some (mi x2)] [] g = if x2 ≤ 5 then mEv X call 1 t_X5_brake (mDrop t_X5_brake 15) [some (mr 6 18), some (mi x1), some (mi x2)] [] g else mEv X call 1 t_X5_brake (mDrop t_X5_brake 9) [some (mr 6 18), some (mi x1), some (mi x2)] [] g := (mEv_3 _ _ _ _).trans rfl
theorem e_X5_brake_15 {X : mX} {call : Nat → List mV → mG → mR} {g : mG} {x1 x2 : Int32} : mEv X call 1 t_X5_brake (mDrop t_X5_brake 15) [some (mr 6 18), some (mi x1), some (mi x2)] [] g = mAns (mEv X call 1 t_X5_brake) (mDrop t_X5_brake 19) [some (mr 6 18), some (mi x1), some (mi x2)] [] (call 138 [mi x1] g) := (mEv_2 _ _ _ _).trans rfl
theorem e_X5_brake_19 {X : mX} {call : Nat → List mV → mG → mR} {g : mG} {x1 x2 s0 : Int32} : mEv X call 1 t_X5_brake (mDrop t_X5_brake 19) [some (mr 6 18), some (mi x1), some (mi x2)] [mi s0] g = if s0 = 0 then mEv X call 1 t_X5_brake (mDrop t_X5_brake 22) [some (mr 6 18), some (mi x1), some (mi x2)] [] g else mEv X call 1 t_X5_brake (mDrop t_X5_brake 28) [some (mr 6 18), some (mi x1), some (mi x2)] [] g := (mEv_1 _ _ _ _).trans rfl
theorem e_X5_brake_22 {X : mX} {call : Nat → List mV → mG → mR} {g : mG} {x1 x2 : Int32} : mEv X call 1 t_X5_brake (mDrop t_X5_brake 22) [some (mr 6 18), some (mi x1), some (mi x2)] [] g = mAns (mEv X call 1 t_X5_brake) (mDrop t_X5_brake 27) [some (mr 6 18), some (mi x1), some (mi x2)] [] (call 132 [mr 6 18, mi 2] g) := (mEv_3 _ _ _ _).trans rfl
theorem e_X5_brake_27 {X : mX} {call : Nat → List mV → mG → mR} {g : mG} {x1 x2 s0 : Int32} : mEv X call 1 t_X5_brake (mDrop t_X5_brake 27) [some (mr 6 18), some (mi x1), some (mi x2)] [mi s0] g = some (some (mi s0), g) := (mEv_1 _ _ _ _).trans rfl
theorem e_X5_brake_28 {X : mX} {call : Nat → List mV → mG → mR} {g : mG} {x1 x2 : Int32} : mEv X call 1 t_X5_brake (mDrop t_X5_brake 28) [some (mr 6 18), some (mi x1), some (mi x2)] [] g = if x2 = 5 then mEv X call 1 t_X5_brake (mDrop t_X5_brake 33) [some (mr 6 18), some (mi x1), some (mi x2)] [] g else mEv X call 1 t_X5_brake (mDrop t_X5_brake 57) [some (mr 6 18), some (mi x1), some (mi x2)] [] g := (mEv_3 _ _ _ _).trans rfl
theorem e_X5_brake_33 {X : mX} {call : Nat → List mV → mG → mR} {g : mG} {x1 x2 : Int32} : mEv X call 1 t_X5_brake (mDrop t_X5_brake 33) [some (mr 6 18), some (mi x1), some (mi x2)] [] g = mAns (mEv X call 1 t_X5_brake) (mDrop t_X5_brake 45) [some (mr 6 18), some (mi x1), some (mi x2)] [mr 6 18] (call 149 [mi (g 0 0 11), mi x1] g) := (mEv_6 _ _ _ _).trans rfl
theorem e_X5_brake_45 {X : mX} {call : Nat → List mV → mG → mR} {g : mG} {x1 x2 s1 : Int32} : mEv X call 1 t_X5_brake (mDrop t_X5_brake 45) [some (mr 6 18), some (mi x1), some (mi x2)] [mi s1, mr 6 18] g = if s1 = 0 then mEv X call 1 t_X5_brake (mDrop t_X5_brake 52) [some (mr 6 18), some (mi x1), some (mi x2)] [mr 6 18] g else mEv X call 1 t_X5_brake (mDrop t_X5_brake 48) [some (mr 6 18), some (mi x1), some (mi x2)] [mr 6 18] g := (mEv_1 _ _ _ _).trans rfl
theorem e_X5_brake_52 {X : mX} {call : Nat → List mV → mG → mR} {g : mG} {x1 x2 : Int32} : mEv X call 1 t_X5_brake (mDrop t_X5_brake 52) [some (mr 6 18), some (mi x1), some (mi x2)] [mr 6 18] g = mEv X call 1 t_X5_brake (mDrop t_X5_brake 53) [some (mr 6 18), some (mi x1), some (mi x2)] [mi 0, mr 6 18] g := (mEv_1 _ _ _ _).trans rfl
theorem e_X5_brake_53 {X : mX} {call : Nat → List mV → mG → mR} {g : mG} {x1 x2 s1 : Int32} : mEv X call 1 t_X5_brake (mDrop t_X5_brake 53) [some (mr 6 18), some (mi x1), some (mi x2)] [mi s1, mr 6 18] g = mAns (mEv X call 1 t_X5_brake) (mDrop t_X5_brake 56) [some (mr 6 18), some (mi x1), some (mi x2)] [] (call 131 [mr 6 18, mi s1] g) := (mEv_1 _ _ _ _).trans rfl
theorem e_X5_brake_56 {X : mX} {call : Nat → List mV → mG → mR} {g : mG} {x1 x2 s0 : Int32} : mEv X call 1 t_X5_brake (mDrop t_X5_brake 56) [some (mr 6 18), some (mi x1), some (mi x2)] [mi s0] g = some (some (mi s0), g) := (mEv_1 _ _ _ _).trans rfl
noncomputable def J_X5_brake_53 (g : mG) (s1 : Int32) : (Int32 × mG) := (mBd (α := Int32 × mG) (P_X5_answer g s1) (fun p1 => (p1.1, p1.2)))
theorem rj_X5_brake_53 (d : Nat) {X : mX} {g : mG} {x1 x2 s1 : Int32} : mEv X (mCall mD X (d + 2)) 1 t_X5_brake (mDrop t_X5_brake 53) [some (mr 6 18), some (mi x1), some (mi x2)] [mi s1, mr 6 18] g = (wG) (J_X5_brake_53 g s1) := by
  refine Eq.trans (e_X5_brake_53) ?_
  refine mw_gW (rr_X5_answer (d + 1)) (fun p1 => ?_)
  refine Eq.trans (e_X5_brake_56) ?_
  all_goals rfl
theorem e_X5_brake_48 {X : mX} {call : Nat → List mV → mG → mR} {g : mG} {x1 x2 : Int32} : mEv X call 1 t_X5_brake (mDrop t_X5_brake 48) [some (mr 6 18), some (mi x1), some (mi x2)] [mr 6 18] g = mEv X call 1 t_X5_brake (mDrop t_X5_brake 53) [some (mr 6 18), some (mi x1), some (mi x2)] [mi 1, mr 6 18] g := (mEv_2 _ _ _ _).trans rfl
theorem e_X5_brake_57 {X : mX} {call : Nat → List mV → mG → mR} {g : mG} {x1 x2 : Int32} : mEv X call 1 t_X5_brake (mDrop t_X5_brake 57) [some (mr 6 18), some (mi x1), some (mi x2)] [] g = mAns (mEv X call 1 t_X5_brake) (mDrop t_X5_brake 70) [some (mr 6 18), some (mi x1), some (mi x2)] [mr 6 18] (call 59 [mr 0 1, mi x1, mi x2] g) := (mEv_7 _ _ _ _).trans rfl
theorem e_X5_brake_70 {X : mX} {call : Nat → List mV → mG → mR} {g : mG} {x1 x2 s1 : Int32} : mEv X call 1 t_X5_brake (mDrop t_X5_brake 70) [some (mr 6 18), some (mi x1), some (mi x2)] [mi s1, mr 6 18] g = mAns (mEv X call 1 t_X5_brake) (mDrop t_X5_brake 73) [some (mr 6 18), some (mi x1), some (mi x2)] [] (call 131 [mr 6 18, mi s1] g) := (mEv_1 _ _ _ _).trans rfl
theorem e_X5_brake_73 {X : mX} {call : Nat → List mV → mG → mR} {g : mG} {x1 x2 s0 : Int32} : mEv X call 1 t_X5_brake (mDrop t_X5_brake 73) [some (mr 6 18), some (mi x1), some (mi x2)] [mi s0] g = some (some (mi s0), g) := (mEv_1 _ _ _ _).trans rfl
noncomputable def P_X5_brake (g : mG) (x1 : Int32) (x2 : Int32) : (Int32 × mG) := (if x2 < 0 then (J_X5_brake_9 g) else (if x2 ≤ 5 then (mBd (α := Int32) (P_X5_isBreak x1) (fun v1 => (if v1 = 0 then (mBd (α := Int32 × mG) (P_X5_refuse g 2) (fun p2 => (p2.1, p2.2))) else (if x2 = 5 then (mBd (α := Int32) (P_X5_inSet (g 0 0 11) x1) (fun v3 => (if v3 = 0 then (J_X5_brake_53 g 0) else (J_X5_brake_53 g 1)))) else (mBd (α := Int32) (P_X2_breakOf (g 0) x1 x2) (fun v5 => (mBd (α := Int32 × mG) (P_X5_answer g v5) (fun p6 => (p6.1, p6.2))))))))) else (J_X5_brake_9 g)))
theorem rr_X5_brake (d : Nat) {X : mX} {g : mG} {x1 x2 : Int32} : mCall mD X (d + 3) 105 [mr 6 18, mi x1, mi x2] g = (wG) (P_X5_brake g x1 x2) := by
  refine Eq.trans (mCall_eq (d := d + 2) rfl) ?_
  show mEv X (mCall mD X (d + 2)) 1 t_X5_brake (mDrop t_X5_brake 0) [some (mr 6 18), some (mi x1), some (mi x2)] [] g = _
  refine Eq.trans (e_X5_brake_0) ?_
  refine mw_ite (fun h10 => ?_) (fun h10 => ?_)
  · exact rj_X5_brake_9 d
  · refine Eq.trans (e_X5_brake_4) ?_
    refine mw_ite (fun h9 => ?_) (fun h9 => ?_)
    · refine Eq.trans (e_X5_brake_15) ?_
      refine mw_cZ (rr_X5_isBreak (d + 1)) rfl (fun v1 hv1 => ?_)
      refine Eq.trans (e_X5_brake_19) ?_
      refine mw_ite (fun h8 => ?_) (fun h8 => ?_)
      · refine Eq.trans (e_X5_brake_22) ?_
        refine mw_gW (rr_X5_refuse (d + 1)) (fun p2 => ?_)
        refine Eq.trans (e_X5_brake_27) ?_
        all_goals rfl
      · refine Eq.trans (e_X5_brake_28) ?_
        refine mw_ite (fun h7 => ?_) (fun h7 => ?_)
        · refine Eq.trans (e_X5_brake_33) ?_
          refine mw_cZ (rr_X5_inSet (d + 1)) rfl (fun v3 hv3 => ?_)
          refine Eq.trans (e_X5_brake_45) ?_
          refine mw_ite (fun h4 => ?_) (fun h4 => ?_)
          · refine Eq.trans (e_X5_brake_52) ?_
            exact rj_X5_brake_53 d
          · refine Eq.trans (e_X5_brake_48) ?_
            exact rj_X5_brake_53 d
        · refine Eq.trans (e_X5_brake_57) ?_
          refine mw_cI (rr_X2_breakOf_at d) (fun v5 => ?_)
          refine Eq.trans (e_X5_brake_70) ?_
          refine mw_gW (rr_X5_answer (d + 1)) (fun p6 => ?_)
          refine Eq.trans (e_X5_brake_73) ?_
          all_goals rfl
    · exact rj_X5_brake_9 d
theorem e_X5_sum_0 {X : mX} {call : Nat → List mV → mG → mR} {g : mG} {x1 : Int32} : mEv X call 1 t_X5_sum (mDrop t_X5_sum 0) [some (mr 6 18), some (mi x1)] [] g = if x1 = 0 then mEv X call 1 t_X5_sum (mDrop t_X5_sum 40) [some (mr 6 18), some (mi x1)] [] g else (if x1 = 1 then mEv X call 1 t_X5_sum (mDrop t_X5_sum 55) [some (mr 6 18), some (mi x1)] [] g else (if x1 = 2 then mEv X call 1 t_X5_sum (mDrop t_X5_sum 67) [some (mr 6 18), some (mi x1)] [] g else (if x1 = 3 then mEv X call 1 t_X5_sum (mDrop t_X5_sum 82) [some (mr 6 18), some (mi x1)] [] g else (if x1 = 4 then mEv X call 1 t_X5_sum (mDrop t_X5_sum 94) [some (mr 6 18), some (mi x1)] [] g else (if x1 = 5 then mEv X call 1 t_X5_sum (mDrop t_X5_sum 106) [some (mr 6 18), some (mi x1)] [] g else (mEv X call 1 t_X5_sum (mDrop t_X5_sum 118) [some (mr 6 18), some (mi x1)] [] g)))))) := (mEv_2 _ _ _ _).trans rfl
theorem e_X5_sum_118 {X : mX} {call : Nat → List mV → mG → mR} {g : mG} {x1 : Int32} : mEv X call 1 t_X5_sum (mDrop t_X5_sum 118) [some (mr 6 18), some (mi x1)] [] g = mAns (mEv X call 1 t_X5_sum) (mDrop t_X5_sum 123) [some (mr 6 18), some (mi x1)] [] (call 132 [mr 6 18, mi 1] g) := (mEv_3 _ _ _ _).trans rfl
theorem e_X5_sum_123 {X : mX} {call : Nat → List mV → mG → mR} {g : mG} {x1 s0 : Int32} : mEv X call 1 t_X5_sum (mDrop t_X5_sum 123) [some (mr 6 18), some (mi x1)] [mi s0] g = some (some (mi s0), g) := (mEv_1 _ _ _ _).trans rfl
theorem e_X5_sum_40 {X : mX} {call : Nat → List mV → mG → mR} {g : mG} {x1 : Int32} : mEv X call 1 t_X5_sum (mDrop t_X5_sum 40) [some (mr 6 18), some (mi x1)] [] g = mAns (mEv X call 1 t_X5_sum) (mDrop t_X5_sum 51) [some (mr 6 18), some (mi x1)] [mr 6 18] (call 146 [mr 0 15] g) := (mEv_5 _ _ _ _).trans rfl
theorem e_X5_sum_51 {X : mX} {call : Nat → List mV → mG → mR} {g : mG} {x1 s1 : Int32} : mEv X call 1 t_X5_sum (mDrop t_X5_sum 51) [some (mr 6 18), some (mi x1)] [mi s1, mr 6 18] g = mAns (mEv X call 1 t_X5_sum) (mDrop t_X5_sum 54) [some (mr 6 18), some (mi x1)] [] (call 131 [mr 6 18, mi s1] g) := (mEv_1 _ _ _ _).trans rfl
theorem e_X5_sum_54 {X : mX} {call : Nat → List mV → mG → mR} {g : mG} {x1 s0 : Int32} : mEv X call 1 t_X5_sum (mDrop t_X5_sum 54) [some (mr 6 18), some (mi x1)] [mi s0] g = some (some (mi s0), g) := (mEv_1 _ _ _ _).trans rfl
theorem e_X5_sum_55 {X : mX} {call : Nat → List mV → mG → mR} {g : mG} {x1 : Int32} : mEv X call 1 t_X5_sum (mDrop t_X5_sum 55) [some (mr 6 18), some (mi x1)] [] g = mAns (mEv X call 1 t_X5_sum) (mDrop t_X5_sum 66) [some (mr 6 18), some (mi x1)] [] (call 131 [mr 6 18, mi (g 0 0 14)] g) := (mEv_5 _ _ _ _).trans rfl
theorem e_X5_sum_66 {X : mX} {call : Nat → List mV → mG → mR} {g : mG} {x1 s0 : Int32} : mEv X call 1 t_X5_sum (mDrop t_X5_sum 66) [some (mr 6 18), some (mi x1)] [mi s0] g = some (some (mi s0), g) := (mEv_1 _ _ _ _).trans rfl
theorem e_X5_sum_67 {X : mX} {call : Nat → List mV → mG → mR} {g : mG} {x1 : Int32} : mEv X call 1 t_X5_sum (mDrop t_X5_sum 67) [some (mr 6 18), some (mi x1)] [] g = mAns (mEv X call 1 t_X5_sum) (mDrop t_X5_sum 78) [some (mr 6 18), some (mi x1)] [mr 6 18] (call 146 [mr 0 14] g) := (mEv_5 _ _ _ _).trans rfl
theorem e_X5_sum_78 {X : mX} {call : Nat → List mV → mG → mR} {g : mG} {x1 s1 : Int32} : mEv X call 1 t_X5_sum (mDrop t_X5_sum 78) [some (mr 6 18), some (mi x1)] [mi s1, mr 6 18] g = mAns (mEv X call 1 t_X5_sum) (mDrop t_X5_sum 81) [some (mr 6 18), some (mi x1)] [] (call 131 [mr 6 18, mi s1] g) := (mEv_1 _ _ _ _).trans rfl
theorem e_X5_sum_81 {X : mX} {call : Nat → List mV → mG → mR} {g : mG} {x1 s0 : Int32} : mEv X call 1 t_X5_sum (mDrop t_X5_sum 81) [some (mr 6 18), some (mi x1)] [mi s0] g = some (some (mi s0), g) := (mEv_1 _ _ _ _).trans rfl
theorem e_X5_sum_82 {X : mX} {call : Nat → List mV → mG → mR} {g : mG} {x1 : Int32} : mEv X call 1 t_X5_sum (mDrop t_X5_sum 82) [some (mr 6 18), some (mi x1)] [] g = mAns (mEv X call 1 t_X5_sum) (mDrop t_X5_sum 90) [some (mr 6 18), some (mi x1)] [mr 6 18] (call 7 [mr 0 0] g) := (mEv_4 _ _ _ _).trans rfl
theorem e_X5_sum_90 {X : mX} {call : Nat → List mV → mG → mR} {g : mG} {x1 s1 : Int32} : mEv X call 1 t_X5_sum (mDrop t_X5_sum 90) [some (mr 6 18), some (mi x1)] [mi s1, mr 6 18] g = mAns (mEv X call 1 t_X5_sum) (mDrop t_X5_sum 93) [some (mr 6 18), some (mi x1)] [] (call 131 [mr 6 18, mi s1] g) := (mEv_1 _ _ _ _).trans rfl
theorem e_X5_sum_93 {X : mX} {call : Nat → List mV → mG → mR} {g : mG} {x1 s0 : Int32} : mEv X call 1 t_X5_sum (mDrop t_X5_sum 93) [some (mr 6 18), some (mi x1)] [mi s0] g = some (some (mi s0), g) := (mEv_1 _ _ _ _).trans rfl
theorem e_X5_sum_94 {X : mX} {call : Nat → List mV → mG → mR} {g : mG} {x1 : Int32} : mEv X call 1 t_X5_sum (mDrop t_X5_sum 94) [some (mr 6 18), some (mi x1)] [] g = mAns (mEv X call 1 t_X5_sum) (mDrop t_X5_sum 102) [some (mr 6 18), some (mi x1)] [mr 6 18] (call 8 [mr 0 0] g) := (mEv_4 _ _ _ _).trans rfl
theorem e_X5_sum_102 {X : mX} {call : Nat → List mV → mG → mR} {g : mG} {x1 s1 : Int32} : mEv X call 1 t_X5_sum (mDrop t_X5_sum 102) [some (mr 6 18), some (mi x1)] [mi s1, mr 6 18] g = mAns (mEv X call 1 t_X5_sum) (mDrop t_X5_sum 105) [some (mr 6 18), some (mi x1)] [] (call 131 [mr 6 18, mi s1] g) := (mEv_1 _ _ _ _).trans rfl
theorem e_X5_sum_105 {X : mX} {call : Nat → List mV → mG → mR} {g : mG} {x1 s0 : Int32} : mEv X call 1 t_X5_sum (mDrop t_X5_sum 105) [some (mr 6 18), some (mi x1)] [mi s0] g = some (some (mi s0), g) := (mEv_1 _ _ _ _).trans rfl
theorem e_X5_sum_106 {X : mX} {call : Nat → List mV → mG → mR} {g : mG} {x1 : Int32} : mEv X call 1 t_X5_sum (mDrop t_X5_sum 106) [some (mr 6 18), some (mi x1)] [] g = mAns (mEv X call 1 t_X5_sum) (mDrop t_X5_sum 114) [some (mr 6 18), some (mi x1)] [mr 6 18] (call 13 [mr 0 0] g) := (mEv_4 _ _ _ _).trans rfl
theorem e_X5_sum_114 {X : mX} {call : Nat → List mV → mG → mR} {g : mG} {x1 s1 : Int32} : mEv X call 1 t_X5_sum (mDrop t_X5_sum 114) [some (mr 6 18), some (mi x1)] [mi s1, mr 6 18] g = mAns (mEv X call 1 t_X5_sum) (mDrop t_X5_sum 117) [some (mr 6 18), some (mi x1)] [] (call 131 [mr 6 18, mi s1] g) := (mEv_1 _ _ _ _).trans rfl
theorem e_X5_sum_117 {X : mX} {call : Nat → List mV → mG → mR} {g : mG} {x1 s0 : Int32} : mEv X call 1 t_X5_sum (mDrop t_X5_sum 117) [some (mr 6 18), some (mi x1)] [mi s0] g = some (some (mi s0), g) := (mEv_1 _ _ _ _).trans rfl
noncomputable def P_X5_sum (g : mG) (x1 : Int32) : (Int32 × mG) := (if x1 = 0 then (mBd (α := Int32) (mTt 8 (g 0 15)) (fun v2 => (mBd (α := Int32 × mG) (P_X5_answer g v2) (fun p3 => (p3.1, p3.2))))) else (if x1 = 1 then (mBd (α := Int32 × mG) (P_X5_answer g (g 0 0 14)) (fun p4 => (p4.1, p4.2))) else (if x1 = 2 then (mBd (α := Int32) (mTt 8 (g 0 14)) (fun v5 => (mBd (α := Int32 × mG) (P_X5_answer g v5) (fun p6 => (p6.1, p6.2))))) else (if x1 = 3 then (mBd (α := Int32) (P_X0_longestQueue (g 0)) (fun v7 => (mBd (α := Int32 × mG) (P_X5_answer g v7) (fun p8 => (p8.1, p8.2))))) else (if x1 = 4 then (mBd (α := Int32) (P_X0_firstLongest (g 0)) (fun v9 => (mBd (α := Int32 × mG) (P_X5_answer g v9) (fun p10 => (p10.1, p10.2))))) else (if x1 = 5 then (mBd (α := Int32) (P_X0_shownSet (g 0)) (fun v11 => (mBd (α := Int32 × mG) (P_X5_answer g v11) (fun p12 => (p12.1, p12.2))))) else (mBd (α := Int32 × mG) (P_X5_refuse g 1) (fun p1 => (p1.1, p1.2)))))))))
theorem rr_X5_sum (d : Nat) {X : mX} {g : mG} {x1 : Int32} : mCall mD X (d + 4) 106 [mr 6 18, mi x1] g = (wG) (P_X5_sum g x1) := by
  refine Eq.trans (mCall_eq (d := d + 3) rfl) ?_
  show mEv X (mCall mD X (d + 3)) 1 t_X5_sum (mDrop t_X5_sum 0) [some (mr 6 18), some (mi x1)] [] g = _
  refine Eq.trans (e_X5_sum_0) ?_
  refine mw_ite (fun _ => ?_) (fun _ => ?_)
  · refine Eq.trans (e_X5_sum_40) ?_
    refine mw_cI (rr_X5_total_15_at (d + 2)) (fun v2 => ?_)
    refine Eq.trans (e_X5_sum_51) ?_
    refine mw_gW (rr_X5_answer (d + 2)) (fun p3 => ?_)
    refine Eq.trans (e_X5_sum_54) ?_
    all_goals rfl
  · refine mw_ite (fun _ => ?_) (fun _ => ?_)
    · refine Eq.trans (e_X5_sum_55) ?_
      refine mw_gW (rr_X5_answer (d + 2)) (fun p4 => ?_)
      refine Eq.trans (e_X5_sum_66) ?_
      all_goals rfl
    · refine mw_ite (fun _ => ?_) (fun _ => ?_)
      · refine Eq.trans (e_X5_sum_67) ?_
        refine mw_cI (rr_X5_total_14_at (d + 2)) (fun v5 => ?_)
        refine Eq.trans (e_X5_sum_78) ?_
        refine mw_gW (rr_X5_answer (d + 2)) (fun p6 => ?_)
        refine Eq.trans (e_X5_sum_81) ?_
        all_goals rfl
      · refine mw_ite (fun _ => ?_) (fun _ => ?_)
        · refine Eq.trans (e_X5_sum_82) ?_
          refine mw_cI (rr_X0_longestQueue_at (d + 1)) (fun v7 => ?_)
          refine Eq.trans (e_X5_sum_90) ?_
          refine mw_gW (rr_X5_answer (d + 2)) (fun p8 => ?_)
          refine Eq.trans (e_X5_sum_93) ?_
          all_goals rfl
        · refine mw_ite (fun _ => ?_) (fun _ => ?_)
          · refine Eq.trans (e_X5_sum_94) ?_
            refine mw_cI (rr_X0_firstLongest_at d) (fun v9 => ?_)
            refine Eq.trans (e_X5_sum_102) ?_
            refine mw_gW (rr_X5_answer (d + 2)) (fun p10 => ?_)
            refine Eq.trans (e_X5_sum_105) ?_
            all_goals rfl
          · refine mw_ite (fun _ => ?_) (fun _ => ?_)
            · refine Eq.trans (e_X5_sum_106) ?_
              refine mw_cI (rr_X0_shownSet_at d) (fun v11 => ?_)
              refine Eq.trans (e_X5_sum_114) ?_
              refine mw_gW (rr_X5_answer (d + 2)) (fun p12 => ?_)
              refine Eq.trans (e_X5_sum_117) ?_
              all_goals rfl
            · refine Eq.trans (e_X5_sum_118) ?_
              refine mw_gW (rr_X5_refuse (d + 2)) (fun p1 => ?_)
              refine Eq.trans (e_X5_sum_123) ?_
              all_goals rfl
theorem e_X5_event_0 {X : mX} {call : Nat → List mV → mG → mR} {g : mG} {x1 x2 : Int32} : mEv X call 1 t_X5_event (mDrop t_X5_event 0) [some (mr 6 18), some (mi x1), some (mi x2)] [] g = if x1 < 0 then mEv X call 1 t_X5_event (mDrop t_X5_event 19) [some (mr 6 18), some (mi x1), some (mi x2)] [] g else mEv X call 1 t_X5_event (mDrop t_X5_event 4) [some (mr 6 18), some (mi x1), some (mi x2)] [] g := (mEv_2 _ _ _ _).trans rfl
theorem e_X5_event_19 {X : mX} {call : Nat → List mV → mG → mR} {g : mG} {x1 x2 : Int32} : mEv X call 1 t_X5_event (mDrop t_X5_event 19) [some (mr 6 18), some (mi x1), some (mi x2)] [] g = mAns (mEv X call 1 t_X5_event) (mDrop t_X5_event 24) [some (mr 6 18), some (mi x1), some (mi x2)] [] (call 132 [mr 6 18, mi 1] g) := (mEv_3 _ _ _ _).trans rfl
theorem e_X5_event_24 {X : mX} {call : Nat → List mV → mG → mR} {g : mG} {x1 x2 s0 : Int32} : mEv X call 1 t_X5_event (mDrop t_X5_event 24) [some (mr 6 18), some (mi x1), some (mi x2)] [mi s0] g = some (some (mi s0), g) := (mEv_1 _ _ _ _).trans rfl
noncomputable def J_X5_event_19 (g : mG) : (Int32 × mG) := (mBd (α := Int32 × mG) (P_X5_refuse g 1) (fun p1 => (p1.1, p1.2)))
theorem rj_X5_event_19 (d : Nat) {X : mX} {g : mG} {x1 x2 : Int32} : mEv X (mCall mD X (d + 2)) 1 t_X5_event (mDrop t_X5_event 19) [some (mr 6 18), some (mi x1), some (mi x2)] [] g = (wG) (J_X5_event_19 g) := by
  refine Eq.trans (e_X5_event_19) ?_
  refine mw_gW (rr_X5_refuse (d + 1)) (fun p1 => ?_)
  refine Eq.trans (e_X5_event_24) ?_
  all_goals rfl
theorem e_X5_event_4 {X : mX} {call : Nat → List mV → mG → mR} {g : mG} {x1 x2 : Int32} : mEv X call 1 t_X5_event (mDrop t_X5_event 4) [some (mr 6 18), some (mi x1), some (mi x2)] [] g = if 32 ≤ x1 then mEv X call 1 t_X5_event (mDrop t_X5_event 19) [some (mr 6 18), some (mi x1), some (mi x2)] [] g else mEv X call 1 t_X5_event (mDrop t_X5_event 10) [some (mr 6 18), some (mi x1), some (mi x2)] [] g := (mEv_3 _ _ _ _).trans rfl
theorem e_X5_event_10 {X : mX} {call : Nat → List mV → mG → mR} {g : mG} {x1 x2 : Int32} : mEv X call 1 t_X5_event (mDrop t_X5_event 10) [some (mr 6 18), some (mi x1), some (mi x2)] [] g = if x2 < 0 then mEv X call 1 t_X5_event (mDrop t_X5_event 19) [some (mr 6 18), some (mi x1), some (mi x2)] [] g else mEv X call 1 t_X5_event (mDrop t_X5_event 14) [some (mr 6 18), some (mi x1), some (mi x2)] [] g := (mEv_2 _ _ _ _).trans rfl
theorem e_X5_event_14 {X : mX} {call : Nat → List mV → mG → mR} {g : mG} {x1 x2 : Int32} : mEv X call 1 t_X5_event (mDrop t_X5_event 14) [some (mr 6 18), some (mi x1), some (mi x2)] [] g = if x2 ≤ 2 then mEv X call 1 t_X5_event (mDrop t_X5_event 25) [some (mr 6 18), some (mi x1), some (mi x2)] [] g else mEv X call 1 t_X5_event (mDrop t_X5_event 19) [some (mr 6 18), some (mi x1), some (mi x2)] [] g := (mEv_3 _ _ _ _).trans rfl
theorem e_X5_event_25 {X : mX} {call : Nat → List mV → mG → mR} {g : mG} {x1 x2 : Int32} : mEv X call 1 t_X5_event (mDrop t_X5_event 25) [some (mr 6 18), some (mi x1), some (mi x2)] [] g = if x1 < (g 0 10 3) then mEv X call 1 t_X5_event (mDrop t_X5_event 45) [some (mr 6 18), some (mi x1), some (mi x2)] [] g else mEv X call 1 t_X5_event (mDrop t_X5_event 39) [some (mr 6 18), some (mi x1), some (mi x2)] [] g := (mEv_6 _ _ _ _).trans rfl
theorem e_X5_event_45 {X : mX} {call : Nat → List mV → mG → mR} {g : mG} {x1 x2 : Int32} : mEv X call 1 t_X5_event (mDrop t_X5_event 45) [some (mr 6 18), some (mi x1), some (mi x2)] [] g = mAns (mEv X call 1 t_X5_event) (mDrop t_X5_event 58) [some (mr 6 18), some (mi x1), some (mi x2)] [mr 6 18] (call 50 [mr 0 10, mi x1, mi x2] g) := (mEv_7 _ _ _ _).trans rfl
theorem e_X5_event_58 {X : mX} {call : Nat → List mV → mG → mR} {g : mG} {x1 x2 s1 : Int32} : mEv X call 1 t_X5_event (mDrop t_X5_event 58) [some (mr 6 18), some (mi x1), some (mi x2)] [mi s1, mr 6 18] g = mAns (mEv X call 1 t_X5_event) (mDrop t_X5_event 61) [some (mr 6 18), some (mi x1), some (mi x2)] [] (call 131 [mr 6 18, mi s1] g) := (mEv_1 _ _ _ _).trans rfl
theorem e_X5_event_61 {X : mX} {call : Nat → List mV → mG → mR} {g : mG} {x1 x2 s0 : Int32} : mEv X call 1 t_X5_event (mDrop t_X5_event 61) [some (mr 6 18), some (mi x1), some (mi x2)] [mi s0] g = some (some (mi s0), g) := (mEv_1 _ _ _ _).trans rfl
theorem e_X5_event_39 {X : mX} {call : Nat → List mV → mG → mR} {g : mG} {x1 x2 : Int32} : mEv X call 1 t_X5_event (mDrop t_X5_event 39) [some (mr 6 18), some (mi x1), some (mi x2)] [] g = mAns (mEv X call 1 t_X5_event) (mDrop t_X5_event 44) [some (mr 6 18), some (mi x1), some (mi x2)] [] (call 132 [mr 6 18, mi 5] g) := (mEv_3 _ _ _ _).trans rfl
theorem e_X5_event_44 {X : mX} {call : Nat → List mV → mG → mR} {g : mG} {x1 x2 s0 : Int32} : mEv X call 1 t_X5_event (mDrop t_X5_event 44) [some (mr 6 18), some (mi x1), some (mi x2)] [mi s0] g = some (some (mi s0), g) := (mEv_1 _ _ _ _).trans rfl
noncomputable def P_X5_event (g : mG) (x1 : Int32) (x2 : Int32) : (Int32 × mG) := (if x1 < 0 then (J_X5_event_19 g) else (if 32 ≤ x1 then (J_X5_event_19 g) else (if x2 < 0 then (J_X5_event_19 g) else (if x2 ≤ 2 then (if x1 < (g 0 10 3) then (mBd (α := Int32) (P_X1_tell (g 0) x1 x2) (fun v1 => (mBd (α := Int32 × mG) (P_X5_answer g v1) (fun p2 => (p2.1, p2.2))))) else (mBd (α := Int32 × mG) (P_X5_refuse g 5) (fun p3 => (p3.1, p3.2)))) else (J_X5_event_19 g)))))
theorem rr_X5_event (d : Nat) {X : mX} {g : mG} {x1 x2 : Int32} : mCall mD X (d + 3) 107 [mr 6 18, mi x1, mi x2] g = (wG) (P_X5_event g x1 x2) := by
  refine Eq.trans (mCall_eq (d := d + 2) rfl) ?_
  show mEv X (mCall mD X (d + 2)) 1 t_X5_event (mDrop t_X5_event 0) [some (mr 6 18), some (mi x1), some (mi x2)] [] g = _
  refine Eq.trans (e_X5_event_0) ?_
  refine mw_ite (fun h8 => ?_) (fun h8 => ?_)
  · exact rj_X5_event_19 d
  · refine Eq.trans (e_X5_event_4) ?_
    refine mw_ite (fun h7 => ?_) (fun h7 => ?_)
    · exact rj_X5_event_19 d
    · refine Eq.trans (e_X5_event_10) ?_
      refine mw_ite (fun h6 => ?_) (fun h6 => ?_)
      · exact rj_X5_event_19 d
      · refine Eq.trans (e_X5_event_14) ?_
        refine mw_ite (fun h5 => ?_) (fun h5 => ?_)
        · refine Eq.trans (e_X5_event_25) ?_
          refine mw_ite (fun h4 => ?_) (fun h4 => ?_)
          · refine Eq.trans (e_X5_event_45) ?_
            refine mw_cI (rr_X1_tell_at d) (fun v1 => ?_)
            refine Eq.trans (e_X5_event_58) ?_
            refine mw_gW (rr_X5_answer (d + 1)) (fun p2 => ?_)
            refine Eq.trans (e_X5_event_61) ?_
            all_goals rfl
          · refine Eq.trans (e_X5_event_39) ?_
            refine mw_gW (rr_X5_refuse (d + 1)) (fun p3 => ?_)
            refine Eq.trans (e_X5_event_44) ?_
            all_goals rfl
        · exact rj_X5_event_19 d
theorem e_X5_mark_0 {X : mX} {call : Nat → List mV → mG → mR} {g : mG} {x1 x2 x3 : Int32} : mEv X call 1 t_X5_mark (mDrop t_X5_mark 0) [some (mr 6 18), some (mi x1), some (mi x2), some (mi x3), none] [] g = if x2 < 0 then mEv X call 1 t_X5_mark (mDrop t_X5_mark 32) [some (mr 6 18), some (mi x1), some (mi x2), some (mi x3), none] [] g else mEv X call 1 t_X5_mark (mDrop t_X5_mark 4) [some (mr 6 18), some (mi x1), some (mi x2), some (mi x3), none] [] g := (mEv_2 _ _ _ _).trans rfl
theorem e_X5_mark_32 {X : mX} {call : Nat → List mV → mG → mR} {g : mG} {x1 x2 x3 : Int32} : mEv X call 1 t_X5_mark (mDrop t_X5_mark 32) [some (mr 6 18), some (mi x1), some (mi x2), some (mi x3), none] [] g = mAns (mEv X call 1 t_X5_mark) (mDrop t_X5_mark 37) [some (mr 6 18), some (mi x1), some (mi x2), some (mi x3), none] [] (call 132 [mr 6 18, mi 1] g) := (mEv_3 _ _ _ _).trans rfl
theorem e_X5_mark_37 {X : mX} {call : Nat → List mV → mG → mR} {g : mG} {x1 x2 x3 s0 : Int32} : mEv X call 1 t_X5_mark (mDrop t_X5_mark 37) [some (mr 6 18), some (mi x1), some (mi x2), some (mi x3), none] [mi s0] g = some (some (mi s0), g) := (mEv_1 _ _ _ _).trans rfl
noncomputable def J_X5_mark_32 (g : mG) : (Int32 × mG) := (mBd (α := Int32 × mG) (P_X5_refuse g 1) (fun p1 => (p1.1, p1.2)))
theorem rj_X5_mark_32 (d : Nat) {X : mX} {g : mG} {x1 x2 x3 : Int32} : mEv X (mCall mD X (d + 3)) 1 t_X5_mark (mDrop t_X5_mark 32) [some (mr 6 18), some (mi x1), some (mi x2), some (mi x3), none] [] g = (wG) (J_X5_mark_32 g) := by
  refine Eq.trans (e_X5_mark_32) ?_
  refine mw_gW (rr_X5_refuse (d + 2)) (fun p1 => ?_)
  refine Eq.trans (e_X5_mark_37) ?_
  all_goals rfl
theorem e_X5_mark_4 {X : mX} {call : Nat → List mV → mG → mR} {g : mG} {x1 x2 x3 : Int32} : mEv X call 1 t_X5_mark (mDrop t_X5_mark 4) [some (mr 6 18), some (mi x1), some (mi x2), some (mi x3), none] [] g = if 10 ≤ x2 then mEv X call 1 t_X5_mark (mDrop t_X5_mark 32) [some (mr 6 18), some (mi x1), some (mi x2), some (mi x3), none] [] g else mEv X call 1 t_X5_mark (mDrop t_X5_mark 10) [some (mr 6 18), some (mi x1), some (mi x2), some (mi x3), none] [] g := (mEv_3 _ _ _ _).trans rfl
theorem e_X5_mark_10 {X : mX} {call : Nat → List mV → mG → mR} {g : mG} {x1 x2 x3 : Int32} : mEv X call 1 t_X5_mark (mDrop t_X5_mark 10) [some (mr 6 18), some (mi x1), some (mi x2), some (mi x3), none] [] g = mAns (mEv X call 1 t_X5_mark) (mDrop t_X5_mark 18) [some (mr 6 18), some (mi x1), some (mi x2), some (mi x3), none] [mi x3] (call 142 [mr 9 27, mi x2] g) := (mEv_4 _ _ _ _).trans rfl
theorem e_X5_mark_18 {X : mX} {call : Nat → List mV → mG → mR} {g : mG} {x1 x2 x3 s0 s1 : Int32} : mEv X call 1 t_X5_mark (mDrop t_X5_mark 18) [some (mr 6 18), some (mi x1), some (mi x2), some (mi x3), none] [mi s1, mi s0] g = if s0 < s1 then mEv X call 1 t_X5_mark (mDrop t_X5_mark 32) [some (mr 6 18), some (mi x1), some (mi x2), some (mi x3), none] [] g else mEv X call 1 t_X5_mark (mDrop t_X5_mark 21) [some (mr 6 18), some (mi x1), some (mi x2), some (mi x3), none] [] g := (mEv_1 _ _ _ _).trans rfl
theorem e_X5_mark_21 {X : mX} {call : Nat → List mV → mG → mR} {g : mG} {x1 x2 x3 : Int32} : mEv X call 1 t_X5_mark (mDrop t_X5_mark 21) [some (mr 6 18), some (mi x1), some (mi x2), some (mi x3), none] [] g = mAns (mEv X call 1 t_X5_mark) (mDrop t_X5_mark 29) [some (mr 6 18), some (mi x1), some (mi x2), some (mi x3), none] [mi x3] (call 142 [mr 9 28, mi x2] g) := (mEv_4 _ _ _ _).trans rfl
theorem e_X5_mark_29 {X : mX} {call : Nat → List mV → mG → mR} {g : mG} {x1 x2 x3 s0 s1 : Int32} : mEv X call 1 t_X5_mark (mDrop t_X5_mark 29) [some (mr 6 18), some (mi x1), some (mi x2), some (mi x3), none] [mi s1, mi s0] g = if s0 ≤ s1 then mEv X call 1 t_X5_mark (mDrop t_X5_mark 38) [some (mr 6 18), some (mi x1), some (mi x2), some (mi x3), none] [] g else mEv X call 1 t_X5_mark (mDrop t_X5_mark 32) [some (mr 6 18), some (mi x1), some (mi x2), some (mi x3), none] [] g := (mEv_1 _ _ _ _).trans rfl
theorem e_X5_mark_38 {X : mX} {call : Nat → List mV → mG → mR} {g : mG} {x1 x2 x3 : Int32} : mEv X call 1 t_X5_mark (mDrop t_X5_mark 38) [some (mr 6 18), some (mi x1), some (mi x2), some (mi x3), none] [] g = mAns (mEv X call 1 t_X5_mark) (mDrop t_X5_mark 49) [some (mr 6 18), some (mi x1), some (mi x2), some (mi x3), none] [] (call 54 [mr 0 1, mi x1] g) := (mEv_5 _ _ _ _).trans rfl
theorem e_X5_mark_49 {X : mX} {call : Nat → List mV → mG → mR} {g : mG} {x1 x2 x3 s0 : Int32} : mEv X call 1 t_X5_mark (mDrop t_X5_mark 49) [some (mr 6 18), some (mi x1), some (mi x2), some (mi x3), none] [mi s0] g = if s0 = 0 then mEv X call 1 t_X5_mark (mDrop t_X5_mark 52) [some (mr 6 18), some (mi x1), some (mi x2), some (mi x3), none] [] g else mEv X call 1 t_X5_mark (mDrop t_X5_mark 58) [some (mr 6 18), some (mi x1), some (mi x2), some (mi x3), none] [] g := (mEv_1 _ _ _ _).trans rfl
theorem e_X5_mark_52 {X : mX} {call : Nat → List mV → mG → mR} {g : mG} {x1 x2 x3 : Int32} : mEv X call 1 t_X5_mark (mDrop t_X5_mark 52) [some (mr 6 18), some (mi x1), some (mi x2), some (mi x3), none] [] g = mAns (mEv X call 1 t_X5_mark) (mDrop t_X5_mark 57) [some (mr 6 18), some (mi x1), some (mi x2), some (mi x3), none] [] (call 132 [mr 6 18, mi 2] g) := (mEv_3 _ _ _ _).trans rfl
theorem e_X5_mark_57 {X : mX} {call : Nat → List mV → mG → mR} {g : mG} {x1 x2 x3 s0 : Int32} : mEv X call 1 t_X5_mark (mDrop t_X5_mark 57) [some (mr 6 18), some (mi x1), some (mi x2), some (mi x3), none] [mi s0] g = some (some (mi s0), g) := (mEv_1 _ _ _ _).trans rfl
theorem e_X5_mark_58 {X : mX} {call : Nat → List mV → mG → mR} {g : mG} {x1 x2 x3 : Int32} : mEv X call 1 t_X5_mark (mDrop t_X5_mark 58) [some (mr 6 18), some (mi x1), some (mi x2), some (mi x3), none] [] g = mAns (mEv X call 1 t_X5_mark) (mDrop t_X5_mark 70) [some (mr 6 18), some (mi x1), some (mi x2), some (mi x3), none] [] (call 57 [mr 0 1, mi x1, mi x2] g) := (mEv_6 _ _ _ _).trans rfl
theorem e_X5_mark_70 {X : mX} {call : Nat → List mV → mG → mR} {g : mG} {x1 x2 x3 s0 : Int32} : mEv X call 1 t_X5_mark (mDrop t_X5_mark 70) [some (mr 6 18), some (mi x1), some (mi x2), some (mi x3), none] [mi s0] g = mAns (mEv X call 1 t_X5_mark) (mDrop t_X5_mark 85) [some (mr 6 18), some (mi x1), some (mi x2), some (mi x3), some (mi s0)] [] (call 58 [mr 0 1, mi x1, mi x2, mi x3] g) := (mEv_8 _ _ _ _).trans rfl
theorem e_X5_mark_85 {X : mX} {call : Nat → List mV → mG → mR} {g : mG} {x1 x2 x3 x4 : Int32} : mEv X call 1 t_X5_mark (mDrop t_X5_mark 85) [some (mr 6 18), some (mi x1), some (mi x2), some (mi x3), some (mi x4)] [] g = mAns (mEv X call 1 t_X5_mark) (mDrop t_X5_mark 91) [some (mr 6 18), some (mi x1), some (mi x2), some (mi x3), some (mi x4)] [] (call 131 [mr 6 18, mi x4] g) := (mEv_3 _ _ _ _).trans rfl
theorem e_X5_mark_91 {X : mX} {call : Nat → List mV → mG → mR} {g : mG} {x1 x2 x3 x4 s0 : Int32} : mEv X call 1 t_X5_mark (mDrop t_X5_mark 91) [some (mr 6 18), some (mi x1), some (mi x2), some (mi x3), some (mi x4)] [mi s0] g = some (some (mi s0), g) := (mEv_1 _ _ _ _).trans rfl
noncomputable def P_X5_mark (g : mG) (x1 : Int32) (x2 : Int32) (x3 : Int32) : (Int32 × mG) := (if x2 < 0 then (J_X5_mark_32 g) else (if 10 ≤ x2 then (J_X5_mark_32 g) else (mBd (α := Int32) (cl 10 (mRO (fun _ => 0, 0) 9 27) x2) (fun v1 => (if x3 < v1 then (J_X5_mark_32 g) else (mBd (α := Int32) (cl 10 (mRO (fun _ => 0, 0) 9 28) x2) (fun v2 => (if x3 ≤ v2 then (mBd (α := Int32) (P_X2_hasPhase (g 0) x1) (fun v3 => (if v3 = 0 then (mBd (α := Int32 × mG) (P_X5_refuse g 2) (fun p4 => (p4.1, p4.2))) else (mBd (α := Int32) (P_X2_markOf (g 0) x1 x2) (fun v5 => (mBd (α := mG) (mU g 0 (P_X2_putMark (g 0) x1 x2 x3)) (fun g6 => (mBd (α := Int32 × mG) (P_X5_answer g6 v5) (fun p7 => (p7.1, p7.2)))))))))) else (J_X5_mark_32 g)))))))))
theorem rr_X5_mark (d : Nat) {X : mX} {g : mG} {x1 x2 x3 : Int32} : mCall mD X (d + 4) 108 [mr 6 18, mi x1, mi x2, mi x3] g = (wG) (P_X5_mark g x1 x2 x3) := by
  refine Eq.trans (mCall_eq (d := d + 3) rfl) ?_
  show mEv X (mCall mD X (d + 3)) 1 t_X5_mark (mDrop t_X5_mark 0) [some (mr 6 18), some (mi x1), some (mi x2), some (mi x3), none] [] g = _
  refine Eq.trans (e_X5_mark_0) ?_
  refine mw_ite (fun h12 => ?_) (fun h12 => ?_)
  · exact rj_X5_mark_32 d
  · refine Eq.trans (e_X5_mark_4) ?_
    refine mw_ite (fun h11 => ?_) (fun h11 => ?_)
    · exact rj_X5_mark_32 d
    · refine Eq.trans (e_X5_mark_10) ?_
      refine mw_cI (rr_X5_cell_27_at (d + 2)) (fun v1 => ?_)
      refine Eq.trans (e_X5_mark_18) ?_
      refine mw_ite (fun h10 => ?_) (fun h10 => ?_)
      · exact rj_X5_mark_32 d
      · refine Eq.trans (e_X5_mark_21) ?_
        refine mw_cI (rr_X5_cell_28_at (d + 2)) (fun v2 => ?_)
        refine Eq.trans (e_X5_mark_29) ?_
        refine mw_ite (fun h9 => ?_) (fun h9 => ?_)
        · refine Eq.trans (e_X5_mark_38) ?_
          refine mw_cZ (rr_X2_hasPhase_at (d + 2)) rfl (fun v3 hv3 => ?_)
          refine Eq.trans (e_X5_mark_49) ?_
          refine mw_ite (fun h8 => ?_) (fun h8 => ?_)
          · refine Eq.trans (e_X5_mark_52) ?_
            refine mw_gW (rr_X5_refuse (d + 2)) (fun p4 => ?_)
            refine Eq.trans (e_X5_mark_57) ?_
            all_goals rfl
          · refine Eq.trans (e_X5_mark_58) ?_
            refine mw_cI (rr_X2_markOf_at (d + 2)) (fun v5 => ?_)
            refine Eq.trans (e_X5_mark_70) ?_
            refine mw_gV (rr_X2_putMark_at d) (fun g6 => ?_)
            refine Eq.trans (e_X5_mark_85) ?_
            refine mw_gW (rr_X5_answer (d + 2)) (fun p7 => ?_)
            refine Eq.trans (e_X5_mark_91) ?_
            all_goals rfl
        · exact rj_X5_mark_32 d
theorem e_X5_clock_0 {X : mX} {call : Nat → List mV → mG → mR} {g : mG} {x1 x2 : Int32} : mEv X call 1 t_X5_clock (mDrop t_X5_clock 0) [some (mr 6 18), some (mi x1), some (mi x2), none] [] g = if x1 < 0 then mEv X call 1 t_X5_clock (mDrop t_X5_clock 30) [some (mr 6 18), some (mi x1), some (mi x2), none] [] g else mEv X call 1 t_X5_clock (mDrop t_X5_clock 4) [some (mr 6 18), some (mi x1), some (mi x2), none] [] g := (mEv_2 _ _ _ _).trans rfl
theorem e_X5_clock_30 {X : mX} {call : Nat → List mV → mG → mR} {g : mG} {x1 x2 : Int32} : mEv X call 1 t_X5_clock (mDrop t_X5_clock 30) [some (mr 6 18), some (mi x1), some (mi x2), none] [] g = mAns (mEv X call 1 t_X5_clock) (mDrop t_X5_clock 35) [some (mr 6 18), some (mi x1), some (mi x2), none] [] (call 132 [mr 6 18, mi 1] g) := (mEv_3 _ _ _ _).trans rfl
theorem e_X5_clock_35 {X : mX} {call : Nat → List mV → mG → mR} {g : mG} {x1 x2 s0 : Int32} : mEv X call 1 t_X5_clock (mDrop t_X5_clock 35) [some (mr 6 18), some (mi x1), some (mi x2), none] [mi s0] g = some (some (mi s0), g) := (mEv_1 _ _ _ _).trans rfl
noncomputable def J_X5_clock_30 (g : mG) : (Int32 × mG) := (mBd (α := Int32 × mG) (P_X5_refuse g 1) (fun p1 => (p1.1, p1.2)))
theorem rj_X5_clock_30 (d : Nat) {X : mX} {g : mG} {x1 x2 : Int32} : mEv X (mCall mD X (d + 2)) 1 t_X5_clock (mDrop t_X5_clock 30) [some (mr 6 18), some (mi x1), some (mi x2), none] [] g = (wG) (J_X5_clock_30 g) := by
  refine Eq.trans (e_X5_clock_30) ?_
  refine mw_gW (rr_X5_refuse (d + 1)) (fun p1 => ?_)
  refine Eq.trans (e_X5_clock_35) ?_
  all_goals rfl
theorem e_X5_clock_4 {X : mX} {call : Nat → List mV → mG → mR} {g : mG} {x1 x2 : Int32} : mEv X call 1 t_X5_clock (mDrop t_X5_clock 4) [some (mr 6 18), some (mi x1), some (mi x2), none] [] g = if 1 < x1 then mEv X call 1 t_X5_clock (mDrop t_X5_clock 30) [some (mr 6 18), some (mi x1), some (mi x2), none] [] g else mEv X call 1 t_X5_clock (mDrop t_X5_clock 9) [some (mr 6 18), some (mi x1), some (mi x2), none] [] g := (mEv_3 _ _ _ _).trans rfl
theorem e_X5_clock_9 {X : mX} {call : Nat → List mV → mG → mR} {g : mG} {x1 x2 : Int32} : mEv X call 1 t_X5_clock (mDrop t_X5_clock 9) [some (mr 6 18), some (mi x1), some (mi x2), none] [] g = if x1 = 0 then mEv X call 1 t_X5_clock (mDrop t_X5_clock 13) [some (mr 6 18), some (mi x1), some (mi x2), none] [] g else mEv X call 1 t_X5_clock (mDrop t_X5_clock 23) [some (mr 6 18), some (mi x1), some (mi x2), none] [] g := (mEv_2 _ _ _ _).trans rfl
theorem e_X5_clock_13 {X : mX} {call : Nat → List mV → mG → mR} {g : mG} {x1 x2 : Int32} : mEv X call 1 t_X5_clock (mDrop t_X5_clock 13) [some (mr 6 18), some (mi x1), some (mi x2), none] [] g = mAns (mEv X call 1 t_X5_clock) (mDrop t_X5_clock 17) [some (mr 6 18), some (mi x1), some (mi x2), none] [] (call 139 [mi x2] g) := (mEv_2 _ _ _ _).trans rfl
theorem e_X5_clock_17 {X : mX} {call : Nat → List mV → mG → mR} {g : mG} {x1 x2 s0 : Int32} : mEv X call 1 t_X5_clock (mDrop t_X5_clock 17) [some (mr 6 18), some (mi x1), some (mi x2), none] [mi s0] g = if s0 = 0 then mEv X call 1 t_X5_clock (mDrop t_X5_clock 30) [some (mr 6 18), some (mi x1), some (mi x2), none] [] g else mEv X call 1 t_X5_clock (mDrop t_X5_clock 20) [some (mr 6 18), some (mi x1), some (mi x2), none] [] g := (mEv_1 _ _ _ _).trans rfl
theorem e_X5_clock_20 {X : mX} {call : Nat → List mV → mG → mR} {g : mG} {x1 x2 : Int32} : mEv X call 1 t_X5_clock (mDrop t_X5_clock 20) [some (mr 6 18), some (mi x1), some (mi x2), none] [] g = mEv X call 1 t_X5_clock (mDrop t_X5_clock 36) [some (mr 6 18), some (mi x1), some (mi x2), none] [] g := (mEv_1 _ _ _ _).trans rfl
theorem e_X5_clock_36 {X : mX} {call : Nat → List mV → mG → mR} {g : mG} {x1 x2 : Int32} : mEv X call 1 t_X5_clock (mDrop t_X5_clock 36) [some (mr 6 18), some (mi x1), some (mi x2), none] [] g = if x1 = 0 then mEv X call 1 t_X5_clock (mDrop t_X5_clock 40) [some (mr 6 18), some (mi x1), some (mi x2), none] [] g else mEv X call 1 t_X5_clock (mDrop t_X5_clock 53) [some (mr 6 18), some (mi x1), some (mi x2), none] [] g := (mEv_2 _ _ _ _).trans rfl
theorem e_X5_clock_40 {X : mX} {call : Nat → List mV → mG → mR} {g : mG} {x1 x2 : Int32} : mEv X call 1 t_X5_clock (mDrop t_X5_clock 40) [some (mr 6 18), some (mi x1), some (mi x2), none] [] g = mEv X call 1 t_X5_clock (mDrop t_X5_clock 63) [some (mr 6 18), some (mi x1), some (mi x2), none] [mi (g 0 1 1)] g := (mEv_5 _ _ _ _).trans rfl
theorem e_X5_clock_63 {X : mX} {call : Nat → List mV → mG → mR} {g : mG} {x1 x2 s0 : Int32} : mEv X call 1 t_X5_clock (mDrop t_X5_clock 63) [some (mr 6 18), some (mi x1), some (mi x2), none] [mi s0] g = if s0 = x2 then mEv X call 1 t_X5_clock (mDrop t_X5_clock 69) [some (mr 6 18), some (mi x1), some (mi x2), some (mi s0)] [] g else mEv X call 1 t_X5_clock (mDrop t_X5_clock 75) [some (mr 6 18), some (mi x1), some (mi x2), some (mi s0)] [] g := (mEv_4 _ _ _ _).trans rfl
theorem e_X5_clock_69 {X : mX} {call : Nat → List mV → mG → mR} {g : mG} {x1 x2 x3 : Int32} : mEv X call 1 t_X5_clock (mDrop t_X5_clock 69) [some (mr 6 18), some (mi x1), some (mi x2), some (mi x3)] [] g = mAns (mEv X call 1 t_X5_clock) (mDrop t_X5_clock 74) [some (mr 6 18), some (mi x1), some (mi x2), some (mi x3)] [] (call 132 [mr 6 18, mi 4] g) := (mEv_3 _ _ _ _).trans rfl
theorem e_X5_clock_74 {X : mX} {call : Nat → List mV → mG → mR} {g : mG} {x1 x2 x3 s0 : Int32} : mEv X call 1 t_X5_clock (mDrop t_X5_clock 74) [some (mr 6 18), some (mi x1), some (mi x2), some (mi x3)] [mi s0] g = some (some (mi s0), g) := (mEv_1 _ _ _ _).trans rfl
theorem e_X5_clock_75 {X : mX} {call : Nat → List mV → mG → mR} {g : mG} {x1 x2 x3 : Int32} : mEv X call 1 t_X5_clock (mDrop t_X5_clock 75) [some (mr 6 18), some (mi x1), some (mi x2), some (mi x3)] [] g = if x1 = 0 then mEv X call 1 t_X5_clock (mDrop t_X5_clock 79) [some (mr 6 18), some (mi x1), some (mi x2), some (mi x3)] [] g else mEv X call 1 t_X5_clock (mDrop t_X5_clock 90) [some (mr 6 18), some (mi x1), some (mi x2), some (mi x3)] [] g := (mEv_2 _ _ _ _).trans rfl
theorem e_X5_clock_79 {X : mX} {call : Nat → List mV → mG → mR} {g : mG} {x1 x2 x3 : Int32} : mEv X call 1 t_X5_clock (mDrop t_X5_clock 79) [some (mr 6 18), some (mi x1), some (mi x2), some (mi x3)] [] g = mAns (mEv X call 1 t_X5_clock) (mDrop t_X5_clock 87) [some (mr 6 18), some (mi x1), some (mi x2), some (mi x3)] [] (call 19 [mr 0 0, mi x2] g) := (mEv_4 _ _ _ _).trans rfl
theorem e_X5_clock_87 {X : mX} {call : Nat → List mV → mG → mR} {g : mG} {x1 x2 x3 : Int32} : mEv X call 1 t_X5_clock (mDrop t_X5_clock 87) [some (mr 6 18), some (mi x1), some (mi x2), some (mi x3)] [] g = mEv X call 1 t_X5_clock (mDrop t_X5_clock 101) [some (mr 6 18), some (mi x1), some (mi x2), some (mi x3)] [] g := (mEv_1 _ _ _ _).trans rfl
theorem e_X5_clock_101 {X : mX} {call : Nat → List mV → mG → mR} {g : mG} {x1 x2 x3 : Int32} : mEv X call 1 t_X5_clock (mDrop t_X5_clock 101) [some (mr 6 18), some (mi x1), some (mi x2), some (mi x3)] [] g = mAns (mEv X call 1 t_X5_clock) (mDrop t_X5_clock 106) [some (mr 6 18), some (mi x1), some (mi x2), some (mi x3)] [] (call 131 [mr 6 18, mi x3] g) := (mEv_3 _ _ _ _).trans rfl
theorem e_X5_clock_106 {X : mX} {call : Nat → List mV → mG → mR} {g : mG} {x1 x2 x3 s0 : Int32} : mEv X call 1 t_X5_clock (mDrop t_X5_clock 106) [some (mr 6 18), some (mi x1), some (mi x2), some (mi x3)] [mi s0] g = some (some (mi s0), g) := (mEv_1 _ _ _ _).trans rfl
noncomputable def J_X5_clock_101 (g : mG) (x3 : Int32) : (Int32 × mG) := (mBd (α := Int32 × mG) (P_X5_answer g x3) (fun p1 => (p1.1, p1.2)))
theorem rj_X5_clock_101 (d : Nat) {X : mX} {g : mG} {x1 x2 x3 : Int32} : mEv X (mCall mD X (d + 2)) 1 t_X5_clock (mDrop t_X5_clock 101) [some (mr 6 18), some (mi x1), some (mi x2), some (mi x3)] [] g = (wG) (J_X5_clock_101 g x3) := by
  refine Eq.trans (e_X5_clock_101) ?_
  refine mw_gW (rr_X5_answer (d + 1)) (fun p1 => ?_)
  refine Eq.trans (e_X5_clock_106) ?_
  all_goals rfl
theorem e_X5_clock_90 {X : mX} {call : Nat → List mV → mG → mR} {g : mG} {x1 x2 x3 : Int32} : mEv X call 1 t_X5_clock (mDrop t_X5_clock 90) [some (mr 6 18), some (mi x1), some (mi x2), some (mi x3)] [] g = mEv X call 1 t_X5_clock (mDrop t_X5_clock 101) [some (mr 6 18), some (mi x1), some (mi x2), some (mi x3)] [] (mU g 0 (mP (g 0) 1 2 x2)) := (mEv_5 _ _ _ _).trans rfl
noncomputable def J_X5_clock_63 (g : mG) (x1 : Int32) (x2 : Int32) (s0 : Int32) : (Int32 × mG) := (if s0 = x2 then (mBd (α := Int32 × mG) (P_X5_refuse g 4) (fun p1 => (p1.1, p1.2))) else (if x1 = 0 then (mBd (α := mG) (mU g 0 (P_X0_takeCycle (g 0) x2)) (fun g2 => (J_X5_clock_101 g2 s0))) else (J_X5_clock_101 (mU g 0 (mP (g 0) 1 2 x2)) s0)))
theorem rj_X5_clock_63 (d : Nat) {X : mX} {g : mG} {x1 x2 s0 : Int32} : mEv X (mCall mD X (d + 2)) 1 t_X5_clock (mDrop t_X5_clock 63) [some (mr 6 18), some (mi x1), some (mi x2), none] [mi s0] g = (wG) (J_X5_clock_63 g x1 x2 s0) := by
  refine Eq.trans (e_X5_clock_63) ?_
  refine mw_ite (fun h4 => ?_) (fun h4 => ?_)
  · refine Eq.trans (e_X5_clock_69) ?_
    refine mw_gW (rr_X5_refuse (d + 1)) (fun p1 => ?_)
    refine Eq.trans (e_X5_clock_74) ?_
    all_goals rfl
  · refine Eq.trans (e_X5_clock_75) ?_
    refine mw_ite (fun h3 => ?_) (fun h3 => ?_)
    · refine Eq.trans (e_X5_clock_79) ?_
      refine mw_gV (rr_X0_takeCycle_at d) (fun g2 => ?_)
      refine Eq.trans (e_X5_clock_87) ?_
      exact rj_X5_clock_101 d
    · refine Eq.trans (e_X5_clock_90) ?_
      exact rj_X5_clock_101 d
theorem e_X5_clock_53 {X : mX} {call : Nat → List mV → mG → mR} {g : mG} {x1 x2 : Int32} : mEv X call 1 t_X5_clock (mDrop t_X5_clock 53) [some (mr 6 18), some (mi x1), some (mi x2), none] [] g = mEv X call 1 t_X5_clock (mDrop t_X5_clock 63) [some (mr 6 18), some (mi x1), some (mi x2), none] [mi (g 0 1 2)] g := (mEv_4 _ _ _ _).trans rfl
noncomputable def J_X5_clock_36 (g : mG) (x1 : Int32) (x2 : Int32) : (Int32 × mG) := (if x1 = 0 then (J_X5_clock_63 g x1 x2 (g 0 1 1)) else (J_X5_clock_63 g x1 x2 (g 0 1 2)))
theorem rj_X5_clock_36 (d : Nat) {X : mX} {g : mG} {x1 x2 : Int32} : mEv X (mCall mD X (d + 2)) 1 t_X5_clock (mDrop t_X5_clock 36) [some (mr 6 18), some (mi x1), some (mi x2), none] [] g = (wG) (J_X5_clock_36 g x1 x2) := by
  refine Eq.trans (e_X5_clock_36) ?_
  refine mw_ite (fun h1 => ?_) (fun h1 => ?_)
  · refine Eq.trans (e_X5_clock_40) ?_
    exact rj_X5_clock_63 d
  · refine Eq.trans (e_X5_clock_53) ?_
    exact rj_X5_clock_63 d
theorem e_X5_clock_23 {X : mX} {call : Nat → List mV → mG → mR} {g : mG} {x1 x2 : Int32} : mEv X call 1 t_X5_clock (mDrop t_X5_clock 23) [some (mr 6 18), some (mi x1), some (mi x2), none] [] g = mAns (mEv X call 1 t_X5_clock) (mDrop t_X5_clock 27) [some (mr 6 18), some (mi x1), some (mi x2), none] [] (call 140 [mi x2] g) := (mEv_2 _ _ _ _).trans rfl
theorem e_X5_clock_27 {X : mX} {call : Nat → List mV → mG → mR} {g : mG} {x1 x2 s0 : Int32} : mEv X call 1 t_X5_clock (mDrop t_X5_clock 27) [some (mr 6 18), some (mi x1), some (mi x2), none] [mi s0] g = if s0 = 0 then mEv X call 1 t_X5_clock (mDrop t_X5_clock 30) [some (mr 6 18), some (mi x1), some (mi x2), none] [] g else mEv X call 1 t_X5_clock (mDrop t_X5_clock 36) [some (mr 6 18), some (mi x1), some (mi x2), none] [] g := (mEv_1 _ _ _ _).trans rfl
noncomputable def P_X5_clock (g : mG) (x1 : Int32) (x2 : Int32) : (Int32 × mG) := (if x1 < 0 then (J_X5_clock_30 g) else (if 1 < x1 then (J_X5_clock_30 g) else (if x1 = 0 then (mBd (α := Int32) (P_X5_isCycle x2) (fun v1 => (if v1 = 0 then (J_X5_clock_30 g) else (J_X5_clock_36 g x1 x2)))) else (mBd (α := Int32) (P_X5_isOffset x2) (fun v3 => (if v3 = 0 then (J_X5_clock_30 g) else (J_X5_clock_36 g x1 x2)))))))
theorem rr_X5_clock (d : Nat) {X : mX} {g : mG} {x1 x2 : Int32} : mCall mD X (d + 3) 109 [mr 6 18, mi x1, mi x2] g = (wG) (P_X5_clock g x1 x2) := by
  refine Eq.trans (mCall_eq (d := d + 2) rfl) ?_
  show mEv X (mCall mD X (d + 2)) 1 t_X5_clock (mDrop t_X5_clock 0) [some (mr 6 18), some (mi x1), some (mi x2), none] [] g = _
  refine Eq.trans (e_X5_clock_0) ?_
  refine mw_ite (fun h7 => ?_) (fun h7 => ?_)
  · exact rj_X5_clock_30 d
  · refine Eq.trans (e_X5_clock_4) ?_
    refine mw_ite (fun h6 => ?_) (fun h6 => ?_)
    · exact rj_X5_clock_30 d
    · refine Eq.trans (e_X5_clock_9) ?_
      refine mw_ite (fun h5 => ?_) (fun h5 => ?_)
      · refine Eq.trans (e_X5_clock_13) ?_
        refine mw_cZ (rr_X5_isCycle (d + 1)) rfl (fun v1 hv1 => ?_)
        refine Eq.trans (e_X5_clock_17) ?_
        refine mw_ite (fun h2 => ?_) (fun h2 => ?_)
        · exact rj_X5_clock_30 d
        · refine Eq.trans (e_X5_clock_20) ?_
          exact rj_X5_clock_36 d
      · refine Eq.trans (e_X5_clock_23) ?_
        refine mw_cZ (rr_X5_isOffset (d + 1)) rfl (fun v3 hv3 => ?_)
        refine Eq.trans (e_X5_clock_27) ?_
        refine mw_ite (fun h4 => ?_) (fun h4 => ?_)
        · exact rj_X5_clock_30 d
        · exact rj_X5_clock_36 d
theorem e_X5_deny_0 {X : mX} {call : Nat → List mV → mG → mR} {g : mG} {x1 : Int32} : mEv X call 2 t_X5_deny (mDrop t_X5_deny 0) [some (mr 6 18), some (mi x1)] [] g = mEv X call 2 t_X5_deny (mDrop t_X5_deny 5) [some (mr 6 18), some (mi x1)] [] (mU g 6 (mP (g 6) 18 9 x1)) := (mEv_3 _ _ _ _).trans rfl
theorem e_X5_deny_5 {X : mX} {call : Nat → List mV → mG → mR} {g : mG} {x1 : Int32} : mEv X call 2 t_X5_deny (mDrop t_X5_deny 5) [some (mr 6 18), some (mi x1)] [] g = if (0 : Int32) &&& 1 = 0 then some (some (mi 0), g) else none := (mEv_2 _ _ _ _).trans rfl
noncomputable def P_X5_deny (g : mG) (x1 : Int32) : (Int32 × mG) := (0, (mU g 6 (mP (g 6) 18 9 x1)))
theorem rr_X5_deny (d : Nat) {X : mX} {g : mG} {x1 : Int32} : mCall mD X (d + 1) 134 [mr 6 18, mi x1] g = (wG) (P_X5_deny g x1) := by
  refine Eq.trans (mCall_eq (d := d + 0) rfl) ?_
  show mEv X (mCall mD X (d + 0)) 2 t_X5_deny (mDrop t_X5_deny 0) [some (mr 6 18), some (mi x1)] [] g = _
  refine Eq.trans (e_X5_deny_0) ?_
  refine Eq.trans (e_X5_deny_5) ?_
  exact if_pos (by decide)
theorem e_X5_grant_0 {X : mX} {call : Nat → List mV → mG → mR} {g : mG} : mEv X call 2 t_X5_grant (mDrop t_X5_grant 0) [some (mr 6 18)] [] g = mEv X call 2 t_X5_grant (mDrop t_X5_grant 5) [some (mr 6 18)] [] (mU g 6 (mP (g 6) 18 9 0)) := (mEv_3 _ _ _ _).trans rfl
theorem e_X5_grant_5 {X : mX} {call : Nat → List mV → mG → mR} {g : mG} : mEv X call 2 t_X5_grant (mDrop t_X5_grant 5) [some (mr 6 18)] [] g = if (1 : Int32) &&& 1 = 1 then some (some (mi 1), g) else none := (mEv_2 _ _ _ _).trans rfl
noncomputable def P_X5_grant (g : mG) : (Int32 × mG) := (1, (mU g 6 (mP (g 6) 18 9 0)))
theorem rr_X5_grant (d : Nat) {X : mX} {g : mG} : mCall mD X (d + 1) 133 [mr 6 18] g = (wG) (P_X5_grant g) := by
  refine Eq.trans (mCall_eq (d := d + 0) rfl) ?_
  show mEv X (mCall mD X (d + 0)) 2 t_X5_grant (mDrop t_X5_grant 0) [some (mr 6 18)] [] g = _
  refine Eq.trans (e_X5_grant_0) ?_
  refine Eq.trans (e_X5_grant_5) ?_
  exact if_pos (by decide)
theorem e_X5_call_0 {X : mX} {call : Nat → List mV → mG → mR} {g : mG} {x1 x2 : Int32} : mEv X call 2 t_X5_call (mDrop t_X5_call 0) [some (mr 6 18), some (mi x1), some (mi x2)] [] g = mAns (mEv X call 2 t_X5_call) (mDrop t_X5_call 11) [some (mr 6 18), some (mi x1), some (mi x2)] [] (call 54 [mr 0 1, mi x1] g) := (mEv_5 _ _ _ _).trans rfl
theorem e_X5_call_11 {X : mX} {call : Nat → List mV → mG → mR} {g : mG} {x1 x2 s0 : Int32} : mEv X call 2 t_X5_call (mDrop t_X5_call 11) [some (mr 6 18), some (mi x1), some (mi x2)] [mi s0] g = if s0 = 0 then mEv X call 2 t_X5_call (mDrop t_X5_call 14) [some (mr 6 18), some (mi x1), some (mi x2)] [] g else mEv X call 2 t_X5_call (mDrop t_X5_call 20) [some (mr 6 18), some (mi x1), some (mi x2)] [] g := (mEv_1 _ _ _ _).trans rfl
theorem e_X5_call_14 {X : mX} {call : Nat → List mV → mG → mR} {g : mG} {x1 x2 : Int32} : mEv X call 2 t_X5_call (mDrop t_X5_call 14) [some (mr 6 18), some (mi x1), some (mi x2)] [] g = mAns (mEv X call 2 t_X5_call) (mDrop t_X5_call 19) [some (mr 6 18), some (mi x1), some (mi x2)] [] (call 134 [mr 6 18, mi 2] g) := (mEv_3 _ _ _ _).trans rfl
theorem e_X5_call_19 {X : mX} {call : Nat → List mV → mG → mR} {g : mG} {x1 x2 s0 : Int32} : mEv X call 2 t_X5_call (mDrop t_X5_call 19) [some (mr 6 18), some (mi x1), some (mi x2)] [mi s0] g = if (s0 : Int32) &&& 1 = s0 then some (some (mi s0), g) else none := (mEv_1 _ _ _ _).trans rfl
theorem e_X5_call_20 {X : mX} {call : Nat → List mV → mG → mR} {g : mG} {x1 x2 : Int32} : mEv X call 2 t_X5_call (mDrop t_X5_call 20) [some (mr 6 18), some (mi x1), some (mi x2)] [] g = if x2 = 0 then mEv X call 2 t_X5_call (mDrop t_X5_call 34) [some (mr 6 18), some (mi x1), some (mi x2)] [] g else mEv X call 2 t_X5_call (mDrop t_X5_call 24) [some (mr 6 18), some (mi x1), some (mi x2)] [] g := (mEv_2 _ _ _ _).trans rfl
theorem e_X5_call_34 {X : mX} {call : Nat → List mV → mG → mR} {g : mG} {x1 x2 : Int32} : mEv X call 2 t_X5_call (mDrop t_X5_call 34) [some (mr 6 18), some (mi x1), some (mi x2)] [] g = mEv X call 2 t_X5_call (mDrop t_X5_call 41) [some (mr 6 18), some (mi x1), some (mi x2)] [mi (g 0 0 7)] g := (mEv_3 _ _ _ _).trans rfl
theorem e_X5_call_41 {X : mX} {call : Nat → List mV → mG → mR} {g : mG} {x1 x2 s0 : Int32} : mEv X call 2 t_X5_call (mDrop t_X5_call 41) [some (mr 6 18), some (mi x1), some (mi x2)] [mi s0] g = mAns (mEv X call 2 t_X5_call) (mDrop t_X5_call 45) [some (mr 6 18), some (mi x1), some (mi x2)] [] (call 149 [mi s0, mi x1] g) := (mEv_2 _ _ _ _).trans rfl
theorem e_X5_call_45 {X : mX} {call : Nat → List mV → mG → mR} {g : mG} {x1 x2 s0 : Int32} : mEv X call 2 t_X5_call (mDrop t_X5_call 45) [some (mr 6 18), some (mi x1), some (mi x2)] [mi s0] g = if s0 = 0 then mEv X call 2 t_X5_call (mDrop t_X5_call 54) [some (mr 6 18), some (mi x1), some (mi x2)] [] g else mEv X call 2 t_X5_call (mDrop t_X5_call 48) [some (mr 6 18), some (mi x1), some (mi x2)] [] g := (mEv_1 _ _ _ _).trans rfl
theorem e_X5_call_54 {X : mX} {call : Nat → List mV → mG → mR} {g : mG} {x1 x2 : Int32} : mEv X call 2 t_X5_call (mDrop t_X5_call 54) [some (mr 6 18), some (mi x1), some (mi x2)] [] g = if x2 = 0 then mEv X call 2 t_X5_call (mDrop t_X5_call 79) [some (mr 6 18), some (mi x1), some (mi x2)] [] g else mEv X call 2 t_X5_call (mDrop t_X5_call 58) [some (mr 6 18), some (mi x1), some (mi x2)] [] g := (mEv_2 _ _ _ _).trans rfl
theorem e_X5_call_79 {X : mX} {call : Nat → List mV → mG → mR} {g : mG} {x1 x2 : Int32} : mEv X call 2 t_X5_call (mDrop t_X5_call 79) [some (mr 6 18), some (mi x1), some (mi x2)] [] g = if ((g 0 0 15) &&& 1) = 0 then mEv X call 2 t_X5_call (mDrop t_X5_call 96) [some (mr 6 18), some (mi x1), some (mi x2)] [] g else mEv X call 2 t_X5_call (mDrop t_X5_call 89) [some (mr 6 18), some (mi x1), some (mi x2)] [] g := (mEv_4 _ _ _ _).trans rfl
theorem e_X5_call_96 {X : mX} {call : Nat → List mV → mG → mR} {g : mG} {x1 x2 : Int32} : mEv X call 2 t_X5_call (mDrop t_X5_call 96) [some (mr 6 18), some (mi x1), some (mi x2)] [] g = if x2 = 0 then mEv X call 2 t_X5_call (mDrop t_X5_call 119) [some (mr 6 18), some (mi x1), some (mi x2)] [] g else mEv X call 2 t_X5_call (mDrop t_X5_call 100) [some (mr 6 18), some (mi x1), some (mi x2)] [] g := (mEv_2 _ _ _ _).trans rfl
theorem e_X5_call_119 {X : mX} {call : Nat → List mV → mG → mR} {g : mG} {x1 x2 : Int32} : mEv X call 2 t_X5_call (mDrop t_X5_call 119) [some (mr 6 18), some (mi x1), some (mi x2)] [] g = mAns (mEv X call 2 t_X5_call) (mDrop t_X5_call 127) [some (mr 6 18), some (mi x1), some (mi x2)] [] (call 17 [mr 0 0, mi x1] g) := (mEv_4 _ _ _ _).trans rfl
theorem e_X5_call_127 {X : mX} {call : Nat → List mV → mG → mR} {g : mG} {x1 x2 : Int32} : mEv X call 2 t_X5_call (mDrop t_X5_call 127) [some (mr 6 18), some (mi x1), some (mi x2)] [] g = mAns (mEv X call 2 t_X5_call) (mDrop t_X5_call 131) [some (mr 6 18), some (mi x1), some (mi x2)] [] (call 133 [mr 6 18] g) := (mEv_2 _ _ _ _).trans rfl
theorem e_X5_call_131 {X : mX} {call : Nat → List mV → mG → mR} {g : mG} {x1 x2 s0 : Int32} : mEv X call 2 t_X5_call (mDrop t_X5_call 131) [some (mr 6 18), some (mi x1), some (mi x2)] [mi s0] g = if (s0 : Int32) &&& 1 = s0 then some (some (mi s0), g) else none := (mEv_1 _ _ _ _).trans rfl
noncomputable def J_X5_call_127 (g : mG) : (Int32 × mG) := (mBd (α := Int32 × mG) (P_X5_grant g) (fun p1 => (p1.1, p1.2)))
theorem rj_X5_call_127 (d : Nat) {X : mX} {g : mG} {x1 x2 : Int32} : mEv X (mCall mD X (d + 3)) 2 t_X5_call (mDrop t_X5_call 127) [some (mr 6 18), some (mi x1), some (mi x2)] [] g = (wG) (J_X5_call_127 g) := by
  refine Eq.trans (e_X5_call_127) ?_
  refine mw_gY (rr_X5_grant (d + 2)) rfl (fun p1 hp1 => ?_)
  refine Eq.trans (e_X5_call_131) ?_
  exact if_pos hp1
theorem e_X5_call_100 {X : mX} {call : Nat → List mV → mG → mR} {g : mG} {x1 x2 : Int32} : mEv X call 2 t_X5_call (mDrop t_X5_call 100) [some (mr 6 18), some (mi x1), some (mi x2)] [] g = mAns (mEv X call 2 t_X5_call) (mDrop t_X5_call 112) [some (mr 6 18), some (mi x1), some (mi x2)] [mi (g 0 0 8), mr 0 0] (call 147 [mi x1] g) := (mEv_6 _ _ _ _).trans rfl
theorem e_X5_call_112 {X : mX} {call : Nat → List mV → mG → mR} {g : mG} {x1 x2 s1 s2 : Int32} : mEv X call 2 t_X5_call (mDrop t_X5_call 112) [some (mr 6 18), some (mi x1), some (mi x2)] [mi s2, mi s1, mr 0 0] g = mEv X call 2 t_X5_call (mDrop t_X5_call 116) [some (mr 6 18), some (mi x1), some (mi x2)] [] (mU g 0 (mP (g 0) 0 8 (s1 ||| s2))) := (mEv_2 _ _ _ _).trans rfl
theorem e_X5_call_116 {X : mX} {call : Nat → List mV → mG → mR} {g : mG} {x1 x2 : Int32} : mEv X call 2 t_X5_call (mDrop t_X5_call 116) [some (mr 6 18), some (mi x1), some (mi x2)] [] g = mEv X call 2 t_X5_call (mDrop t_X5_call 127) [some (mr 6 18), some (mi x1), some (mi x2)] [] g := (mEv_1 _ _ _ _).trans rfl
theorem e_X5_call_89 {X : mX} {call : Nat → List mV → mG → mR} {g : mG} {x1 x2 : Int32} : mEv X call 2 t_X5_call (mDrop t_X5_call 89) [some (mr 6 18), some (mi x1), some (mi x2)] [] g = mAns (mEv X call 2 t_X5_call) (mDrop t_X5_call 95) [some (mr 6 18), some (mi x1), some (mi x2)] [] (call 134 [mr 6 18, mi 8] g) := (mEv_3 _ _ _ _).trans rfl
theorem e_X5_call_95 {X : mX} {call : Nat → List mV → mG → mR} {g : mG} {x1 x2 s0 : Int32} : mEv X call 2 t_X5_call (mDrop t_X5_call 95) [some (mr 6 18), some (mi x1), some (mi x2)] [mi s0] g = if (s0 : Int32) &&& 1 = s0 then some (some (mi s0), g) else none := (mEv_1 _ _ _ _).trans rfl
noncomputable def J_X5_call_79 (g : mG) (x1 : Int32) (x2 : Int32) : (Int32 × mG) := (if ((g 0 0 15) &&& 1) = 0 then (if x2 = 0 then (mBd (α := mG) (mU g 0 (P_X0_takeCall (g 0) x1)) (fun g1 => (J_X5_call_127 g1))) else (mBd (α := Int32) (P_X5_bit x1) (fun v2 => (J_X5_call_127 (mU g 0 (mP (g 0) 0 8 ((g 0 0 8) ||| v2))))))) else (mBd (α := Int32 × mG) (P_X5_deny g 8) (fun p4 => (p4.1, p4.2))))
theorem rj_X5_call_79 (d : Nat) {X : mX} {g : mG} {x1 x2 : Int32} : mEv X (mCall mD X (d + 3)) 2 t_X5_call (mDrop t_X5_call 79) [some (mr 6 18), some (mi x1), some (mi x2)] [] g = (wG) (J_X5_call_79 g x1 x2) := by
  refine Eq.trans (e_X5_call_79) ?_
  refine mw_ite (fun h5 => ?_) (fun h5 => ?_)
  · refine Eq.trans (e_X5_call_96) ?_
    refine mw_ite (fun h3 => ?_) (fun h3 => ?_)
    · refine Eq.trans (e_X5_call_119) ?_
      refine mw_gV (rr_X0_takeCall_at d) (fun g1 => ?_)
      exact rj_X5_call_127 d
    · refine Eq.trans (e_X5_call_100) ?_
      refine mw_cI (rr_X5_bit (d + 2)) (fun v2 => ?_)
      refine Eq.trans (e_X5_call_112) ?_
      refine Eq.trans (e_X5_call_116) ?_
      exact rj_X5_call_127 d
  · refine Eq.trans (e_X5_call_89) ?_
    refine mw_gY (rr_X5_deny (d + 2)) rfl (fun p4 hp4 => ?_)
    refine Eq.trans (e_X5_call_95) ?_
    exact if_pos hp4
theorem e_X5_call_58 {X : mX} {call : Nat → List mV → mG → mR} {g : mG} {x1 x2 : Int32} : mEv X call 2 t_X5_call (mDrop t_X5_call 58) [some (mr 6 18), some (mi x1), some (mi x2)] [] g = mAns (mEv X call 2 t_X5_call) (mDrop t_X5_call 70) [some (mr 6 18), some (mi x1), some (mi x2)] [] (call 57 [mr 0 1, mi x1, mi 5] g) := (mEv_6 _ _ _ _).trans rfl
theorem e_X5_call_70 {X : mX} {call : Nat → List mV → mG → mR} {g : mG} {x1 x2 s0 : Int32} : mEv X call 2 t_X5_call (mDrop t_X5_call 70) [some (mr 6 18), some (mi x1), some (mi x2)] [mi s0] g = if s0 = 0 then mEv X call 2 t_X5_call (mDrop t_X5_call 73) [some (mr 6 18), some (mi x1), some (mi x2)] [] g else mEv X call 2 t_X5_call (mDrop t_X5_call 79) [some (mr 6 18), some (mi x1), some (mi x2)] [] g := (mEv_1 _ _ _ _).trans rfl
theorem e_X5_call_73 {X : mX} {call : Nat → List mV → mG → mR} {g : mG} {x1 x2 : Int32} : mEv X call 2 t_X5_call (mDrop t_X5_call 73) [some (mr 6 18), some (mi x1), some (mi x2)] [] g = mAns (mEv X call 2 t_X5_call) (mDrop t_X5_call 78) [some (mr 6 18), some (mi x1), some (mi x2)] [] (call 134 [mr 6 18, mi 5] g) := (mEv_3 _ _ _ _).trans rfl
theorem e_X5_call_78 {X : mX} {call : Nat → List mV → mG → mR} {g : mG} {x1 x2 s0 : Int32} : mEv X call 2 t_X5_call (mDrop t_X5_call 78) [some (mr 6 18), some (mi x1), some (mi x2)] [mi s0] g = if (s0 : Int32) &&& 1 = s0 then some (some (mi s0), g) else none := (mEv_1 _ _ _ _).trans rfl
theorem e_X5_call_48 {X : mX} {call : Nat → List mV → mG → mR} {g : mG} {x1 x2 : Int32} : mEv X call 2 t_X5_call (mDrop t_X5_call 48) [some (mr 6 18), some (mi x1), some (mi x2)] [] g = mAns (mEv X call 2 t_X5_call) (mDrop t_X5_call 53) [some (mr 6 18), some (mi x1), some (mi x2)] [] (call 134 [mr 6 18, mi 4] g) := (mEv_3 _ _ _ _).trans rfl
theorem e_X5_call_53 {X : mX} {call : Nat → List mV → mG → mR} {g : mG} {x1 x2 s0 : Int32} : mEv X call 2 t_X5_call (mDrop t_X5_call 53) [some (mr 6 18), some (mi x1), some (mi x2)] [mi s0] g = if (s0 : Int32) &&& 1 = s0 then some (some (mi s0), g) else none := (mEv_1 _ _ _ _).trans rfl
noncomputable def J_X5_call_41 (g : mG) (x1 : Int32) (x2 : Int32) (s0 : Int32) : (Int32 × mG) := (mBd (α := Int32) (P_X5_inSet s0 x1) (fun v1 => (if v1 = 0 then (if x2 = 0 then (J_X5_call_79 g x1 x2) else (mBd (α := Int32) (P_X2_markOf (g 0) x1 5) (fun v2 => (if v2 = 0 then (mBd (α := Int32 × mG) (P_X5_deny g 5) (fun p3 => (p3.1, p3.2))) else (J_X5_call_79 g x1 x2))))) else (mBd (α := Int32 × mG) (P_X5_deny g 4) (fun p6 => (p6.1, p6.2))))))
theorem rj_X5_call_41 (d : Nat) {X : mX} {g : mG} {x1 x2 s0 : Int32} : mEv X (mCall mD X (d + 3)) 2 t_X5_call (mDrop t_X5_call 41) [some (mr 6 18), some (mi x1), some (mi x2)] [mi s0] g = (wG) (J_X5_call_41 g x1 x2 s0) := by
  refine Eq.trans (e_X5_call_41) ?_
  refine mw_cZ (rr_X5_inSet (d + 2)) rfl (fun v1 hv1 => ?_)
  refine Eq.trans (e_X5_call_45) ?_
  refine mw_ite (fun h7 => ?_) (fun h7 => ?_)
  · refine Eq.trans (e_X5_call_54) ?_
    refine mw_ite (fun h5 => ?_) (fun h5 => ?_)
    · exact rj_X5_call_79 d
    · refine Eq.trans (e_X5_call_58) ?_
      refine mw_cI (rr_X2_markOf_at (d + 2)) (fun v2 => ?_)
      refine Eq.trans (e_X5_call_70) ?_
      refine mw_ite (fun h4 => ?_) (fun h4 => ?_)
      · refine Eq.trans (e_X5_call_73) ?_
        refine mw_gY (rr_X5_deny (d + 2)) rfl (fun p3 hp3 => ?_)
        refine Eq.trans (e_X5_call_78) ?_
        exact if_pos hp3
      · exact rj_X5_call_79 d
  · refine Eq.trans (e_X5_call_48) ?_
    refine mw_gY (rr_X5_deny (d + 2)) rfl (fun p6 hp6 => ?_)
    refine Eq.trans (e_X5_call_53) ?_
    exact if_pos hp6
theorem e_X5_call_24 {X : mX} {call : Nat → List mV → mG → mR} {g : mG} {x1 x2 : Int32} : mEv X call 2 t_X5_call (mDrop t_X5_call 24) [some (mr 6 18), some (mi x1), some (mi x2)] [] g = mEv X call 2 t_X5_call (mDrop t_X5_call 41) [some (mr 6 18), some (mi x1), some (mi x2)] [mi (g 0 0 8)] g := (mEv_4 _ _ _ _).trans rfl
noncomputable def P_X5_call (g : mG) (x1 : Int32) (x2 : Int32) : (Int32 × mG) := (mBd (α := Int32) (P_X2_hasPhase (g 0) x1) (fun v1 => (if v1 = 0 then (mBd (α := Int32 × mG) (P_X5_deny g 2) (fun p2 => (p2.1, p2.2))) else (if x2 = 0 then (J_X5_call_41 g x1 x2 (g 0 0 7)) else (J_X5_call_41 g x1 x2 (g 0 0 8))))))
theorem rr_X5_call (d : Nat) {X : mX} {g : mG} {x1 x2 : Int32} : mCall mD X (d + 4) 110 [mr 6 18, mi x1, mi x2] g = (wG) (P_X5_call g x1 x2) := by
  refine Eq.trans (mCall_eq (d := d + 3) rfl) ?_
  show mEv X (mCall mD X (d + 3)) 2 t_X5_call (mDrop t_X5_call 0) [some (mr 6 18), some (mi x1), some (mi x2)] [] g = _
  refine Eq.trans (e_X5_call_0) ?_
  refine mw_cZ (rr_X2_hasPhase_at (d + 2)) rfl (fun v1 hv1 => ?_)
  refine Eq.trans (e_X5_call_11) ?_
  refine mw_ite (fun h4 => ?_) (fun h4 => ?_)
  · refine Eq.trans (e_X5_call_14) ?_
    refine mw_gY (rr_X5_deny (d + 2)) rfl (fun p2 hp2 => ?_)
    refine Eq.trans (e_X5_call_19) ?_
    exact if_pos hp2
  · refine Eq.trans (e_X5_call_20) ?_
    refine mw_ite (fun h3 => ?_) (fun h3 => ?_)
    · refine Eq.trans (e_X5_call_34) ?_
      exact rj_X5_call_41 d
    · refine Eq.trans (e_X5_call_24) ?_
      exact rj_X5_call_41 d
theorem e_X5_come_0 {X : mX} {call : Nat → List mV → mG → mR} {g : mG} {x1 x2 : Int32} : mEv X call 1 t_X5_come (mDrop t_X5_come 0) [some (mr 6 18), some (mi x1), some (mi x2), none] [] g = if x2 < 1 then mEv X call 1 t_X5_come (mDrop t_X5_come 11) [some (mr 6 18), some (mi x1), some (mi x2), none] [] g else mEv X call 1 t_X5_come (mDrop t_X5_come 5) [some (mr 6 18), some (mi x1), some (mi x2), none] [] g := (mEv_3 _ _ _ _).trans rfl
theorem e_X5_come_11 {X : mX} {call : Nat → List mV → mG → mR} {g : mG} {x1 x2 : Int32} : mEv X call 1 t_X5_come (mDrop t_X5_come 11) [some (mr 6 18), some (mi x1), some (mi x2), none] [] g = mAns (mEv X call 1 t_X5_come) (mDrop t_X5_come 16) [some (mr 6 18), some (mi x1), some (mi x2), none] [] (call 132 [mr 6 18, mi 1] g) := (mEv_3 _ _ _ _).trans rfl
theorem e_X5_come_16 {X : mX} {call : Nat → List mV → mG → mR} {g : mG} {x1 x2 s0 : Int32} : mEv X call 1 t_X5_come (mDrop t_X5_come 16) [some (mr 6 18), some (mi x1), some (mi x2), none] [mi s0] g = some (some (mi s0), g) := (mEv_1 _ _ _ _).trans rfl
noncomputable def J_X5_come_11 (g : mG) : (Int32 × mG) := (mBd (α := Int32 × mG) (P_X5_refuse g 1) (fun p1 => (p1.1, p1.2)))
theorem rj_X5_come_11 (d : Nat) {X : mX} {g : mG} {x1 x2 : Int32} : mEv X (mCall mD X (d + 3)) 1 t_X5_come (mDrop t_X5_come 11) [some (mr 6 18), some (mi x1), some (mi x2), none] [] g = (wG) (J_X5_come_11 g) := by
  refine Eq.trans (e_X5_come_11) ?_
  refine mw_gW (rr_X5_refuse (d + 2)) (fun p1 => ?_)
  refine Eq.trans (e_X5_come_16) ?_
  all_goals rfl
theorem e_X5_come_5 {X : mX} {call : Nat → List mV → mG → mR} {g : mG} {x1 x2 : Int32} : mEv X call 1 t_X5_come (mDrop t_X5_come 5) [some (mr 6 18), some (mi x1), some (mi x2), none] [] g = if x2 ≤ 99 then mEv X call 1 t_X5_come (mDrop t_X5_come 17) [some (mr 6 18), some (mi x1), some (mi x2), none] [] g else mEv X call 1 t_X5_come (mDrop t_X5_come 11) [some (mr 6 18), some (mi x1), some (mi x2), none] [] g := (mEv_3 _ _ _ _).trans rfl
theorem e_X5_come_17 {X : mX} {call : Nat → List mV → mG → mR} {g : mG} {x1 x2 : Int32} : mEv X call 1 t_X5_come (mDrop t_X5_come 17) [some (mr 6 18), some (mi x1), some (mi x2), none] [] g = mAns (mEv X call 1 t_X5_come) (mDrop t_X5_come 28) [some (mr 6 18), some (mi x1), some (mi x2), none] [] (call 54 [mr 0 1, mi x1] g) := (mEv_5 _ _ _ _).trans rfl
theorem e_X5_come_28 {X : mX} {call : Nat → List mV → mG → mR} {g : mG} {x1 x2 s0 : Int32} : mEv X call 1 t_X5_come (mDrop t_X5_come 28) [some (mr 6 18), some (mi x1), some (mi x2), none] [mi s0] g = if s0 = 0 then mEv X call 1 t_X5_come (mDrop t_X5_come 31) [some (mr 6 18), some (mi x1), some (mi x2), none] [] g else mEv X call 1 t_X5_come (mDrop t_X5_come 37) [some (mr 6 18), some (mi x1), some (mi x2), none] [] g := (mEv_1 _ _ _ _).trans rfl
theorem e_X5_come_31 {X : mX} {call : Nat → List mV → mG → mR} {g : mG} {x1 x2 : Int32} : mEv X call 1 t_X5_come (mDrop t_X5_come 31) [some (mr 6 18), some (mi x1), some (mi x2), none] [] g = mAns (mEv X call 1 t_X5_come) (mDrop t_X5_come 36) [some (mr 6 18), some (mi x1), some (mi x2), none] [] (call 132 [mr 6 18, mi 2] g) := (mEv_3 _ _ _ _).trans rfl
theorem e_X5_come_36 {X : mX} {call : Nat → List mV → mG → mR} {g : mG} {x1 x2 s0 : Int32} : mEv X call 1 t_X5_come (mDrop t_X5_come 36) [some (mr 6 18), some (mi x1), some (mi x2), none] [mi s0] g = some (some (mi s0), g) := (mEv_1 _ _ _ _).trans rfl
theorem e_X5_come_37 {X : mX} {call : Nat → List mV → mG → mR} {g : mG} {x1 x2 : Int32} : mEv X call 1 t_X5_come (mDrop t_X5_come 37) [some (mr 6 18), some (mi x1), some (mi x2), none] [] g = mAns (mEv X call 1 t_X5_come) (mDrop t_X5_come 48) [some (mr 6 18), some (mi x1), some (mi x2), none] [] (call 142 [mr 0 14, mi x1] g) := (mEv_5 _ _ _ _).trans rfl
theorem e_X5_come_48 {X : mX} {call : Nat → List mV → mG → mR} {g : mG} {x1 x2 s0 : Int32} : mEv X call 1 t_X5_come (mDrop t_X5_come 48) [some (mr 6 18), some (mi x1), some (mi x2), none] [mi s0] g = if (s0 + x2) ≤ 99 then mEv X call 1 t_X5_come (mDrop t_X5_come 63) [some (mr 6 18), some (mi x1), some (mi x2), some (mi (s0 + x2))] [] g else mEv X call 1 t_X5_come (mDrop t_X5_come 57) [some (mr 6 18), some (mi x1), some (mi x2), some (mi (s0 + x2))] [] g := (mEv_6 _ _ _ _).trans rfl
theorem e_X5_come_63 {X : mX} {call : Nat → List mV → mG → mR} {g : mG} {x1 x2 x3 : Int32} : mEv X call 1 t_X5_come (mDrop t_X5_come 63) [some (mr 6 18), some (mi x1), some (mi x2), some (mi x3)] [] g = mAns (mEv X call 1 t_X5_come) (mDrop t_X5_come 72) [some (mr 6 18), some (mi x1), some (mi x2), some (mi x3)] [] (call 16 [mr 0 0, mi x1, mi x3] g) := (mEv_5 _ _ _ _).trans rfl
theorem e_X5_come_72 {X : mX} {call : Nat → List mV → mG → mR} {g : mG} {x1 x2 x3 : Int32} : mEv X call 1 t_X5_come (mDrop t_X5_come 72) [some (mr 6 18), some (mi x1), some (mi x2), some (mi x3)] [] g = mAns (mEv X call 1 t_X5_come) (mDrop t_X5_come 77) [some (mr 6 18), some (mi x1), some (mi x2), some (mi x3)] [] (call 131 [mr 6 18, mi x3] g) := (mEv_3 _ _ _ _).trans rfl
theorem e_X5_come_77 {X : mX} {call : Nat → List mV → mG → mR} {g : mG} {x1 x2 x3 s0 : Int32} : mEv X call 1 t_X5_come (mDrop t_X5_come 77) [some (mr 6 18), some (mi x1), some (mi x2), some (mi x3)] [mi s0] g = some (some (mi s0), g) := (mEv_1 _ _ _ _).trans rfl
theorem e_X5_come_57 {X : mX} {call : Nat → List mV → mG → mR} {g : mG} {x1 x2 x3 : Int32} : mEv X call 1 t_X5_come (mDrop t_X5_come 57) [some (mr 6 18), some (mi x1), some (mi x2), some (mi x3)] [] g = mAns (mEv X call 1 t_X5_come) (mDrop t_X5_come 62) [some (mr 6 18), some (mi x1), some (mi x2), some (mi x3)] [] (call 132 [mr 6 18, mi 3] g) := (mEv_3 _ _ _ _).trans rfl
theorem e_X5_come_62 {X : mX} {call : Nat → List mV → mG → mR} {g : mG} {x1 x2 x3 s0 : Int32} : mEv X call 1 t_X5_come (mDrop t_X5_come 62) [some (mr 6 18), some (mi x1), some (mi x2), some (mi x3)] [mi s0] g = some (some (mi s0), g) := (mEv_1 _ _ _ _).trans rfl
noncomputable def P_X5_come (g : mG) (x1 : Int32) (x2 : Int32) : (Int32 × mG) := (if x2 < 1 then (J_X5_come_11 g) else (if x2 ≤ 99 then (mBd (α := Int32) (P_X2_hasPhase (g 0) x1) (fun v1 => (if v1 = 0 then (mBd (α := Int32 × mG) (P_X5_refuse g 2) (fun p2 => (p2.1, p2.2))) else (mBd (α := Int32) (cl 8 (g 0 14) x1) (fun v3 => (if (v3 + x2) ≤ 99 then (mBd (α := mG) (mU g 0 (P_X0_putQueue (g 0) x1 (v3 + x2))) (fun g4 => (mBd (α := Int32 × mG) (P_X5_answer g4 (v3 + x2)) (fun p5 => (p5.1, p5.2))))) else (mBd (α := Int32 × mG) (P_X5_refuse g 3) (fun p6 => (p6.1, p6.2))))))))) else (J_X5_come_11 g)))
theorem rr_X5_come (d : Nat) {X : mX} {g : mG} {x1 x2 : Int32} : mCall mD X (d + 4) 111 [mr 6 18, mi x1, mi x2] g = (wG) (P_X5_come g x1 x2) := by
  refine Eq.trans (mCall_eq (d := d + 3) rfl) ?_
  show mEv X (mCall mD X (d + 3)) 1 t_X5_come (mDrop t_X5_come 0) [some (mr 6 18), some (mi x1), some (mi x2), none] [] g = _
  refine Eq.trans (e_X5_come_0) ?_
  refine mw_ite (fun h10 => ?_) (fun h10 => ?_)
  · exact rj_X5_come_11 d
  · refine Eq.trans (e_X5_come_5) ?_
    refine mw_ite (fun h9 => ?_) (fun h9 => ?_)
    · refine Eq.trans (e_X5_come_17) ?_
      refine mw_cZ (rr_X2_hasPhase_at (d + 2)) rfl (fun v1 hv1 => ?_)
      refine Eq.trans (e_X5_come_28) ?_
      refine mw_ite (fun h8 => ?_) (fun h8 => ?_)
      · refine Eq.trans (e_X5_come_31) ?_
        refine mw_gW (rr_X5_refuse (d + 2)) (fun p2 => ?_)
        refine Eq.trans (e_X5_come_36) ?_
        all_goals rfl
      · refine Eq.trans (e_X5_come_37) ?_
        refine mw_cI (rr_X5_cell_14_at (d + 2)) (fun v3 => ?_)
        refine Eq.trans (e_X5_come_48) ?_
        refine mw_ite (fun h7 => ?_) (fun h7 => ?_)
        · refine Eq.trans (e_X5_come_63) ?_
          refine mw_gV (rr_X0_putQueue_at d) (fun g4 => ?_)
          refine Eq.trans (e_X5_come_72) ?_
          refine mw_gW (rr_X5_answer (d + 2)) (fun p5 => ?_)
          refine Eq.trans (e_X5_come_77) ?_
          all_goals rfl
        · refine Eq.trans (e_X5_come_57) ?_
          refine mw_gW (rr_X5_refuse (d + 2)) (fun p6 => ?_)
          refine Eq.trans (e_X5_come_62) ?_
          all_goals rfl
    · exact rj_X5_come_11 d
theorem e_X5_ask_0 {X : mX} {call : Nat → List mV → mG → mR} {g : mG} {x1 : Int32} : mEv X call 2 t_X5_ask (mDrop t_X5_ask 0) [some (mr 6 18), some (mi x1)] [] g = mAns (mEv X call 2 t_X5_ask) (mDrop t_X5_ask 4) [some (mr 6 18), some (mi x1)] [] (call 138 [mi x1] g) := (mEv_2 _ _ _ _).trans rfl
theorem e_X5_ask_4 {X : mX} {call : Nat → List mV → mG → mR} {g : mG} {x1 s0 : Int32} : mEv X call 2 t_X5_ask (mDrop t_X5_ask 4) [some (mr 6 18), some (mi x1)] [mi s0] g = if s0 = 0 then mEv X call 2 t_X5_ask (mDrop t_X5_ask 7) [some (mr 6 18), some (mi x1)] [] g else mEv X call 2 t_X5_ask (mDrop t_X5_ask 13) [some (mr 6 18), some (mi x1)] [] g := (mEv_1 _ _ _ _).trans rfl
theorem e_X5_ask_7 {X : mX} {call : Nat → List mV → mG → mR} {g : mG} {x1 : Int32} : mEv X call 2 t_X5_ask (mDrop t_X5_ask 7) [some (mr 6 18), some (mi x1)] [] g = mAns (mEv X call 2 t_X5_ask) (mDrop t_X5_ask 12) [some (mr 6 18), some (mi x1)] [] (call 134 [mr 6 18, mi 2] g) := (mEv_3 _ _ _ _).trans rfl
theorem e_X5_ask_12 {X : mX} {call : Nat → List mV → mG → mR} {g : mG} {x1 s0 : Int32} : mEv X call 2 t_X5_ask (mDrop t_X5_ask 12) [some (mr 6 18), some (mi x1)] [mi s0] g = if (s0 : Int32) &&& 1 = s0 then some (some (mi s0), g) else none := (mEv_1 _ _ _ _).trans rfl
theorem e_X5_ask_13 {X : mX} {call : Nat → List mV → mG → mR} {g : mG} {x1 : Int32} : mEv X call 2 t_X5_ask (mDrop t_X5_ask 13) [some (mr 6 18), some (mi x1)] [] g = mAns (mEv X call 2 t_X5_ask) (mDrop t_X5_ask 24) [some (mr 6 18), some (mi x1)] [] (call 149 [mi (g 0 0 11), mi x1] g) := (mEv_5 _ _ _ _).trans rfl
theorem e_X5_ask_24 {X : mX} {call : Nat → List mV → mG → mR} {g : mG} {x1 s0 : Int32} : mEv X call 2 t_X5_ask (mDrop t_X5_ask 24) [some (mr 6 18), some (mi x1)] [mi s0] g = if s0 = 0 then mEv X call 2 t_X5_ask (mDrop t_X5_ask 33) [some (mr 6 18), some (mi x1)] [] g else mEv X call 2 t_X5_ask (mDrop t_X5_ask 27) [some (mr 6 18), some (mi x1)] [] g := (mEv_1 _ _ _ _).trans rfl
theorem e_X5_ask_33 {X : mX} {call : Nat → List mV → mG → mR} {g : mG} {x1 : Int32} : mEv X call 2 t_X5_ask (mDrop t_X5_ask 33) [some (mr 6 18), some (mi x1)] [] g = mAns (mEv X call 2 t_X5_ask) (mDrop t_X5_ask 45) [some (mr 6 18), some (mi x1)] [mi (g 0 0 11), mr 0 0] (call 147 [mi x1] g) := (mEv_6 _ _ _ _).trans rfl
theorem e_X5_ask_45 {X : mX} {call : Nat → List mV → mG → mR} {g : mG} {x1 s1 s2 : Int32} : mEv X call 2 t_X5_ask (mDrop t_X5_ask 45) [some (mr 6 18), some (mi x1)] [mi s2, mi s1, mr 0 0] g = mEv X call 2 t_X5_ask (mDrop t_X5_ask 49) [some (mr 6 18), some (mi x1)] [] (mU g 0 (mP (g 0) 0 11 (s1 ||| s2))) := (mEv_2 _ _ _ _).trans rfl
theorem e_X5_ask_49 {X : mX} {call : Nat → List mV → mG → mR} {g : mG} {x1 : Int32} : mEv X call 2 t_X5_ask (mDrop t_X5_ask 49) [some (mr 6 18), some (mi x1)] [] g = mAns (mEv X call 2 t_X5_ask) (mDrop t_X5_ask 53) [some (mr 6 18), some (mi x1)] [] (call 133 [mr 6 18] g) := (mEv_2 _ _ _ _).trans rfl
theorem e_X5_ask_53 {X : mX} {call : Nat → List mV → mG → mR} {g : mG} {x1 s0 : Int32} : mEv X call 2 t_X5_ask (mDrop t_X5_ask 53) [some (mr 6 18), some (mi x1)] [mi s0] g = if (s0 : Int32) &&& 1 = s0 then some (some (mi s0), g) else none := (mEv_1 _ _ _ _).trans rfl
theorem e_X5_ask_27 {X : mX} {call : Nat → List mV → mG → mR} {g : mG} {x1 : Int32} : mEv X call 2 t_X5_ask (mDrop t_X5_ask 27) [some (mr 6 18), some (mi x1)] [] g = mAns (mEv X call 2 t_X5_ask) (mDrop t_X5_ask 32) [some (mr 6 18), some (mi x1)] [] (call 134 [mr 6 18, mi 4] g) := (mEv_3 _ _ _ _).trans rfl
theorem e_X5_ask_32 {X : mX} {call : Nat → List mV → mG → mR} {g : mG} {x1 s0 : Int32} : mEv X call 2 t_X5_ask (mDrop t_X5_ask 32) [some (mr 6 18), some (mi x1)] [mi s0] g = if (s0 : Int32) &&& 1 = s0 then some (some (mi s0), g) else none := (mEv_1 _ _ _ _).trans rfl
noncomputable def P_X5_ask (g : mG) (x1 : Int32) : (Int32 × mG) := (mBd (α := Int32) (P_X5_isBreak x1) (fun v1 => (if v1 = 0 then (mBd (α := Int32 × mG) (P_X5_deny g 2) (fun p2 => (p2.1, p2.2))) else (mBd (α := Int32) (P_X5_inSet (g 0 0 11) x1) (fun v3 => (if v3 = 0 then (mBd (α := Int32) (P_X5_bit x1) (fun v4 => (mBd (α := Int32 × mG) (P_X5_grant (mU g 0 (mP (g 0) 0 11 ((g 0 0 11) ||| v4)))) (fun p5 => (p5.1, p5.2))))) else (mBd (α := Int32 × mG) (P_X5_deny g 4) (fun p6 => (p6.1, p6.2)))))))))
theorem rr_X5_ask (d : Nat) {X : mX} {g : mG} {x1 : Int32} : mCall mD X (d + 2) 112 [mr 6 18, mi x1] g = (wG) (P_X5_ask g x1) := by
  refine Eq.trans (mCall_eq (d := d + 1) rfl) ?_
  show mEv X (mCall mD X (d + 1)) 2 t_X5_ask (mDrop t_X5_ask 0) [some (mr 6 18), some (mi x1)] [] g = _
  refine Eq.trans (e_X5_ask_0) ?_
  refine mw_cZ (rr_X5_isBreak d) rfl (fun v1 hv1 => ?_)
  refine Eq.trans (e_X5_ask_4) ?_
  refine mw_ite (fun h8 => ?_) (fun h8 => ?_)
  · refine Eq.trans (e_X5_ask_7) ?_
    refine mw_gY (rr_X5_deny d) rfl (fun p2 hp2 => ?_)
    refine Eq.trans (e_X5_ask_12) ?_
    exact if_pos hp2
  · refine Eq.trans (e_X5_ask_13) ?_
    refine mw_cZ (rr_X5_inSet d) rfl (fun v3 hv3 => ?_)
    refine Eq.trans (e_X5_ask_24) ?_
    refine mw_ite (fun h7 => ?_) (fun h7 => ?_)
    · refine Eq.trans (e_X5_ask_33) ?_
      refine mw_cI (rr_X5_bit d) (fun v4 => ?_)
      refine Eq.trans (e_X5_ask_45) ?_
      refine Eq.trans (e_X5_ask_49) ?_
      refine mw_gY (rr_X5_grant d) rfl (fun p5 hp5 => ?_)
      refine Eq.trans (e_X5_ask_53) ?_
      exact if_pos hp5
    · refine Eq.trans (e_X5_ask_27) ?_
      refine mw_gY (rr_X5_deny d) rfl (fun p6 hp6 => ?_)
      refine Eq.trans (e_X5_ask_32) ?_
      exact if_pos hp6
theorem e_X5_let_0 {X : mX} {call : Nat → List mV → mG → mR} {g : mG} {x1 : Int32} : mEv X call 2 t_X5_let (mDrop t_X5_let 0) [some (mr 6 18), some (mi x1)] [] g = mAns (mEv X call 2 t_X5_let) (mDrop t_X5_let 4) [some (mr 6 18), some (mi x1)] [] (call 138 [mi x1] g) := (mEv_2 _ _ _ _).trans rfl
theorem e_X5_let_4 {X : mX} {call : Nat → List mV → mG → mR} {g : mG} {x1 s0 : Int32} : mEv X call 2 t_X5_let (mDrop t_X5_let 4) [some (mr 6 18), some (mi x1)] [mi s0] g = if s0 = 0 then mEv X call 2 t_X5_let (mDrop t_X5_let 7) [some (mr 6 18), some (mi x1)] [] g else mEv X call 2 t_X5_let (mDrop t_X5_let 13) [some (mr 6 18), some (mi x1)] [] g := (mEv_1 _ _ _ _).trans rfl
theorem e_X5_let_7 {X : mX} {call : Nat → List mV → mG → mR} {g : mG} {x1 : Int32} : mEv X call 2 t_X5_let (mDrop t_X5_let 7) [some (mr 6 18), some (mi x1)] [] g = mAns (mEv X call 2 t_X5_let) (mDrop t_X5_let 12) [some (mr 6 18), some (mi x1)] [] (call 134 [mr 6 18, mi 2] g) := (mEv_3 _ _ _ _).trans rfl
theorem e_X5_let_12 {X : mX} {call : Nat → List mV → mG → mR} {g : mG} {x1 s0 : Int32} : mEv X call 2 t_X5_let (mDrop t_X5_let 12) [some (mr 6 18), some (mi x1)] [mi s0] g = if (s0 : Int32) &&& 1 = s0 then some (some (mi s0), g) else none := (mEv_1 _ _ _ _).trans rfl
theorem e_X5_let_13 {X : mX} {call : Nat → List mV → mG → mR} {g : mG} {x1 : Int32} : mEv X call 2 t_X5_let (mDrop t_X5_let 13) [some (mr 6 18), some (mi x1)] [] g = mAns (mEv X call 2 t_X5_let) (mDrop t_X5_let 24) [some (mr 6 18), some (mi x1)] [] (call 149 [mi (g 0 0 11), mi x1] g) := (mEv_5 _ _ _ _).trans rfl
theorem e_X5_let_24 {X : mX} {call : Nat → List mV → mG → mR} {g : mG} {x1 s0 : Int32} : mEv X call 2 t_X5_let (mDrop t_X5_let 24) [some (mr 6 18), some (mi x1)] [mi s0] g = if s0 = 0 then mEv X call 2 t_X5_let (mDrop t_X5_let 27) [some (mr 6 18), some (mi x1)] [] g else mEv X call 2 t_X5_let (mDrop t_X5_let 33) [some (mr 6 18), some (mi x1)] [] g := (mEv_1 _ _ _ _).trans rfl
theorem e_X5_let_27 {X : mX} {call : Nat → List mV → mG → mR} {g : mG} {x1 : Int32} : mEv X call 2 t_X5_let (mDrop t_X5_let 27) [some (mr 6 18), some (mi x1)] [] g = mAns (mEv X call 2 t_X5_let) (mDrop t_X5_let 32) [some (mr 6 18), some (mi x1)] [] (call 134 [mr 6 18, mi 4] g) := (mEv_3 _ _ _ _).trans rfl
theorem e_X5_let_32 {X : mX} {call : Nat → List mV → mG → mR} {g : mG} {x1 s0 : Int32} : mEv X call 2 t_X5_let (mDrop t_X5_let 32) [some (mr 6 18), some (mi x1)] [mi s0] g = if (s0 : Int32) &&& 1 = s0 then some (some (mi s0), g) else none := (mEv_1 _ _ _ _).trans rfl
theorem e_X5_let_33 {X : mX} {call : Nat → List mV → mG → mR} {g : mG} {x1 : Int32} : mEv X call 2 t_X5_let (mDrop t_X5_let 33) [some (mr 6 18), some (mi x1)] [] g = mAns (mEv X call 2 t_X5_let) (mDrop t_X5_let 45) [some (mr 6 18), some (mi x1)] [mi (g 0 0 11), mr 0 0] (call 147 [mi x1] g) := (mEv_6 _ _ _ _).trans rfl
theorem e_X5_let_45 {X : mX} {call : Nat → List mV → mG → mR} {g : mG} {x1 s1 s2 : Int32} : mEv X call 2 t_X5_let (mDrop t_X5_let 45) [some (mr 6 18), some (mi x1)] [mi s2, mi s1, mr 0 0] g = mEv X call 2 t_X5_let (mDrop t_X5_let 51) [some (mr 6 18), some (mi x1)] [] (mU g 0 (mP (g 0) 0 11 (s1 &&& (s2 ^^^ (-1))))) := (mEv_4 _ _ _ _).trans rfl
theorem e_X5_let_51 {X : mX} {call : Nat → List mV → mG → mR} {g : mG} {x1 : Int32} : mEv X call 2 t_X5_let (mDrop t_X5_let 51) [some (mr 6 18), some (mi x1)] [] g = mAns (mEv X call 2 t_X5_let) (mDrop t_X5_let 55) [some (mr 6 18), some (mi x1)] [] (call 133 [mr 6 18] g) := (mEv_2 _ _ _ _).trans rfl
theorem e_X5_let_55 {X : mX} {call : Nat → List mV → mG → mR} {g : mG} {x1 s0 : Int32} : mEv X call 2 t_X5_let (mDrop t_X5_let 55) [some (mr 6 18), some (mi x1)] [mi s0] g = if (s0 : Int32) &&& 1 = s0 then some (some (mi s0), g) else none := (mEv_1 _ _ _ _).trans rfl
noncomputable def P_X5_let (g : mG) (x1 : Int32) : (Int32 × mG) := (mBd (α := Int32) (P_X5_isBreak x1) (fun v1 => (if v1 = 0 then (mBd (α := Int32 × mG) (P_X5_deny g 2) (fun p2 => (p2.1, p2.2))) else (mBd (α := Int32) (P_X5_inSet (g 0 0 11) x1) (fun v3 => (if v3 = 0 then (mBd (α := Int32 × mG) (P_X5_deny g 4) (fun p4 => (p4.1, p4.2))) else (mBd (α := Int32) (P_X5_bit x1) (fun v5 => (mBd (α := Int32 × mG) (P_X5_grant (mU g 0 (mP (g 0) 0 11 ((g 0 0 11) &&& (v5 ^^^ (-1)))))) (fun p6 => (p6.1, p6.2)))))))))))
theorem rr_X5_let (d : Nat) {X : mX} {g : mG} {x1 : Int32} : mCall mD X (d + 2) 113 [mr 6 18, mi x1] g = (wG) (P_X5_let g x1) := by
  refine Eq.trans (mCall_eq (d := d + 1) rfl) ?_
  show mEv X (mCall mD X (d + 1)) 2 t_X5_let (mDrop t_X5_let 0) [some (mr 6 18), some (mi x1)] [] g = _
  refine Eq.trans (e_X5_let_0) ?_
  refine mw_cZ (rr_X5_isBreak d) rfl (fun v1 hv1 => ?_)
  refine Eq.trans (e_X5_let_4) ?_
  refine mw_ite (fun h8 => ?_) (fun h8 => ?_)
  · refine Eq.trans (e_X5_let_7) ?_
    refine mw_gY (rr_X5_deny d) rfl (fun p2 hp2 => ?_)
    refine Eq.trans (e_X5_let_12) ?_
    exact if_pos hp2
  · refine Eq.trans (e_X5_let_13) ?_
    refine mw_cZ (rr_X5_inSet d) rfl (fun v3 hv3 => ?_)
    refine Eq.trans (e_X5_let_24) ?_
    refine mw_ite (fun h7 => ?_) (fun h7 => ?_)
    · refine Eq.trans (e_X5_let_27) ?_
      refine mw_gY (rr_X5_deny d) rfl (fun p4 hp4 => ?_)
      refine Eq.trans (e_X5_let_32) ?_
      exact if_pos hp4
    · refine Eq.trans (e_X5_let_33) ?_
      refine mw_cI (rr_X5_bit d) (fun v5 => ?_)
      refine Eq.trans (e_X5_let_45) ?_
      refine Eq.trans (e_X5_let_51) ?_
      refine mw_gY (rr_X5_grant d) rfl (fun p6 hp6 => ?_)
      refine Eq.trans (e_X5_let_55) ?_
      exact if_pos hp6
theorem e_X5_brakes_0 {X : mX} {call : Nat → List mV → mG → mR} {g : mG} {x1 x2 x3 x4 x5 x6 : Int32} : mEv X call 2 t_X5_brakes (mDrop t_X5_brakes 0) [some (mr 6 18), some (mi x1), some (mi x2), some (mi x3), some (mi x4), some (mi x5), some (mi x6)] [] g = mAns (mEv X call 2 t_X5_brakes) (mDrop t_X5_brakes 11) [some (mr 6 18), some (mi x1), some (mi x2), some (mi x3), some (mi x4), some (mi x5), some (mi x6)] [] (call 56 [mr 0 1, mi x2] g) := (mEv_5 _ _ _ _).trans rfl
theorem e_X5_brakes_11 {X : mX} {call : Nat → List mV → mG → mR} {g : mG} {x1 x2 x3 x4 x5 x6 s0 : Int32} : mEv X call 2 t_X5_brakes (mDrop t_X5_brakes 11) [some (mr 6 18), some (mi x1), some (mi x2), some (mi x3), some (mi x4), some (mi x5), some (mi x6)] [mi s0] g = if s0 = 0 then mEv X call 2 t_X5_brakes (mDrop t_X5_brakes 56) [some (mr 6 18), some (mi x1), some (mi x2), some (mi x3), some (mi x4), some (mi x5), some (mi x6)] [] g else mEv X call 2 t_X5_brakes (mDrop t_X5_brakes 14) [some (mr 6 18), some (mi x1), some (mi x2), some (mi x3), some (mi x4), some (mi x5), some (mi x6)] [] g := (mEv_1 _ _ _ _).trans rfl
theorem e_X5_brakes_56 {X : mX} {call : Nat → List mV → mG → mR} {g : mG} {x1 x2 x3 x4 x5 x6 : Int32} : mEv X call 2 t_X5_brakes (mDrop t_X5_brakes 56) [some (mr 6 18), some (mi x1), some (mi x2), some (mi x3), some (mi x4), some (mi x5), some (mi x6)] [] g = mAns (mEv X call 2 t_X5_brakes) (mDrop t_X5_brakes 61) [some (mr 6 18), some (mi x1), some (mi x2), some (mi x3), some (mi x4), some (mi x5), some (mi x6)] [] (call 134 [mr 6 18, mi 1] g) := (mEv_3 _ _ _ _).trans rfl
theorem e_X5_brakes_61 {X : mX} {call : Nat → List mV → mG → mR} {g : mG} {x1 x2 x3 x4 x5 x6 s0 : Int32} : mEv X call 2 t_X5_brakes (mDrop t_X5_brakes 61) [some (mr 6 18), some (mi x1), some (mi x2), some (mi x3), some (mi x4), some (mi x5), some (mi x6)] [mi s0] g = if (s0 : Int32) &&& 1 = s0 then some (some (mi s0), g) else none := (mEv_1 _ _ _ _).trans rfl
noncomputable def J_X5_brakes_56 (g : mG) : (Int32 × mG) := (mBd (α := Int32 × mG) (P_X5_deny g 1) (fun p1 => (p1.1, p1.2)))
theorem rj_X5_brakes_56 (d : Nat) {X : mX} {g : mG} {x1 x2 x3 x4 x5 x6 : Int32} : mEv X (mCall mD X (d + 4)) 2 t_X5_brakes (mDrop t_X5_brakes 56) [some (mr 6 18), some (mi x1), some (mi x2), some (mi x3), some (mi x4), some (mi x5), some (mi x6)] [] g = (wG) (J_X5_brakes_56 g) := by
  refine Eq.trans (e_X5_brakes_56) ?_
  refine mw_gY (rr_X5_deny (d + 3)) rfl (fun p1 hp1 => ?_)
  refine Eq.trans (e_X5_brakes_61) ?_
  exact if_pos hp1
theorem e_X5_brakes_14 {X : mX} {call : Nat → List mV → mG → mR} {g : mG} {x1 x2 x3 x4 x5 x6 : Int32} : mEv X call 2 t_X5_brakes (mDrop t_X5_brakes 14) [some (mr 6 18), some (mi x1), some (mi x2), some (mi x3), some (mi x4), some (mi x5), some (mi x6)] [] g = mAns (mEv X call 2 t_X5_brakes) (mDrop t_X5_brakes 26) [some (mr 6 18), some (mi x1), some (mi x2), some (mi x3), some (mi x4), some (mi x5), some (mi x6)] [] (call 56 [mr 0 1, mi x4] g) := (mEv_5 _ _ _ _).trans rfl
theorem e_X5_brakes_26 {X : mX} {call : Nat → List mV → mG → mR} {g : mG} {x1 x2 x3 x4 x5 x6 s0 : Int32} : mEv X call 2 t_X5_brakes (mDrop t_X5_brakes 26) [some (mr 6 18), some (mi x1), some (mi x2), some (mi x3), some (mi x4), some (mi x5), some (mi x6)] [mi s0] g = if s0 = 0 then mEv X call 2 t_X5_brakes (mDrop t_X5_brakes 56) [some (mr 6 18), some (mi x1), some (mi x2), some (mi x3), some (mi x4), some (mi x5), some (mi x6)] [] g else mEv X call 2 t_X5_brakes (mDrop t_X5_brakes 29) [some (mr 6 18), some (mi x1), some (mi x2), some (mi x3), some (mi x4), some (mi x5), some (mi x6)] [] g := (mEv_1 _ _ _ _).trans rfl
theorem e_X5_brakes_29 {X : mX} {call : Nat → List mV → mG → mR} {g : mG} {x1 x2 x3 x4 x5 x6 : Int32} : mEv X call 2 t_X5_brakes (mDrop t_X5_brakes 29) [some (mr 6 18), some (mi x1), some (mi x2), some (mi x3), some (mi x4), some (mi x5), some (mi x6)] [] g = mAns (mEv X call 2 t_X5_brakes) (mDrop t_X5_brakes 33) [some (mr 6 18), some (mi x1), some (mi x2), some (mi x3), some (mi x4), some (mi x5), some (mi x6)] [] (call 141 [mi x3] g) := (mEv_2 _ _ _ _).trans rfl
theorem e_X5_brakes_33 {X : mX} {call : Nat → List mV → mG → mR} {g : mG} {x1 x2 x3 x4 x5 x6 s0 : Int32} : mEv X call 2 t_X5_brakes (mDrop t_X5_brakes 33) [some (mr 6 18), some (mi x1), some (mi x2), some (mi x3), some (mi x4), some (mi x5), some (mi x6)] [mi s0] g = if s0 = 0 then mEv X call 2 t_X5_brakes (mDrop t_X5_brakes 56) [some (mr 6 18), some (mi x1), some (mi x2), some (mi x3), some (mi x4), some (mi x5), some (mi x6)] [] g else mEv X call 2 t_X5_brakes (mDrop t_X5_brakes 36) [some (mr 6 18), some (mi x1), some (mi x2), some (mi x3), some (mi x4), some (mi x5), some (mi x6)] [] g := (mEv_1 _ _ _ _).trans rfl
theorem e_X5_brakes_36 {X : mX} {call : Nat → List mV → mG → mR} {g : mG} {x1 x2 x3 x4 x5 x6 : Int32} : mEv X call 2 t_X5_brakes (mDrop t_X5_brakes 36) [some (mr 6 18), some (mi x1), some (mi x2), some (mi x3), some (mi x4), some (mi x5), some (mi x6)] [] g = mAns (mEv X call 2 t_X5_brakes) (mDrop t_X5_brakes 41) [some (mr 6 18), some (mi x1), some (mi x2), some (mi x3), some (mi x4), some (mi x5), some (mi x6)] [] (call 141 [mi x5] g) := (mEv_2 _ _ _ _).trans rfl
theorem e_X5_brakes_41 {X : mX} {call : Nat → List mV → mG → mR} {g : mG} {x1 x2 x3 x4 x5 x6 s0 : Int32} : mEv X call 2 t_X5_brakes (mDrop t_X5_brakes 41) [some (mr 6 18), some (mi x1), some (mi x2), some (mi x3), some (mi x4), some (mi x5), some (mi x6)] [mi s0] g = if s0 = 0 then mEv X call 2 t_X5_brakes (mDrop t_X5_brakes 56) [some (mr 6 18), some (mi x1), some (mi x2), some (mi x3), some (mi x4), some (mi x5), some (mi x6)] [] g else mEv X call 2 t_X5_brakes (mDrop t_X5_brakes 44) [some (mr 6 18), some (mi x1), some (mi x2), some (mi x3), some (mi x4), some (mi x5), some (mi x6)] [] g := (mEv_1 _ _ _ _).trans rfl
theorem e_X5_brakes_44 {X : mX} {call : Nat → List mV → mG → mR} {g : mG} {x1 x2 x3 x4 x5 x6 : Int32} : mEv X call 2 t_X5_brakes (mDrop t_X5_brakes 44) [some (mr 6 18), some (mi x1), some (mi x2), some (mi x3), some (mi x4), some (mi x5), some (mi x6)] [] g = if x6 < 0 then mEv X call 2 t_X5_brakes (mDrop t_X5_brakes 56) [some (mr 6 18), some (mi x1), some (mi x2), some (mi x3), some (mi x4), some (mi x5), some (mi x6)] [] g else mEv X call 2 t_X5_brakes (mDrop t_X5_brakes 49) [some (mr 6 18), some (mi x1), some (mi x2), some (mi x3), some (mi x4), some (mi x5), some (mi x6)] [] g := (mEv_2 _ _ _ _).trans rfl
theorem e_X5_brakes_49 {X : mX} {call : Nat → List mV → mG → mR} {g : mG} {x1 x2 x3 x4 x5 x6 : Int32} : mEv X call 2 t_X5_brakes (mDrop t_X5_brakes 49) [some (mr 6 18), some (mi x1), some (mi x2), some (mi x3), some (mi x4), some (mi x5), some (mi x6)] [] g = if x6 ≤ 20 then mEv X call 2 t_X5_brakes (mDrop t_X5_brakes 62) [some (mr 6 18), some (mi x1), some (mi x2), some (mi x3), some (mi x4), some (mi x5), some (mi x6)] [] g else mEv X call 2 t_X5_brakes (mDrop t_X5_brakes 56) [some (mr 6 18), some (mi x1), some (mi x2), some (mi x3), some (mi x4), some (mi x5), some (mi x6)] [] g := (mEv_3 _ _ _ _).trans rfl
theorem e_X5_brakes_62 {X : mX} {call : Nat → List mV → mG → mR} {g : mG} {x1 x2 x3 x4 x5 x6 : Int32} : mEv X call 2 t_X5_brakes (mDrop t_X5_brakes 62) [some (mr 6 18), some (mi x1), some (mi x2), some (mi x3), some (mi x4), some (mi x5), some (mi x6)] [] g = mAns (mEv X call 2 t_X5_brakes) (mDrop t_X5_brakes 66) [some (mr 6 18), some (mi x1), some (mi x2), some (mi x3), some (mi x4), some (mi x5), some (mi x6)] [] (call 138 [mi x1] g) := (mEv_2 _ _ _ _).trans rfl
theorem e_X5_brakes_66 {X : mX} {call : Nat → List mV → mG → mR} {g : mG} {x1 x2 x3 x4 x5 x6 s0 : Int32} : mEv X call 2 t_X5_brakes (mDrop t_X5_brakes 66) [some (mr 6 18), some (mi x1), some (mi x2), some (mi x3), some (mi x4), some (mi x5), some (mi x6)] [mi s0] g = if s0 = 0 then mEv X call 2 t_X5_brakes (mDrop t_X5_brakes 69) [some (mr 6 18), some (mi x1), some (mi x2), some (mi x3), some (mi x4), some (mi x5), some (mi x6)] [] g else mEv X call 2 t_X5_brakes (mDrop t_X5_brakes 75) [some (mr 6 18), some (mi x1), some (mi x2), some (mi x3), some (mi x4), some (mi x5), some (mi x6)] [] g := (mEv_1 _ _ _ _).trans rfl
theorem e_X5_brakes_69 {X : mX} {call : Nat → List mV → mG → mR} {g : mG} {x1 x2 x3 x4 x5 x6 : Int32} : mEv X call 2 t_X5_brakes (mDrop t_X5_brakes 69) [some (mr 6 18), some (mi x1), some (mi x2), some (mi x3), some (mi x4), some (mi x5), some (mi x6)] [] g = mAns (mEv X call 2 t_X5_brakes) (mDrop t_X5_brakes 74) [some (mr 6 18), some (mi x1), some (mi x2), some (mi x3), some (mi x4), some (mi x5), some (mi x6)] [] (call 134 [mr 6 18, mi 2] g) := (mEv_3 _ _ _ _).trans rfl
theorem e_X5_brakes_74 {X : mX} {call : Nat → List mV → mG → mR} {g : mG} {x1 x2 x3 x4 x5 x6 s0 : Int32} : mEv X call 2 t_X5_brakes (mDrop t_X5_brakes 74) [some (mr 6 18), some (mi x1), some (mi x2), some (mi x3), some (mi x4), some (mi x5), some (mi x6)] [mi s0] g = if (s0 : Int32) &&& 1 = s0 then some (some (mi s0), g) else none := (mEv_1 _ _ _ _).trans rfl
theorem e_X5_brakes_75 {X : mX} {call : Nat → List mV → mG → mR} {g : mG} {x1 x2 x3 x4 x5 x6 : Int32} : mEv X call 2 t_X5_brakes (mDrop t_X5_brakes 75) [some (mr 6 18), some (mi x1), some (mi x2), some (mi x3), some (mi x4), some (mi x5), some (mi x6)] [] g = if (g 0 0 16) = x1 then mEv X call 2 t_X5_brakes (mDrop t_X5_brakes 86) [some (mr 6 18), some (mi x1), some (mi x2), some (mi x3), some (mi x4), some (mi x5), some (mi x6)] [] g else mEv X call 2 t_X5_brakes (mDrop t_X5_brakes 92) [some (mr 6 18), some (mi x1), some (mi x2), some (mi x3), some (mi x4), some (mi x5), some (mi x6)] [] g := (mEv_5 _ _ _ _).trans rfl
theorem e_X5_brakes_86 {X : mX} {call : Nat → List mV → mG → mR} {g : mG} {x1 x2 x3 x4 x5 x6 : Int32} : mEv X call 2 t_X5_brakes (mDrop t_X5_brakes 86) [some (mr 6 18), some (mi x1), some (mi x2), some (mi x3), some (mi x4), some (mi x5), some (mi x6)] [] g = mAns (mEv X call 2 t_X5_brakes) (mDrop t_X5_brakes 91) [some (mr 6 18), some (mi x1), some (mi x2), some (mi x3), some (mi x4), some (mi x5), some (mi x6)] [] (call 134 [mr 6 18, mi 4] g) := (mEv_3 _ _ _ _).trans rfl
theorem e_X5_brakes_91 {X : mX} {call : Nat → List mV → mG → mR} {g : mG} {x1 x2 x3 x4 x5 x6 s0 : Int32} : mEv X call 2 t_X5_brakes (mDrop t_X5_brakes 91) [some (mr 6 18), some (mi x1), some (mi x2), some (mi x3), some (mi x4), some (mi x5), some (mi x6)] [mi s0] g = if (s0 : Int32) &&& 1 = s0 then some (some (mi s0), g) else none := (mEv_1 _ _ _ _).trans rfl
theorem e_X5_brakes_92 {X : mX} {call : Nat → List mV → mG → mR} {g : mG} {x1 x2 x3 x4 x5 x6 : Int32} : mEv X call 2 t_X5_brakes (mDrop t_X5_brakes 92) [some (mr 6 18), some (mi x1), some (mi x2), some (mi x3), some (mi x4), some (mi x5), some (mi x6)] [] g = mAns (mEv X call 2 t_X5_brakes) (mDrop t_X5_brakes 103) [some (mr 6 18), some (mi x1), some (mi x2), some (mi x3), some (mi x4), some (mi x5), some (mi x6)] [] (call 64 [mr 0 1, mi x2] g) := (mEv_5 _ _ _ _).trans rfl
theorem e_X5_brakes_103 {X : mX} {call : Nat → List mV → mG → mR} {g : mG} {x1 x2 x3 x4 x5 x6 s0 : Int32} : mEv X call 2 t_X5_brakes (mDrop t_X5_brakes 103) [some (mr 6 18), some (mi x1), some (mi x2), some (mi x3), some (mi x4), some (mi x5), some (mi x6)] [mi s0] g = if s0 = 0 then mEv X call 2 t_X5_brakes (mDrop t_X5_brakes 106) [some (mr 6 18), some (mi x1), some (mi x2), some (mi x3), some (mi x4), some (mi x5), some (mi x6)] [] g else mEv X call 2 t_X5_brakes (mDrop t_X5_brakes 121) [some (mr 6 18), some (mi x1), some (mi x2), some (mi x3), some (mi x4), some (mi x5), some (mi x6)] [] g := (mEv_1 _ _ _ _).trans rfl
theorem e_X5_brakes_106 {X : mX} {call : Nat → List mV → mG → mR} {g : mG} {x1 x2 x3 x4 x5 x6 : Int32} : mEv X call 2 t_X5_brakes (mDrop t_X5_brakes 106) [some (mr 6 18), some (mi x1), some (mi x2), some (mi x3), some (mi x4), some (mi x5), some (mi x6)] [] g = mAns (mEv X call 2 t_X5_brakes) (mDrop t_X5_brakes 118) [some (mr 6 18), some (mi x1), some (mi x2), some (mi x3), some (mi x4), some (mi x5), some (mi x6)] [] (call 64 [mr 0 1, mi x4] g) := (mEv_5 _ _ _ _).trans rfl
theorem e_X5_brakes_118 {X : mX} {call : Nat → List mV → mG → mR} {g : mG} {x1 x2 x3 x4 x5 x6 s0 : Int32} : mEv X call 2 t_X5_brakes (mDrop t_X5_brakes 118) [some (mr 6 18), some (mi x1), some (mi x2), some (mi x3), some (mi x4), some (mi x5), some (mi x6)] [mi s0] g = if s0 = 0 then mEv X call 2 t_X5_brakes (mDrop t_X5_brakes 128) [some (mr 6 18), some (mi x1), some (mi x2), some (mi x3), some (mi x4), some (mi x5), some (mi x6)] [] g else mEv X call 2 t_X5_brakes (mDrop t_X5_brakes 121) [some (mr 6 18), some (mi x1), some (mi x2), some (mi x3), some (mi x4), some (mi x5), some (mi x6)] [] g := (mEv_1 _ _ _ _).trans rfl
theorem e_X5_brakes_128 {X : mX} {call : Nat → List mV → mG → mR} {g : mG} {x1 x2 x3 x4 x5 x6 : Int32} : mEv X call 2 t_X5_brakes (mDrop t_X5_brakes 128) [some (mr 6 18), some (mi x1), some (mi x2), some (mi x3), some (mi x4), some (mi x5), some (mi x6)] [] g = mAns (mEv X call 2 t_X5_brakes) (mDrop t_X5_brakes 141) [some (mr 6 18), some (mi x1), some (mi x2), some (mi x3), some (mi x4), some (mi x5), some (mi x6)] [] (call 60 [mr 0 1, mi x1, mi 0, mi x2] g) := (mEv_7 _ _ _ _).trans rfl
theorem e_X5_brakes_141 {X : mX} {call : Nat → List mV → mG → mR} {g : mG} {x1 x2 x3 x4 x5 x6 : Int32} : mEv X call 2 t_X5_brakes (mDrop t_X5_brakes 141) [some (mr 6 18), some (mi x1), some (mi x2), some (mi x3), some (mi x4), some (mi x5), some (mi x6)] [] g = mAns (mEv X call 2 t_X5_brakes) (mDrop t_X5_brakes 154) [some (mr 6 18), some (mi x1), some (mi x2), some (mi x3), some (mi x4), some (mi x5), some (mi x6)] [] (call 60 [mr 0 1, mi x1, mi 1, mi x3] g) := (mEv_7 _ _ _ _).trans rfl
theorem e_X5_brakes_154 {X : mX} {call : Nat → List mV → mG → mR} {g : mG} {x1 x2 x3 x4 x5 x6 : Int32} : mEv X call 2 t_X5_brakes (mDrop t_X5_brakes 154) [some (mr 6 18), some (mi x1), some (mi x2), some (mi x3), some (mi x4), some (mi x5), some (mi x6)] [] g = mAns (mEv X call 2 t_X5_brakes) (mDrop t_X5_brakes 168) [some (mr 6 18), some (mi x1), some (mi x2), some (mi x3), some (mi x4), some (mi x5), some (mi x6)] [] (call 60 [mr 0 1, mi x1, mi 2, mi x4] g) := (mEv_7 _ _ _ _).trans rfl
theorem e_X5_brakes_168 {X : mX} {call : Nat → List mV → mG → mR} {g : mG} {x1 x2 x3 x4 x5 x6 : Int32} : mEv X call 2 t_X5_brakes (mDrop t_X5_brakes 168) [some (mr 6 18), some (mi x1), some (mi x2), some (mi x3), some (mi x4), some (mi x5), some (mi x6)] [] g = mAns (mEv X call 2 t_X5_brakes) (mDrop t_X5_brakes 182) [some (mr 6 18), some (mi x1), some (mi x2), some (mi x3), some (mi x4), some (mi x5), some (mi x6)] [] (call 60 [mr 0 1, mi x1, mi 3, mi x5] g) := (mEv_7 _ _ _ _).trans rfl
theorem e_X5_brakes_182 {X : mX} {call : Nat → List mV → mG → mR} {g : mG} {x1 x2 x3 x4 x5 x6 : Int32} : mEv X call 2 t_X5_brakes (mDrop t_X5_brakes 182) [some (mr 6 18), some (mi x1), some (mi x2), some (mi x3), some (mi x4), some (mi x5), some (mi x6)] [] g = mAns (mEv X call 2 t_X5_brakes) (mDrop t_X5_brakes 196) [some (mr 6 18), some (mi x1), some (mi x2), some (mi x3), some (mi x4), some (mi x5), some (mi x6)] [] (call 60 [mr 0 1, mi x1, mi 4, mi x6] g) := (mEv_7 _ _ _ _).trans rfl
theorem e_X5_brakes_196 {X : mX} {call : Nat → List mV → mG → mR} {g : mG} {x1 x2 x3 x4 x5 x6 : Int32} : mEv X call 2 t_X5_brakes (mDrop t_X5_brakes 196) [some (mr 6 18), some (mi x1), some (mi x2), some (mi x3), some (mi x4), some (mi x5), some (mi x6)] [] g = mAns (mEv X call 2 t_X5_brakes) (mDrop t_X5_brakes 200) [some (mr 6 18), some (mi x1), some (mi x2), some (mi x3), some (mi x4), some (mi x5), some (mi x6)] [] (call 133 [mr 6 18] g) := (mEv_2 _ _ _ _).trans rfl
theorem e_X5_brakes_200 {X : mX} {call : Nat → List mV → mG → mR} {g : mG} {x1 x2 x3 x4 x5 x6 s0 : Int32} : mEv X call 2 t_X5_brakes (mDrop t_X5_brakes 200) [some (mr 6 18), some (mi x1), some (mi x2), some (mi x3), some (mi x4), some (mi x5), some (mi x6)] [mi s0] g = if (s0 : Int32) &&& 1 = s0 then some (some (mi s0), g) else none := (mEv_1 _ _ _ _).trans rfl
theorem e_X5_brakes_121 {X : mX} {call : Nat → List mV → mG → mR} {g : mG} {x1 x2 x3 x4 x5 x6 : Int32} : mEv X call 2 t_X5_brakes (mDrop t_X5_brakes 121) [some (mr 6 18), some (mi x1), some (mi x2), some (mi x3), some (mi x4), some (mi x5), some (mi x6)] [] g = mAns (mEv X call 2 t_X5_brakes) (mDrop t_X5_brakes 127) [some (mr 6 18), some (mi x1), some (mi x2), some (mi x3), some (mi x4), some (mi x5), some (mi x6)] [] (call 134 [mr 6 18, mi 7] g) := (mEv_3 _ _ _ _).trans rfl
theorem e_X5_brakes_127 {X : mX} {call : Nat → List mV → mG → mR} {g : mG} {x1 x2 x3 x4 x5 x6 s0 : Int32} : mEv X call 2 t_X5_brakes (mDrop t_X5_brakes 127) [some (mr 6 18), some (mi x1), some (mi x2), some (mi x3), some (mi x4), some (mi x5), some (mi x6)] [mi s0] g = if (s0 : Int32) &&& 1 = s0 then some (some (mi s0), g) else none := (mEv_1 _ _ _ _).trans rfl
noncomputable def J_X5_brakes_121 (g : mG) : (Int32 × mG) := (mBd (α := Int32 × mG) (P_X5_deny g 7) (fun p1 => (p1.1, p1.2)))
theorem rj_X5_brakes_121 (d : Nat) {X : mX} {g : mG} {x1 x2 x3 x4 x5 x6 : Int32} : mEv X (mCall mD X (d + 4)) 2 t_X5_brakes (mDrop t_X5_brakes 121) [some (mr 6 18), some (mi x1), some (mi x2), some (mi x3), some (mi x4), some (mi x5), some (mi x6)] [] g = (wG) (J_X5_brakes_121 g) := by
  refine Eq.trans (e_X5_brakes_121) ?_
  refine mw_gY (rr_X5_deny (d + 3)) rfl (fun p1 hp1 => ?_)
  refine Eq.trans (e_X5_brakes_127) ?_
  exact if_pos hp1
noncomputable def P_X5_brakes (g : mG) (x1 : Int32) (x2 : Int32) (x3 : Int32) (x4 : Int32) (x5 : Int32) (x6 : Int32) : (Int32 × mG) := (mBd (α := Int32) (P_X2_hasAll (g 0) x2) (fun v1 => (if v1 = 0 then (J_X5_brakes_56 g) else (mBd (α := Int32) (P_X2_hasAll (g 0) x4) (fun v2 => (if v2 = 0 then (J_X5_brakes_56 g) else (mBd (α := Int32) (P_X5_isDwell x3) (fun v3 => (if v3 = 0 then (J_X5_brakes_56 g) else (mBd (α := Int32) (P_X5_isDwell x5) (fun v4 => (if v4 = 0 then (J_X5_brakes_56 g) else (if x6 < 0 then (J_X5_brakes_56 g) else (if x6 ≤ 20 then (mBd (α := Int32) (P_X5_isBreak x1) (fun v5 => (if v5 = 0 then (mBd (α := Int32 × mG) (P_X5_deny g 2) (fun p6 => (p6.1, p6.2))) else (if (g 0 0 16) = x1 then (mBd (α := Int32 × mG) (P_X5_deny g 4) (fun p7 => (p7.1, p7.2))) else (mBd (α := Int32) (P_X2_holdsFoes (g 0) x2) (fun v8 => (if v8 = 0 then (mBd (α := Int32) (P_X2_holdsFoes (g 0) x4) (fun v9 => (if v9 = 0 then (mBd (α := mG) (mU g 0 (P_X2_putBreak (g 0) x1 0 x2)) (fun g10 => (mBd (α := mG) (mU g10 0 (P_X2_putBreak (g10 0) x1 1 x3)) (fun g11 => (mBd (α := mG) (mU g11 0 (P_X2_putBreak (g11 0) x1 2 x4)) (fun g12 => (mBd (α := mG) (mU g12 0 (P_X2_putBreak (g12 0) x1 3 x5)) (fun g13 => (mBd (α := mG) (mU g13 0 (P_X2_putBreak (g13 0) x1 4 x6)) (fun g14 => (mBd (α := Int32 × mG) (P_X5_grant g14) (fun p15 => (p15.1, p15.2))))))))))))) else (J_X5_brakes_121 g)))) else (J_X5_brakes_121 g)))))))) else (J_X5_brakes_56 g)))))))))))))))
theorem rr_X5_brakes (d : Nat) {X : mX} {g : mG} {x1 x2 x3 x4 x5 x6 : Int32} : mCall mD X (d + 5) 114 [mr 6 18, mi x1, mi x2, mi x3, mi x4, mi x5, mi x6] g = (wG) (P_X5_brakes g x1 x2 x3 x4 x5 x6) := by
  refine Eq.trans (mCall_eq (d := d + 4) rfl) ?_
  show mEv X (mCall mD X (d + 4)) 2 t_X5_brakes (mDrop t_X5_brakes 0) [some (mr 6 18), some (mi x1), some (mi x2), some (mi x3), some (mi x4), some (mi x5), some (mi x6)] [] g = _
  refine Eq.trans (e_X5_brakes_0) ?_
  refine mw_cZ (rr_X2_hasAll_at (d + 2)) rfl (fun v1 hv1 => ?_)
  refine Eq.trans (e_X5_brakes_11) ?_
  refine mw_ite (fun h25 => ?_) (fun h25 => ?_)
  · exact rj_X5_brakes_56 d
  · refine Eq.trans (e_X5_brakes_14) ?_
    refine mw_cZ (rr_X2_hasAll_at (d + 2)) rfl (fun v2 hv2 => ?_)
    refine Eq.trans (e_X5_brakes_26) ?_
    refine mw_ite (fun h24 => ?_) (fun h24 => ?_)
    · exact rj_X5_brakes_56 d
    · refine Eq.trans (e_X5_brakes_29) ?_
      refine mw_cZ (rr_X5_isDwell (d + 3)) rfl (fun v3 hv3 => ?_)
      refine Eq.trans (e_X5_brakes_33) ?_
      refine mw_ite (fun h23 => ?_) (fun h23 => ?_)
      · exact rj_X5_brakes_56 d
      · refine Eq.trans (e_X5_brakes_36) ?_
        refine mw_cZ (rr_X5_isDwell (d + 3)) rfl (fun v4 hv4 => ?_)
        refine Eq.trans (e_X5_brakes_41) ?_
        refine mw_ite (fun h22 => ?_) (fun h22 => ?_)
        · exact rj_X5_brakes_56 d
        · refine Eq.trans (e_X5_brakes_44) ?_
          refine mw_ite (fun h21 => ?_) (fun h21 => ?_)
          · exact rj_X5_brakes_56 d
          · refine Eq.trans (e_X5_brakes_49) ?_
            refine mw_ite (fun h20 => ?_) (fun h20 => ?_)
            · refine Eq.trans (e_X5_brakes_62) ?_
              refine mw_cZ (rr_X5_isBreak (d + 3)) rfl (fun v5 hv5 => ?_)
              refine Eq.trans (e_X5_brakes_66) ?_
              refine mw_ite (fun h19 => ?_) (fun h19 => ?_)
              · refine Eq.trans (e_X5_brakes_69) ?_
                refine mw_gY (rr_X5_deny (d + 3)) rfl (fun p6 hp6 => ?_)
                refine Eq.trans (e_X5_brakes_74) ?_
                exact if_pos hp6
              · refine Eq.trans (e_X5_brakes_75) ?_
                refine mw_ite (fun h18 => ?_) (fun h18 => ?_)
                · refine Eq.trans (e_X5_brakes_86) ?_
                  refine mw_gY (rr_X5_deny (d + 3)) rfl (fun p7 hp7 => ?_)
                  refine Eq.trans (e_X5_brakes_91) ?_
                  exact if_pos hp7
                · refine Eq.trans (e_X5_brakes_92) ?_
                  refine mw_cZ (rr_X2_holdsFoes_at d) rfl (fun v8 hv8 => ?_)
                  refine Eq.trans (e_X5_brakes_103) ?_
                  refine mw_ite (fun h17 => ?_) (fun h17 => ?_)
                  · refine Eq.trans (e_X5_brakes_106) ?_
                    refine mw_cZ (rr_X2_holdsFoes_at d) rfl (fun v9 hv9 => ?_)
                    refine Eq.trans (e_X5_brakes_118) ?_
                    refine mw_ite (fun h16 => ?_) (fun h16 => ?_)
                    · refine Eq.trans (e_X5_brakes_128) ?_
                      refine mw_gV (rr_X2_putBreak_at (d + 2)) (fun g10 => ?_)
                      refine Eq.trans (e_X5_brakes_141) ?_
                      refine mw_gV (rr_X2_putBreak_at (d + 2)) (fun g11 => ?_)
                      refine Eq.trans (e_X5_brakes_154) ?_
                      refine mw_gV (rr_X2_putBreak_at (d + 2)) (fun g12 => ?_)
                      refine Eq.trans (e_X5_brakes_168) ?_
                      refine mw_gV (rr_X2_putBreak_at (d + 2)) (fun g13 => ?_)
                      refine Eq.trans (e_X5_brakes_182) ?_
                      refine mw_gV (rr_X2_putBreak_at (d + 2)) (fun g14 => ?_)
                      refine Eq.trans (e_X5_brakes_196) ?_
                      refine mw_gY (rr_X5_grant (d + 3)) rfl (fun p15 hp15 => ?_)
                      refine Eq.trans (e_X5_brakes_200) ?_
                      exact if_pos hp15
                    · exact rj_X5_brakes_121 d
                  · exact rj_X5_brakes_121 d
            · exact rj_X5_brakes_56 d
theorem e_X5_stick_0 {X : mX} {call : Nat → List mV → mG → mR} {g : mG} {x1 x2 : Int32} : mEv X call 2 t_X5_stick (mDrop t_X5_stick 0) [some (mr 6 18), some (mi x1), some (mi x2)] [] g = mAns (mEv X call 2 t_X5_stick) (mDrop t_X5_stick 11) [some (mr 6 18), some (mi x1), some (mi x2)] [] (call 54 [mr 0 1, mi x1] g) := (mEv_5 _ _ _ _).trans rfl
theorem e_X5_stick_11 {X : mX} {call : Nat → List mV → mG → mR} {g : mG} {x1 x2 s0 : Int32} : mEv X call 2 t_X5_stick (mDrop t_X5_stick 11) [some (mr 6 18), some (mi x1), some (mi x2)] [mi s0] g = if s0 = 0 then mEv X call 2 t_X5_stick (mDrop t_X5_stick 14) [some (mr 6 18), some (mi x1), some (mi x2)] [] g else mEv X call 2 t_X5_stick (mDrop t_X5_stick 20) [some (mr 6 18), some (mi x1), some (mi x2)] [] g := (mEv_1 _ _ _ _).trans rfl
theorem e_X5_stick_14 {X : mX} {call : Nat → List mV → mG → mR} {g : mG} {x1 x2 : Int32} : mEv X call 2 t_X5_stick (mDrop t_X5_stick 14) [some (mr 6 18), some (mi x1), some (mi x2)] [] g = mAns (mEv X call 2 t_X5_stick) (mDrop t_X5_stick 19) [some (mr 6 18), some (mi x1), some (mi x2)] [] (call 134 [mr 6 18, mi 2] g) := (mEv_3 _ _ _ _).trans rfl
theorem e_X5_stick_19 {X : mX} {call : Nat → List mV → mG → mR} {g : mG} {x1 x2 s0 : Int32} : mEv X call 2 t_X5_stick (mDrop t_X5_stick 19) [some (mr 6 18), some (mi x1), some (mi x2)] [mi s0] g = if (s0 : Int32) &&& 1 = s0 then some (some (mi s0), g) else none := (mEv_1 _ _ _ _).trans rfl
theorem e_X5_stick_20 {X : mX} {call : Nat → List mV → mG → mR} {g : mG} {x1 x2 : Int32} : mEv X call 2 t_X5_stick (mDrop t_X5_stick 20) [some (mr 6 18), some (mi x1), some (mi x2)] [] g = mAns (mEv X call 2 t_X5_stick) (mDrop t_X5_stick 31) [some (mr 6 18), some (mi x1), some (mi x2)] [] (call 149 [mi (g 0 0 10), mi x1] g) := (mEv_5 _ _ _ _).trans rfl
theorem e_X5_stick_31 {X : mX} {call : Nat → List mV → mG → mR} {g : mG} {x1 x2 s0 : Int32} : mEv X call 2 t_X5_stick (mDrop t_X5_stick 31) [some (mr 6 18), some (mi x1), some (mi x2)] [mi s0] g = if s0 = x2 then mEv X call 2 t_X5_stick (mDrop t_X5_stick 35) [some (mr 6 18), some (mi x1), some (mi x2)] [] g else mEv X call 2 t_X5_stick (mDrop t_X5_stick 41) [some (mr 6 18), some (mi x1), some (mi x2)] [] g := (mEv_2 _ _ _ _).trans rfl
theorem e_X5_stick_35 {X : mX} {call : Nat → List mV → mG → mR} {g : mG} {x1 x2 : Int32} : mEv X call 2 t_X5_stick (mDrop t_X5_stick 35) [some (mr 6 18), some (mi x1), some (mi x2)] [] g = mAns (mEv X call 2 t_X5_stick) (mDrop t_X5_stick 40) [some (mr 6 18), some (mi x1), some (mi x2)] [] (call 134 [mr 6 18, mi 4] g) := (mEv_3 _ _ _ _).trans rfl
theorem e_X5_stick_40 {X : mX} {call : Nat → List mV → mG → mR} {g : mG} {x1 x2 s0 : Int32} : mEv X call 2 t_X5_stick (mDrop t_X5_stick 40) [some (mr 6 18), some (mi x1), some (mi x2)] [mi s0] g = if (s0 : Int32) &&& 1 = s0 then some (some (mi s0), g) else none := (mEv_1 _ _ _ _).trans rfl
theorem e_X5_stick_41 {X : mX} {call : Nat → List mV → mG → mR} {g : mG} {x1 x2 : Int32} : mEv X call 2 t_X5_stick (mDrop t_X5_stick 41) [some (mr 6 18), some (mi x1), some (mi x2)] [] g = mAns (mEv X call 2 t_X5_stick) (mDrop t_X5_stick 57) [some (mr 6 18), some (mi x1), some (mi x2)] [mr 0 0] (call 148 [mi (g 0 0 10), mi x1, mi x2] g) := (mEv_8 _ _ _ _).trans rfl
theorem e_X5_stick_57 {X : mX} {call : Nat → List mV → mG → mR} {g : mG} {x1 x2 s1 : Int32} : mEv X call 2 t_X5_stick (mDrop t_X5_stick 57) [some (mr 6 18), some (mi x1), some (mi x2)] [mi s1, mr 0 0] g = mEv X call 2 t_X5_stick (mDrop t_X5_stick 60) [some (mr 6 18), some (mi x1), some (mi x2)] [] (mU g 0 (mP (g 0) 0 10 s1)) := (mEv_1 _ _ _ _).trans rfl
theorem e_X5_stick_60 {X : mX} {call : Nat → List mV → mG → mR} {g : mG} {x1 x2 : Int32} : mEv X call 2 t_X5_stick (mDrop t_X5_stick 60) [some (mr 6 18), some (mi x1), some (mi x2)] [] g = mAns (mEv X call 2 t_X5_stick) (mDrop t_X5_stick 64) [some (mr 6 18), some (mi x1), some (mi x2)] [] (call 133 [mr 6 18] g) := (mEv_2 _ _ _ _).trans rfl
theorem e_X5_stick_64 {X : mX} {call : Nat → List mV → mG → mR} {g : mG} {x1 x2 s0 : Int32} : mEv X call 2 t_X5_stick (mDrop t_X5_stick 64) [some (mr 6 18), some (mi x1), some (mi x2)] [mi s0] g = if (s0 : Int32) &&& 1 = s0 then some (some (mi s0), g) else none := (mEv_1 _ _ _ _).trans rfl
noncomputable def P_X5_stick (g : mG) (x1 : Int32) (x2 : Int32) : (Int32 × mG) := (mBd (α := Int32) (P_X2_hasPhase (g 0) x1) (fun v1 => (if v1 = 0 then (mBd (α := Int32 × mG) (P_X5_deny g 2) (fun p2 => (p2.1, p2.2))) else (mBd (α := Int32) (P_X5_inSet (g 0 0 10) x1) (fun v3 => (if v3 = x2 then (mBd (α := Int32 × mG) (P_X5_deny g 4) (fun p4 => (p4.1, p4.2))) else (mBd (α := Int32) (P_X5_withBit (g 0 0 10) x1 x2) (fun v5 => (mBd (α := Int32 × mG) (P_X5_grant (mU g 0 (mP (g 0) 0 10 v5))) (fun p6 => (p6.1, p6.2)))))))))))
theorem rr_X5_stick (d : Nat) {X : mX} {g : mG} {x1 x2 : Int32} : mCall mD X (d + 3) 115 [mr 6 18, mi x1, mi x2] g = (wG) (P_X5_stick g x1 x2) := by
  refine Eq.trans (mCall_eq (d := d + 2) rfl) ?_
  show mEv X (mCall mD X (d + 2)) 2 t_X5_stick (mDrop t_X5_stick 0) [some (mr 6 18), some (mi x1), some (mi x2)] [] g = _
  refine Eq.trans (e_X5_stick_0) ?_
  refine mw_cZ (rr_X2_hasPhase_at (d + 1)) rfl (fun v1 hv1 => ?_)
  refine Eq.trans (e_X5_stick_11) ?_
  refine mw_ite (fun h8 => ?_) (fun h8 => ?_)
  · refine Eq.trans (e_X5_stick_14) ?_
    refine mw_gY (rr_X5_deny (d + 1)) rfl (fun p2 hp2 => ?_)
    refine Eq.trans (e_X5_stick_19) ?_
    exact if_pos hp2
  · refine Eq.trans (e_X5_stick_20) ?_
    refine mw_cZ (rr_X5_inSet (d + 1)) rfl (fun v3 hv3 => ?_)
    refine Eq.trans (e_X5_stick_31) ?_
    refine mw_ite (fun h7 => ?_) (fun h7 => ?_)
    · refine Eq.trans (e_X5_stick_35) ?_
      refine mw_gY (rr_X5_deny (d + 1)) rfl (fun p4 hp4 => ?_)
      refine Eq.trans (e_X5_stick_40) ?_
      exact if_pos hp4
    · refine Eq.trans (e_X5_stick_41) ?_
      refine mw_cI (rr_X5_withBit d) (fun v5 => ?_)
      refine Eq.trans (e_X5_stick_57) ?_
      refine Eq.trans (e_X5_stick_60) ?_
      refine mw_gY (rr_X5_grant (d + 1)) rfl (fun p6 hp6 => ?_)
      refine Eq.trans (e_X5_stick_64) ?_
      exact if_pos hp6
theorem e_X5_reset_0 {X : mX} {call : Nat → List mV → mG → mR} {g : mG} : mEv X call 2 t_X5_reset (mDrop t_X5_reset 0) [some (mr 6 18)] [] g = if ((g 0 0 15) &&& 1) = 0 then mEv X call 2 t_X5_reset (mDrop t_X5_reset 10) [some (mr 6 18)] [] g else mEv X call 2 t_X5_reset (mDrop t_X5_reset 16) [some (mr 6 18)] [] g := (mEv_4 _ _ _ _).trans rfl
theorem e_X5_reset_10 {X : mX} {call : Nat → List mV → mG → mR} {g : mG} : mEv X call 2 t_X5_reset (mDrop t_X5_reset 10) [some (mr 6 18)] [] g = mAns (mEv X call 2 t_X5_reset) (mDrop t_X5_reset 15) [some (mr 6 18)] [] (call 134 [mr 6 18, mi 5] g) := (mEv_3 _ _ _ _).trans rfl
theorem e_X5_reset_15 {X : mX} {call : Nat → List mV → mG → mR} {g : mG} {s0 : Int32} : mEv X call 2 t_X5_reset (mDrop t_X5_reset 15) [some (mr 6 18)] [mi s0] g = if (s0 : Int32) &&& 1 = s0 then some (some (mi s0), g) else none := (mEv_1 _ _ _ _).trans rfl
theorem e_X5_reset_16 {X : mX} {call : Nat → List mV → mG → mR} {g : mG} : mEv X call 2 t_X5_reset (mDrop t_X5_reset 16) [some (mr 6 18)] [] g = if (0 : Int32) &&& 1 = 0 then mEv X call 2 t_X5_reset (mDrop t_X5_reset 24) [some (mr 6 18)] [] (mU g 0 (mP (g 0) 0 15 0)) else none := (mEv_4 _ _ _ _).trans rfl
theorem e_X5_reset_24 {X : mX} {call : Nat → List mV → mG → mR} {g : mG} : mEv X call 2 t_X5_reset (mDrop t_X5_reset 24) [some (mr 6 18)] [] g = mAns (mEv X call 2 t_X5_reset) (mDrop t_X5_reset 31) [some (mr 6 18)] [] (call 2 [mr 0 0] g) := (mEv_3 _ _ _ _).trans rfl
theorem e_X5_reset_31 {X : mX} {call : Nat → List mV → mG → mR} {g : mG} : mEv X call 2 t_X5_reset (mDrop t_X5_reset 31) [some (mr 6 18)] [] g = mAns (mEv X call 2 t_X5_reset) (mDrop t_X5_reset 50) [some (mr 6 18)] [] (call 49 [mr 0 10, mi 5, mi (g 0 0 12), mi (-1)] g) := (mEv_9 _ _ _ _).trans rfl
theorem e_X5_reset_50 {X : mX} {call : Nat → List mV → mG → mR} {g : mG} : mEv X call 2 t_X5_reset (mDrop t_X5_reset 50) [some (mr 6 18)] [] g = mAns (mEv X call 2 t_X5_reset) (mDrop t_X5_reset 54) [some (mr 6 18)] [] (call 133 [mr 6 18] g) := (mEv_2 _ _ _ _).trans rfl
theorem e_X5_reset_54 {X : mX} {call : Nat → List mV → mG → mR} {g : mG} {s0 : Int32} : mEv X call 2 t_X5_reset (mDrop t_X5_reset 54) [some (mr 6 18)] [mi s0] g = if (s0 : Int32) &&& 1 = s0 then some (some (mi s0), g) else none := (mEv_1 _ _ _ _).trans rfl
noncomputable def P_X5_reset (g : mG) : (Int32 × mG) := (if ((g 0 0 15) &&& 1) = 0 then (mBd (α := Int32 × mG) (P_X5_deny g 5) (fun p1 => (p1.1, p1.2))) else (mBd (α := mG) (mU (mU g 0 (mP (g 0) 0 15 0)) 0 (P_X0_startRings ((mU g 0 (mP (g 0) 0 15 0)) 0))) (fun g2 => (mBd (α := mG) (mU g2 0 (P_X1_note (g2 0) 5 (g2 0 0 12) (-1))) (fun g3 => (mBd (α := Int32 × mG) (P_X5_grant g3) (fun p4 => (p4.1, p4.2))))))))
theorem rr_X5_reset (d : Nat) {X : mX} {g : mG} : mCall mD X (d + 3) 116 [mr 6 18] g = (wG) (P_X5_reset g) := by
  refine Eq.trans (mCall_eq (d := d + 2) rfl) ?_
  show mEv X (mCall mD X (d + 2)) 2 t_X5_reset (mDrop t_X5_reset 0) [some (mr 6 18)] [] g = _
  refine Eq.trans (e_X5_reset_0) ?_
  refine mw_ite (fun h5 => ?_) (fun h5 => ?_)
  · refine Eq.trans (e_X5_reset_10) ?_
    refine mw_gY (rr_X5_deny (d + 1)) rfl (fun p1 hp1 => ?_)
    refine Eq.trans (e_X5_reset_15) ?_
    exact if_pos hp1
  · refine Eq.trans (e_X5_reset_16) ?_
    refine Eq.trans (if_pos (by decide)) ?_
    refine Eq.trans (e_X5_reset_24) ?_
    refine mw_gV (rr_X0_startRings_at d) (fun g2 => ?_)
    refine Eq.trans (e_X5_reset_31) ?_
    refine mw_gV (rr_X1_note_at d) (fun g3 => ?_)
    refine Eq.trans (e_X5_reset_50) ?_
    refine mw_gY (rr_X5_grant (d + 1)) rfl (fun p4 hp4 => ?_)
    refine Eq.trans (e_X5_reset_54) ?_
    exact if_pos hp4
theorem e_X5_tick_0 {X : mX} {call : Nat → List mV → mG → mR} {g : mG} {x1 : Int32} : mEv X call 1 t_X5_tick (mDrop t_X5_tick 0) [some (mr 6 18), some (mi x1)] [] g = if x1 < 1 then mEv X call 1 t_X5_tick (mDrop t_X5_tick 12) [some (mr 6 18), some (mi x1)] [] g else mEv X call 1 t_X5_tick (mDrop t_X5_tick 5) [some (mr 6 18), some (mi x1)] [] g := (mEv_3 _ _ _ _).trans rfl
theorem e_X5_tick_12 {X : mX} {call : Nat → List mV → mG → mR} {g : mG} {x1 : Int32} : mEv X call 1 t_X5_tick (mDrop t_X5_tick 12) [some (mr 6 18), some (mi x1)] [] g = mAns (mEv X call 1 t_X5_tick) (mDrop t_X5_tick 17) [some (mr 6 18), some (mi x1)] [] (call 132 [mr 6 18, mi 1] g) := (mEv_3 _ _ _ _).trans rfl
theorem e_X5_tick_17 {X : mX} {call : Nat → List mV → mG → mR} {g : mG} {x1 s0 : Int32} : mEv X call 1 t_X5_tick (mDrop t_X5_tick 17) [some (mr 6 18), some (mi x1)] [mi s0] g = some (some (mi s0), g) := (mEv_1 _ _ _ _).trans rfl
noncomputable def J_X5_tick_12 (g : mG) : (Int32 × mG) := (mBd (α := Int32 × mG) (P_X5_refuse g 1) (fun p1 => (p1.1, p1.2)))
theorem rj_X5_tick_12 (d : Nat) {X : mX} {g : mG} {x1 : Int32} : mEv X (mCall mD X (d + 8)) 1 t_X5_tick (mDrop t_X5_tick 12) [some (mr 6 18), some (mi x1)] [] g = (wG) (J_X5_tick_12 g) := by
  refine Eq.trans (e_X5_tick_12) ?_
  refine mw_gW (rr_X5_refuse (d + 7)) (fun p1 => ?_)
  refine Eq.trans (e_X5_tick_17) ?_
  all_goals rfl
theorem e_X5_tick_5 {X : mX} {call : Nat → List mV → mG → mR} {g : mG} {x1 : Int32} : mEv X call 1 t_X5_tick (mDrop t_X5_tick 5) [some (mr 6 18), some (mi x1)] [] g = if x1 ≤ 300 then mEv X call 1 t_X5_tick (mDrop t_X5_tick 18) [some (mr 6 18), some (mi x1)] [] g else mEv X call 1 t_X5_tick (mDrop t_X5_tick 12) [some (mr 6 18), some (mi x1)] [] g := (mEv_3 _ _ _ _).trans rfl
theorem e_X5_tick_18 {X : mX} {call : Nat → List mV → mG → mR} {g : mG} {x1 : Int32} : mEv X call 1 t_X5_tick (mDrop t_X5_tick 18) [some (mr 6 18), some (mi x1)] [] g = mAns (mEv X call 1 t_X5_tick) (mDrop t_X5_tick 26) [some (mr 6 18), some (mi x1)] [] (call 21 [mr 0 0, mi x1] g) := (mEv_4 _ _ _ _).trans rfl
theorem e_X5_tick_26 {X : mX} {call : Nat → List mV → mG → mR} {g : mG} {x1 : Int32} : mEv X call 1 t_X5_tick (mDrop t_X5_tick 26) [some (mr 6 18), some (mi x1)] [] g = mAns (mEv X call 1 t_X5_tick) (mDrop t_X5_tick 37) [some (mr 6 18), some (mi x1)] [] (call 131 [mr 6 18, mi (g 0 0 12)] g) := (mEv_5 _ _ _ _).trans rfl
theorem e_X5_tick_37 {X : mX} {call : Nat → List mV → mG → mR} {g : mG} {x1 s0 : Int32} : mEv X call 1 t_X5_tick (mDrop t_X5_tick 37) [some (mr 6 18), some (mi x1)] [mi s0] g = some (some (mi s0), g) := (mEv_1 _ _ _ _).trans rfl
noncomputable def P_X5_tick (g : mG) (x1 : Int32) : (Int32 × mG) := (if x1 < 1 then (J_X5_tick_12 g) else (if x1 ≤ 300 then (mBd (α := mG) (mU g 0 (P_X0_passTicks (g 0) x1)) (fun g1 => (mBd (α := Int32 × mG) (P_X5_answer g1 (g1 0 0 12)) (fun p2 => (p2.1, p2.2))))) else (J_X5_tick_12 g)))
theorem rr_X5_tick (d : Nat) {X : mX} {g : mG} {x1 : Int32} : mCall mD X (d + 9) 117 [mr 6 18, mi x1] g = (wG) (P_X5_tick g x1) := by
  refine Eq.trans (mCall_eq (d := d + 8) rfl) ?_
  show mEv X (mCall mD X (d + 8)) 1 t_X5_tick (mDrop t_X5_tick 0) [some (mr 6 18), some (mi x1)] [] g = _
  refine Eq.trans (e_X5_tick_0) ?_
  refine mw_ite (fun h4 => ?_) (fun h4 => ?_)
  · exact rj_X5_tick_12 d
  · refine Eq.trans (e_X5_tick_5) ?_
    refine mw_ite (fun h3 => ?_) (fun h3 => ?_)
    · refine Eq.trans (e_X5_tick_18) ?_
      refine mw_gV (rr_X0_passTicks_at d) (fun g1 => ?_)
      refine Eq.trans (e_X5_tick_26) ?_
      refine mw_gW (rr_X5_answer (d + 7)) (fun p2 => ?_)
      refine Eq.trans (e_X5_tick_37) ?_
      all_goals rfl
    · exact rj_X5_tick_12 d
theorem e_X5_run_0 {X : mX} {call : Nat → List mV → mG → mR} {g : mG} {x1 x2 : Int32} : mEv X call 1 t_X5_run (mDrop t_X5_run 0) [some (mr 6 18), some (mi x1), some (mi x2), none, none, none] [] g = if x1 < 1 then mEv X call 1 t_X5_run (mDrop t_X5_run 23) [some (mr 6 18), some (mi x1), some (mi x2), none, none, none] [] g else mEv X call 1 t_X5_run (mDrop t_X5_run 5) [some (mr 6 18), some (mi x1), some (mi x2), none, none, none] [] g := (mEv_3 _ _ _ _).trans rfl
theorem e_X5_run_23 {X : mX} {call : Nat → List mV → mG → mR} {g : mG} {x1 x2 : Int32} : mEv X call 1 t_X5_run (mDrop t_X5_run 23) [some (mr 6 18), some (mi x1), some (mi x2), none, none, none] [] g = mAns (mEv X call 1 t_X5_run) (mDrop t_X5_run 28) [some (mr 6 18), some (mi x1), some (mi x2), none, none, none] [] (call 132 [mr 6 18, mi 1] g) := (mEv_3 _ _ _ _).trans rfl
theorem e_X5_run_28 {X : mX} {call : Nat → List mV → mG → mR} {g : mG} {x1 x2 s0 : Int32} : mEv X call 1 t_X5_run (mDrop t_X5_run 28) [some (mr 6 18), some (mi x1), some (mi x2), none, none, none] [mi s0] g = some (some (mi s0), g) := (mEv_1 _ _ _ _).trans rfl
noncomputable def J_X5_run_23 (g : mG) : (Int32 × mG) := (mBd (α := Int32 × mG) (P_X5_refuse g 1) (fun p1 => (p1.1, p1.2)))
theorem rj_X5_run_23 (d : Nat) {X : mX} {g : mG} {x1 x2 : Int32} : mEv X (mCall mD X (d + 7)) 1 t_X5_run (mDrop t_X5_run 23) [some (mr 6 18), some (mi x1), some (mi x2), none, none, none] [] g = (wG) (J_X5_run_23 g) := by
  refine Eq.trans (e_X5_run_23) ?_
  refine mw_gW (rr_X5_refuse (d + 6)) (fun p1 => ?_)
  refine Eq.trans (e_X5_run_28) ?_
  all_goals rfl
theorem e_X5_run_5 {X : mX} {call : Nat → List mV → mG → mR} {g : mG} {x1 x2 : Int32} : mEv X call 1 t_X5_run (mDrop t_X5_run 5) [some (mr 6 18), some (mi x1), some (mi x2), none, none, none] [] g = if 300 < x1 then mEv X call 1 t_X5_run (mDrop t_X5_run 23) [some (mr 6 18), some (mi x1), some (mi x2), none, none, none] [] g else mEv X call 1 t_X5_run (mDrop t_X5_run 12) [some (mr 6 18), some (mi x1), some (mi x2), none, none, none] [] g := (mEv_3 _ _ _ _).trans rfl
theorem e_X5_run_12 {X : mX} {call : Nat → List mV → mG → mR} {g : mG} {x1 x2 : Int32} : mEv X call 1 t_X5_run (mDrop t_X5_run 12) [some (mr 6 18), some (mi x1), some (mi x2), none, none, none] [] g = if x2 < 0 then mEv X call 1 t_X5_run (mDrop t_X5_run 23) [some (mr 6 18), some (mi x1), some (mi x2), none, none, none] [] g else mEv X call 1 t_X5_run (mDrop t_X5_run 16) [some (mr 6 18), some (mi x1), some (mi x2), none, none, none] [] g := (mEv_2 _ _ _ _).trans rfl
theorem e_X5_run_16 {X : mX} {call : Nat → List mV → mG → mR} {g : mG} {x1 x2 : Int32} : mEv X call 1 t_X5_run (mDrop t_X5_run 16) [some (mr 6 18), some (mi x1), some (mi x2), none, none, none] [] g = if x2 ≤ 9999 then mEv X call 1 t_X5_run (mDrop t_X5_run 29) [some (mr 6 18), some (mi x1), some (mi x2), none, none, none] [] g else mEv X call 1 t_X5_run (mDrop t_X5_run 23) [some (mr 6 18), some (mi x1), some (mi x2), none, none, none] [] g := (mEv_3 _ _ _ _).trans rfl
theorem e_X5_run_29 {X : mX} {call : Nat → List mV → mG → mR} {g : mG} {x1 x2 : Int32} : mEv X call 1 t_X5_run (mDrop t_X5_run 29) [some (mr 6 18), some (mi x1), some (mi x2), none, none, none] [] g = mAns (mEv X call 1 t_X5_run) (mDrop t_X5_run 39) [some (mr 6 18), some (mi x1), some (mi x2), none, none, none] [] (call 146 [mr 0 15] g) := (mEv_4 _ _ _ _).trans rfl
theorem e_X5_run_39 {X : mX} {call : Nat → List mV → mG → mR} {g : mG} {x1 x2 s0 : Int32} : mEv X call 1 t_X5_run (mDrop t_X5_run 39) [some (mr 6 18), some (mi x1), some (mi x2), none, none, none] [mi s0] g = mEv X call 1 t_X5_run (mDrop t_X5_run 46) [some (mr 6 18), some (mi x1), some (mi x2), some (mi s0), some (mi x2), some (mi 0)] [] g := (mEv_5 _ _ _ _).trans rfl
theorem e_X5_run_46 {X : mX} {call : Nat → List mV → mG → mR} {g : mG} {x1 x2 x3 x4 x5 : Int32} : mEv X call 1 t_X5_run (mDrop t_X5_run 46) [some (mr 6 18), some (mi x1), some (mi x2), some (mi x3), some (mi x4), some (mi x5)] [] g = if x1 ≤ x5 then mEv X call 1 t_X5_run (mDrop t_X5_run 76) [some (mr 6 18), some (mi x1), some (mi x2), some (mi x3), some (mi x4), some (mi x5)] [] g else mEv X call 1 t_X5_run (mDrop t_X5_run 52) [some (mr 6 18), some (mi x1), some (mi x2), some (mi x3), some (mi x4), some (mi x5)] [] g := (mEv_3 _ _ _ _).trans rfl
theorem e_X5_run_76 {X : mX} {call : Nat → List mV → mG → mR} {g : mG} {x1 x2 x3 x4 x5 : Int32} : mEv X call 1 t_X5_run (mDrop t_X5_run 76) [some (mr 6 18), some (mi x1), some (mi x2), some (mi x3), some (mi x4), some (mi x5)] [] g = mAns (mEv X call 1 t_X5_run) (mDrop t_X5_run 87) [some (mr 6 18), some (mi x1), some (mi x2), some (mi x3), some (mi x4), some (mi x5)] [mr 6 18] (call 146 [mr 0 15] g) := (mEv_5 _ _ _ _).trans rfl
theorem e_X5_run_87 {X : mX} {call : Nat → List mV → mG → mR} {g : mG} {x1 x2 x3 x4 x5 s1 : Int32} : mEv X call 1 t_X5_run (mDrop t_X5_run 87) [some (mr 6 18), some (mi x1), some (mi x2), some (mi x3), some (mi x4), some (mi x5)] [mi s1, mr 6 18] g = mAns (mEv X call 1 t_X5_run) (mDrop t_X5_run 92) [some (mr 6 18), some (mi x1), some (mi x2), some (mi x3), some (mi x4), some (mi x5)] [] (call 131 [mr 6 18, mi (s1 - x3)] g) := (mEv_3 _ _ _ _).trans rfl
theorem e_X5_run_92 {X : mX} {call : Nat → List mV → mG → mR} {g : mG} {x1 x2 x3 x4 x5 s0 : Int32} : mEv X call 1 t_X5_run (mDrop t_X5_run 92) [some (mr 6 18), some (mi x1), some (mi x2), some (mi x3), some (mi x4), some (mi x5)] [mi s0] g = some (some (mi s0), g) := (mEv_1 _ _ _ _).trans rfl
theorem e_X5_run_52 {X : mX} {call : Nat → List mV → mG → mR} {g : mG} {x1 x2 x3 x4 x5 : Int32} : mEv X call 1 t_X5_run (mDrop t_X5_run 52) [some (mr 6 18), some (mi x1), some (mi x2), some (mi x3), some (mi x4), some (mi x5)] [] g = mAns (mEv X call 1 t_X5_run) (mDrop t_X5_run 61) [some (mr 6 18), some (mi x1), some (mi x2), some (mi x3), some (mi x4), some (mi x5)] [] (call 20 [mr 0 0, mi x4] g) := (mEv_4 _ _ _ _).trans rfl
theorem e_X5_run_61 {X : mX} {call : Nat → List mV → mG → mR} {g : mG} {x1 x2 x3 x4 x5 s0 : Int32} : mEv X call 1 t_X5_run (mDrop t_X5_run 61) [some (mr 6 18), some (mi x1), some (mi x2), some (mi x3), some (mi x4), some (mi x5)] [mi s0] g = mAns (mEv X call 1 t_X5_run) (mDrop t_X5_run 70) [some (mr 6 18), some (mi x1), some (mi x2), some (mi x3), some (mi s0), some (mi x5)] [] (call 22 [mr 0 0] g) := (mEv_4 _ _ _ _).trans rfl
theorem e_X5_run_70 {X : mX} {call : Nat → List mV → mG → mR} {g : mG} {x1 x2 x3 x4 x5 : Int32} : mEv X call 1 t_X5_run (mDrop t_X5_run 70) [some (mr 6 18), some (mi x1), some (mi x2), some (mi x3), some (mi x4), some (mi x5)] [] g = mEv X call 1 t_X5_run (mDrop t_X5_run 46) [some (mr 6 18), some (mi x1), some (mi x2), some (mi x3), some (mi x4), some (mi (x5 + 1))] [] g := (mEv_2 _ _ _ _).trans rfl
noncomputable def B_X5_run_46 (x1 : Int32) (x3 : Int32) : (Int32 × Int32 × mG) → (Int32 × Int32 × mG) ⊕ (Int32 × mG) := fun s => match s with | (x4, x5, g) => (if x1 ≤ x5 then (.inr (mBd (α := Int32) (mTt 8 (g 0 15)) (fun v1 => (mBd (α := Int32 × mG) (P_X5_answer g (v1 - x3)) (fun p2 => (p2.1, p2.2)))))) else (mBd (α := Int32 × mC) (P_X0_takeComers (g 0) x4) (fun p3 => (mBd (α := mG) (mU (mU g 0 p3.2) 0 (P_X0_passTick ((mU g 0 p3.2) 0))) (fun g4 => (.inl (p3.1, (x5 + 1), g4)))))))
set_option maxRecDepth 100000 in
theorem tm_X5_run_46 {x1 : Int32} {x3 : Int32} : mTm (B_X5_run_46 x1 x3) := by
  refine ⟨fun s => match s with | (x4, x5, g) => mMx x5, fun s s2 h => ?_⟩
  obtain ⟨x4, x5, g⟩ := s
  simp only [B_X5_run_46, mBd, mBo] at h
  (repeat' split at h) <;> first | (have h2 := Sum.inl.inj h; subst h2; dsimp only; first | exact mtm_max (by assumption) | exact mtm_lt (by assumption)) | (cases h; done)
theorem rl_X5_run_46 (d : Nat) {X : mX} {g : mG} {x1 x2 x3 x4 x5 : Int32} : mEv X (mCall mD X (d + 7)) 1 t_X5_run (mDrop t_X5_run 46) [some (mr 6 18), some (mi x1), some (mi x2), some (mi x3), some (mi x4), some (mi x5)] [] g = (wG) (mWh (0, fun _ _ _ => 0) (B_X5_run_46 x1 x3) (x4, x5, g)) := by
  refine mWh_ev (B := (B_X5_run_46 x1 x3)) (ev := fun s : (Int32 × Int32 × mG) => match s with | (x4, x5, g) => mEv X (mCall mD X (d + 7)) 1 t_X5_run (mDrop t_X5_run 46) [some (mr 6 18), some (mi x1), some (mi x2), some (mi x3), some (mi x4), some (mi x5)] [] g) (w := (wG)) (tm_X5_run_46) ?_ (x4, x5, g)
  rintro ⟨x4, x5, g⟩
  show mEv X (mCall mD X (d + 7)) 1 t_X5_run (mDrop t_X5_run 46) [some (mr 6 18), some (mi x1), some (mi x2), some (mi x3), some (mi x4), some (mi x5)] [] g = wB (fun s : (Int32 × Int32 × mG) => match s with | (x4, x5, g) => mEv X (mCall mD X (d + 7)) 1 t_X5_run (mDrop t_X5_run 46) [some (mr 6 18), some (mi x1), some (mi x2), some (mi x3), some (mi x4), some (mi x5)] [] g) (wG) (B_X5_run_46 x1 x3 (x4, x5, g))
  refine Eq.trans (e_X5_run_46) ?_
  refine mw_ite (fun h5 => ?_) (fun h5 => ?_)
  · refine mw_inr ?_
    refine Eq.trans (e_X5_run_76) ?_
    refine mw_cI (rr_X5_total_15_at (d + 6)) (fun v1 => ?_)
    refine Eq.trans (e_X5_run_87) ?_
    refine mw_gW (rr_X5_answer (d + 6)) (fun p2 => ?_)
    refine Eq.trans (e_X5_run_92) ?_
    all_goals rfl
  · refine Eq.trans (e_X5_run_52) ?_
    refine mw_cW (rr_X0_takeComers_at (d + 3)) (fun p3 => ?_)
    refine Eq.trans (e_X5_run_61) ?_
    refine mw_gV (rr_X0_passTick_at d) (fun g4 => ?_)
    refine Eq.trans (e_X5_run_70) ?_
    exact mw_inl rfl
noncomputable def P_X5_run (g : mG) (x1 : Int32) (x2 : Int32) : (Int32 × mG) := (if x1 < 1 then (J_X5_run_23 g) else (if 300 < x1 then (J_X5_run_23 g) else (if x2 < 0 then (J_X5_run_23 g) else (if x2 ≤ 9999 then (mBd (α := Int32) (mTt 8 (g 0 15)) (fun v1 => (mWh (0, fun _ _ _ => 0) (B_X5_run_46 x1 v1) (x2, 0, g)))) else (J_X5_run_23 g)))))
theorem rr_X5_run (d : Nat) {X : mX} {g : mG} {x1 x2 : Int32} : mCall mD X (d + 8) 118 [mr 6 18, mi x1, mi x2] g = (wG) (P_X5_run g x1 x2) := by
  refine Eq.trans (mCall_eq (d := d + 7) rfl) ?_
  show mEv X (mCall mD X (d + 7)) 1 t_X5_run (mDrop t_X5_run 0) [some (mr 6 18), some (mi x1), some (mi x2), none, none, none] [] g = _
  refine Eq.trans (e_X5_run_0) ?_
  refine mw_ite (fun h5 => ?_) (fun h5 => ?_)
  · exact rj_X5_run_23 d
  · refine Eq.trans (e_X5_run_5) ?_
    refine mw_ite (fun h4 => ?_) (fun h4 => ?_)
    · exact rj_X5_run_23 d
    · refine Eq.trans (e_X5_run_12) ?_
      refine mw_ite (fun h3 => ?_) (fun h3 => ?_)
      · exact rj_X5_run_23 d
      · refine Eq.trans (e_X5_run_16) ?_
        refine mw_ite (fun h2 => ?_) (fun h2 => ?_)
        · refine Eq.trans (e_X5_run_29) ?_
          refine mw_cI (rr_X5_total_15_at (d + 6)) (fun v1 => ?_)
          refine Eq.trans (e_X5_run_39) ?_
          exact rl_X5_run_46 d
        · exact rj_X5_run_23 d
theorem e_X5_foes_0 {X : mX} {call : Nat → List mV → mG → mR} {g : mG} {x1 x2 : Int32} : mEv X call 1 t_X5_foes (mDrop t_X5_foes 0) [some (mr 6 18), some (mi x1), some (mi x2)] [] g = mAns (mEv X call 1 t_X5_foes) (mDrop t_X5_foes 11) [some (mr 6 18), some (mi x1), some (mi x2)] [] (call 54 [mr 0 1, mi x1] g) := (mEv_5 _ _ _ _).trans rfl
theorem e_X5_foes_11 {X : mX} {call : Nat → List mV → mG → mR} {g : mG} {x1 x2 s0 : Int32} : mEv X call 1 t_X5_foes (mDrop t_X5_foes 11) [some (mr 6 18), some (mi x1), some (mi x2)] [mi s0] g = if s0 = 0 then mEv X call 1 t_X5_foes (mDrop t_X5_foes 28) [some (mr 6 18), some (mi x1), some (mi x2)] [] g else mEv X call 1 t_X5_foes (mDrop t_X5_foes 14) [some (mr 6 18), some (mi x1), some (mi x2)] [] g := (mEv_1 _ _ _ _).trans rfl
theorem e_X5_foes_28 {X : mX} {call : Nat → List mV → mG → mR} {g : mG} {x1 x2 : Int32} : mEv X call 1 t_X5_foes (mDrop t_X5_foes 28) [some (mr 6 18), some (mi x1), some (mi x2)] [] g = mAns (mEv X call 1 t_X5_foes) (mDrop t_X5_foes 33) [some (mr 6 18), some (mi x1), some (mi x2)] [] (call 132 [mr 6 18, mi 2] g) := (mEv_3 _ _ _ _).trans rfl
theorem e_X5_foes_33 {X : mX} {call : Nat → List mV → mG → mR} {g : mG} {x1 x2 s0 : Int32} : mEv X call 1 t_X5_foes (mDrop t_X5_foes 33) [some (mr 6 18), some (mi x1), some (mi x2)] [mi s0] g = some (some (mi s0), g) := (mEv_1 _ _ _ _).trans rfl
noncomputable def J_X5_foes_28 (g : mG) : (Int32 × mG) := (mBd (α := Int32 × mG) (P_X5_refuse g 2) (fun p1 => (p1.1, p1.2)))
theorem rj_X5_foes_28 (d : Nat) {X : mX} {g : mG} {x1 x2 : Int32} : mEv X (mCall mD X (d + 2)) 1 t_X5_foes (mDrop t_X5_foes 28) [some (mr 6 18), some (mi x1), some (mi x2)] [] g = (wG) (J_X5_foes_28 g) := by
  refine Eq.trans (e_X5_foes_28) ?_
  refine mw_gW (rr_X5_refuse (d + 1)) (fun p1 => ?_)
  refine Eq.trans (e_X5_foes_33) ?_
  all_goals rfl
theorem e_X5_foes_14 {X : mX} {call : Nat → List mV → mG → mR} {g : mG} {x1 x2 : Int32} : mEv X call 1 t_X5_foes (mDrop t_X5_foes 14) [some (mr 6 18), some (mi x1), some (mi x2)] [] g = mAns (mEv X call 1 t_X5_foes) (mDrop t_X5_foes 25) [some (mr 6 18), some (mi x1), some (mi x2)] [] (call 54 [mr 0 1, mi x2] g) := (mEv_5 _ _ _ _).trans rfl
theorem e_X5_foes_25 {X : mX} {call : Nat → List mV → mG → mR} {g : mG} {x1 x2 s0 : Int32} : mEv X call 1 t_X5_foes (mDrop t_X5_foes 25) [some (mr 6 18), some (mi x1), some (mi x2)] [mi s0] g = if s0 = 0 then mEv X call 1 t_X5_foes (mDrop t_X5_foes 28) [some (mr 6 18), some (mi x1), some (mi x2)] [] g else mEv X call 1 t_X5_foes (mDrop t_X5_foes 34) [some (mr 6 18), some (mi x1), some (mi x2)] [] g := (mEv_1 _ _ _ _).trans rfl
theorem e_X5_foes_34 {X : mX} {call : Nat → List mV → mG → mR} {g : mG} {x1 x2 : Int32} : mEv X call 1 t_X5_foes (mDrop t_X5_foes 34) [some (mr 6 18), some (mi x1), some (mi x2)] [] g = mAns (mEv X call 1 t_X5_foes) (mDrop t_X5_foes 46) [some (mr 6 18), some (mi x1), some (mi x2)] [mr 6 18] (call 63 [mr 0 1, mi x1] g) := (mEv_6 _ _ _ _).trans rfl
theorem e_X5_foes_46 {X : mX} {call : Nat → List mV → mG → mR} {g : mG} {x1 x2 s1 : Int32} : mEv X call 1 t_X5_foes (mDrop t_X5_foes 46) [some (mr 6 18), some (mi x1), some (mi x2)] [mi s1, mr 6 18] g = mAns (mEv X call 1 t_X5_foes) (mDrop t_X5_foes 50) [some (mr 6 18), some (mi x1), some (mi x2)] [mr 6 18] (call 149 [mi s1, mi x2] g) := (mEv_2 _ _ _ _).trans rfl
theorem e_X5_foes_50 {X : mX} {call : Nat → List mV → mG → mR} {g : mG} {x1 x2 s1 : Int32} : mEv X call 1 t_X5_foes (mDrop t_X5_foes 50) [some (mr 6 18), some (mi x1), some (mi x2)] [mi s1, mr 6 18] g = if s1 = 0 then mEv X call 1 t_X5_foes (mDrop t_X5_foes 57) [some (mr 6 18), some (mi x1), some (mi x2)] [mr 6 18] g else mEv X call 1 t_X5_foes (mDrop t_X5_foes 53) [some (mr 6 18), some (mi x1), some (mi x2)] [mr 6 18] g := (mEv_1 _ _ _ _).trans rfl
theorem e_X5_foes_57 {X : mX} {call : Nat → List mV → mG → mR} {g : mG} {x1 x2 : Int32} : mEv X call 1 t_X5_foes (mDrop t_X5_foes 57) [some (mr 6 18), some (mi x1), some (mi x2)] [mr 6 18] g = mEv X call 1 t_X5_foes (mDrop t_X5_foes 58) [some (mr 6 18), some (mi x1), some (mi x2)] [mi 0, mr 6 18] g := (mEv_1 _ _ _ _).trans rfl
theorem e_X5_foes_58 {X : mX} {call : Nat → List mV → mG → mR} {g : mG} {x1 x2 s1 : Int32} : mEv X call 1 t_X5_foes (mDrop t_X5_foes 58) [some (mr 6 18), some (mi x1), some (mi x2)] [mi s1, mr 6 18] g = mAns (mEv X call 1 t_X5_foes) (mDrop t_X5_foes 61) [some (mr 6 18), some (mi x1), some (mi x2)] [] (call 131 [mr 6 18, mi s1] g) := (mEv_1 _ _ _ _).trans rfl
theorem e_X5_foes_61 {X : mX} {call : Nat → List mV → mG → mR} {g : mG} {x1 x2 s0 : Int32} : mEv X call 1 t_X5_foes (mDrop t_X5_foes 61) [some (mr 6 18), some (mi x1), some (mi x2)] [mi s0] g = some (some (mi s0), g) := (mEv_1 _ _ _ _).trans rfl
noncomputable def J_X5_foes_58 (g : mG) (s1 : Int32) : (Int32 × mG) := (mBd (α := Int32 × mG) (P_X5_answer g s1) (fun p1 => (p1.1, p1.2)))
theorem rj_X5_foes_58 (d : Nat) {X : mX} {g : mG} {x1 x2 s1 : Int32} : mEv X (mCall mD X (d + 2)) 1 t_X5_foes (mDrop t_X5_foes 58) [some (mr 6 18), some (mi x1), some (mi x2)] [mi s1, mr 6 18] g = (wG) (J_X5_foes_58 g s1) := by
  refine Eq.trans (e_X5_foes_58) ?_
  refine mw_gW (rr_X5_answer (d + 1)) (fun p1 => ?_)
  refine Eq.trans (e_X5_foes_61) ?_
  all_goals rfl
theorem e_X5_foes_53 {X : mX} {call : Nat → List mV → mG → mR} {g : mG} {x1 x2 : Int32} : mEv X call 1 t_X5_foes (mDrop t_X5_foes 53) [some (mr 6 18), some (mi x1), some (mi x2)] [mr 6 18] g = mEv X call 1 t_X5_foes (mDrop t_X5_foes 58) [some (mr 6 18), some (mi x1), some (mi x2)] [mi 1, mr 6 18] g := (mEv_2 _ _ _ _).trans rfl
noncomputable def P_X5_foes (g : mG) (x1 : Int32) (x2 : Int32) : (Int32 × mG) := (mBd (α := Int32) (P_X2_hasPhase (g 0) x1) (fun v1 => (if v1 = 0 then (J_X5_foes_28 g) else (mBd (α := Int32) (P_X2_hasPhase (g 0) x2) (fun v2 => (if v2 = 0 then (J_X5_foes_28 g) else (mBd (α := Int32) (P_X2_foesOf (g 0) x1) (fun v3 => (mBd (α := Int32) (P_X5_inSet v3 x2) (fun v4 => (if v4 = 0 then (J_X5_foes_58 g 0) else (J_X5_foes_58 g 1))))))))))))
theorem rr_X5_foes (d : Nat) {X : mX} {g : mG} {x1 x2 : Int32} : mCall mD X (d + 3) 121 [mr 6 18, mi x1, mi x2] g = (wG) (P_X5_foes g x1 x2) := by
  refine Eq.trans (mCall_eq (d := d + 2) rfl) ?_
  show mEv X (mCall mD X (d + 2)) 1 t_X5_foes (mDrop t_X5_foes 0) [some (mr 6 18), some (mi x1), some (mi x2)] [] g = _
  refine Eq.trans (e_X5_foes_0) ?_
  refine mw_cZ (rr_X2_hasPhase_at (d + 1)) rfl (fun v1 hv1 => ?_)
  refine Eq.trans (e_X5_foes_11) ?_
  refine mw_ite (fun h7 => ?_) (fun h7 => ?_)
  · exact rj_X5_foes_28 d
  · refine Eq.trans (e_X5_foes_14) ?_
    refine mw_cZ (rr_X2_hasPhase_at (d + 1)) rfl (fun v2 hv2 => ?_)
    refine Eq.trans (e_X5_foes_25) ?_
    refine mw_ite (fun h6 => ?_) (fun h6 => ?_)
    · exact rj_X5_foes_28 d
    · refine Eq.trans (e_X5_foes_34) ?_
      refine mw_cI (rr_X2_foesOf_at d) (fun v3 => ?_)
      refine Eq.trans (e_X5_foes_46) ?_
      refine mw_cZ (rr_X5_inSet (d + 1)) rfl (fun v4 hv4 => ?_)
      refine Eq.trans (e_X5_foes_50) ?_
      refine mw_ite (fun h5 => ?_) (fun h5 => ?_)
      · refine Eq.trans (e_X5_foes_57) ?_
        exact rj_X5_foes_58 d
      · refine Eq.trans (e_X5_foes_53) ?_
        exact rj_X5_foes_58 d
theorem e_X5_sets_0 {X : mX} {call : Nat → List mV → mG → mR} {g : mG} {x1 : Int32} : mEv X call 1 t_X5_sets (mDrop t_X5_sets 0) [some (mr 6 18), some (mi x1), none, none, none, none, none] [] g = if x1 < 0 then mEv X call 1 t_X5_sets (mDrop t_X5_sets 9) [some (mr 6 18), some (mi x1), none, none, none, none, none] [] g else mEv X call 1 t_X5_sets (mDrop t_X5_sets 4) [some (mr 6 18), some (mi x1), none, none, none, none, none] [] g := (mEv_2 _ _ _ _).trans rfl
theorem e_X5_sets_9 {X : mX} {call : Nat → List mV → mG → mR} {g : mG} {x1 : Int32} : mEv X call 1 t_X5_sets (mDrop t_X5_sets 9) [some (mr 6 18), some (mi x1), none, none, none, none, none] [] g = mAns (mEv X call 1 t_X5_sets) (mDrop t_X5_sets 14) [some (mr 6 18), some (mi x1), none, none, none, none, none] [] (call 132 [mr 6 18, mi 1] g) := (mEv_3 _ _ _ _).trans rfl
theorem e_X5_sets_14 {X : mX} {call : Nat → List mV → mG → mR} {g : mG} {x1 s0 : Int32} : mEv X call 1 t_X5_sets (mDrop t_X5_sets 14) [some (mr 6 18), some (mi x1), none, none, none, none, none] [mi s0] g = some (some (mi s0), g) := (mEv_1 _ _ _ _).trans rfl
noncomputable def J_X5_sets_9 (g : mG) : (Int32 × mG) := (mBd (α := Int32 × mG) (P_X5_refuse g 1) (fun p1 => (p1.1, p1.2)))
theorem rj_X5_sets_9 (d : Nat) {X : mX} {g : mG} {x1 : Int32} : mEv X (mCall mD X (d + 3)) 1 t_X5_sets (mDrop t_X5_sets 9) [some (mr 6 18), some (mi x1), none, none, none, none, none] [] g = (wG) (J_X5_sets_9 g) := by
  refine Eq.trans (e_X5_sets_9) ?_
  refine mw_gW (rr_X5_refuse (d + 2)) (fun p1 => ?_)
  refine Eq.trans (e_X5_sets_14) ?_
  all_goals rfl
theorem e_X5_sets_4 {X : mX} {call : Nat → List mV → mG → mR} {g : mG} {x1 : Int32} : mEv X call 1 t_X5_sets (mDrop t_X5_sets 4) [some (mr 6 18), some (mi x1), none, none, none, none, none] [] g = if x1 ≤ 1 then mEv X call 1 t_X5_sets (mDrop t_X5_sets 15) [some (mr 6 18), some (mi x1), none, none, none, none, none] [] g else mEv X call 1 t_X5_sets (mDrop t_X5_sets 9) [some (mr 6 18), some (mi x1), none, none, none, none, none] [] g := (mEv_3 _ _ _ _).trans rfl
theorem e_X5_sets_15 {X : mX} {call : Nat → List mV → mG → mR} {g : mG} {x1 : Int32} : mEv X call 1 t_X5_sets (mDrop t_X5_sets 15) [some (mr 6 18), some (mi x1), none, none, none, none, none] [] g = mEv X call 1 t_X5_sets (mDrop t_X5_sets 25) [some (mr 6 18), some (mi x1), some (mi 0), some (mi 0), some (mi (-1)), some (mi 1), none] [] g := (mEv_8 _ _ _ _).trans rfl
theorem hk_X5_sets_25 {X : mX} {call : Nat → List mV → mG → mR} {g : mG} {x1 x2 x3 x4 x5 : Int32} {k6 : Option mV} : mEv X call 1 t_X5_sets (mDrop t_X5_sets 25) [some (mr 6 18), some (mi x1), some (mi x2), some (mi x3), some (mi x4), some (mi x5), k6] [] g = mEv X call 1 t_X5_sets (mDrop t_X5_sets 25) [some (mr 6 18), some (mi x1), some (mi x2), some (mi x3), some (mi x4), some (mi x5), none] [] g := Eq.trans (mEv_1 _ _ _ _) (Eq.symm (Eq.trans (mEv_1 _ _ _ _) rfl))
theorem e_X5_sets_25 {X : mX} {call : Nat → List mV → mG → mR} {g : mG} {x1 x2 x3 x4 x5 : Int32} {u6 : Option mV} : mEv X call 1 t_X5_sets (mDrop t_X5_sets 25) [some (mr 6 18), some (mi x1), some (mi x2), some (mi x3), some (mi x4), some (mi x5), u6] [] g = mAns (mEv X call 1 t_X5_sets) (mDrop t_X5_sets 37) [some (mr 6 18), some (mi x1), some (mi x2), some (mi x3), some (mi x4), some (mi x5), none] [mi x5] (call 55 [mr 0 1] g) := (mEv_5 _ _ _ _).trans rfl
theorem e_X5_sets_37 {X : mX} {call : Nat → List mV → mG → mR} {g : mG} {x1 x2 x3 x4 x5 s0 s1 : Int32} {u6 : Option mV} : mEv X call 1 t_X5_sets (mDrop t_X5_sets 37) [some (mr 6 18), some (mi x1), some (mi x2), some (mi x3), some (mi x4), some (mi x5), u6] [mi s1, mi s0] g = if s1 < s0 then mEv X call 1 t_X5_sets (mDrop t_X5_sets 89) [some (mr 6 18), some (mi x1), some (mi x2), some (mi x3), some (mi x4), some (mi x5), u6] [] g else mEv X call 1 t_X5_sets (mDrop t_X5_sets 40) [some (mr 6 18), some (mi x1), some (mi x2), some (mi x3), some (mi x4), some (mi x5), u6] [] g := (mEv_1 _ _ _ _).trans rfl
theorem e_X5_sets_89 {X : mX} {call : Nat → List mV → mG → mR} {g : mG} {x1 x2 x3 x4 x5 : Int32} {u6 : Option mV} : mEv X call 1 t_X5_sets (mDrop t_X5_sets 89) [some (mr 6 18), some (mi x1), some (mi x2), some (mi x3), some (mi x4), some (mi x5), u6] [] g = if x1 = 0 then mEv X call 1 t_X5_sets (mDrop t_X5_sets 94) [some (mr 6 18), some (mi x1), some (mi x2), some (mi x3), some (mi x4), some (mi x5), u6] [mr 6 18] g else mEv X call 1 t_X5_sets (mDrop t_X5_sets 98) [some (mr 6 18), some (mi x1), some (mi x2), some (mi x3), some (mi x4), some (mi x5), u6] [mr 6 18] g := (mEv_3 _ _ _ _).trans rfl
theorem e_X5_sets_94 {X : mX} {call : Nat → List mV → mG → mR} {g : mG} {x1 x2 x3 x4 x5 : Int32} {u6 : Option mV} : mEv X call 1 t_X5_sets (mDrop t_X5_sets 94) [some (mr 6 18), some (mi x1), some (mi x2), some (mi x3), some (mi x4), some (mi x5), u6] [mr 6 18] g = mEv X call 1 t_X5_sets (mDrop t_X5_sets 99) [some (mr 6 18), some (mi x1), some (mi x2), some (mi x3), some (mi x4), some (mi x5), u6] [mi x2, mr 6 18] g := (mEv_2 _ _ _ _).trans rfl
theorem e_X5_sets_99 {X : mX} {call : Nat → List mV → mG → mR} {g : mG} {x1 x2 x3 x4 x5 s1 : Int32} {u6 : Option mV} : mEv X call 1 t_X5_sets (mDrop t_X5_sets 99) [some (mr 6 18), some (mi x1), some (mi x2), some (mi x3), some (mi x4), some (mi x5), u6] [mi s1, mr 6 18] g = mAns (mEv X call 1 t_X5_sets) (mDrop t_X5_sets 102) [some (mr 6 18), some (mi x1), some (mi x2), some (mi x3), some (mi x4), some (mi x5), u6] [] (call 131 [mr 6 18, mi s1] g) := (mEv_1 _ _ _ _).trans rfl
theorem e_X5_sets_102 {X : mX} {call : Nat → List mV → mG → mR} {g : mG} {x1 x2 x3 x4 x5 s0 : Int32} {u6 : Option mV} : mEv X call 1 t_X5_sets (mDrop t_X5_sets 102) [some (mr 6 18), some (mi x1), some (mi x2), some (mi x3), some (mi x4), some (mi x5), u6] [mi s0] g = some (some (mi s0), g) := (mEv_1 _ _ _ _).trans rfl
noncomputable def J_X5_sets_99 (g : mG) (s1 : Int32) : (Int32 × mG) := (mBd (α := Int32 × mG) (P_X5_answer g s1) (fun p1 => (p1.1, p1.2)))
theorem rj_X5_sets_99 (d : Nat) {X : mX} {g : mG} {x1 x2 x3 x4 x5 s1 : Int32} {u6 : Option mV} : mEv X (mCall mD X (d + 3)) 1 t_X5_sets (mDrop t_X5_sets 99) [some (mr 6 18), some (mi x1), some (mi x2), some (mi x3), some (mi x4), some (mi x5), u6] [mi s1, mr 6 18] g = (wG) (J_X5_sets_99 g s1) := by
  refine Eq.trans (e_X5_sets_99) ?_
  refine mw_gW (rr_X5_answer (d + 2)) (fun p1 => ?_)
  refine Eq.trans (e_X5_sets_102) ?_
  all_goals rfl
theorem e_X5_sets_98 {X : mX} {call : Nat → List mV → mG → mR} {g : mG} {x1 x2 x3 x4 x5 : Int32} {u6 : Option mV} : mEv X call 1 t_X5_sets (mDrop t_X5_sets 98) [some (mr 6 18), some (mi x1), some (mi x2), some (mi x3), some (mi x4), some (mi x5), u6] [mr 6 18] g = mEv X call 1 t_X5_sets (mDrop t_X5_sets 99) [some (mr 6 18), some (mi x1), some (mi x2), some (mi x3), some (mi x4), some (mi x5), u6] [mi x3, mr 6 18] g := (mEv_1 _ _ _ _).trans rfl
theorem e_X5_sets_40 {X : mX} {call : Nat → List mV → mG → mR} {g : mG} {x1 x2 x3 x4 x5 : Int32} {u6 : Option mV} : mEv X call 1 t_X5_sets (mDrop t_X5_sets 40) [some (mr 6 18), some (mi x1), some (mi x2), some (mi x3), some (mi x4), some (mi x5), u6] [] g = mAns (mEv X call 1 t_X5_sets) (mDrop t_X5_sets 52) [some (mr 6 18), some (mi x1), some (mi x2), some (mi x3), some (mi x4), some (mi x5), u6] [] (call 66 [mr 0 1, mi x5] g) := (mEv_5 _ _ _ _).trans rfl
theorem e_X5_sets_52 {X : mX} {call : Nat → List mV → mG → mR} {g : mG} {x1 x2 x3 x4 x5 s0 : Int32} {u6 : Option mV} : mEv X call 1 t_X5_sets (mDrop t_X5_sets 52) [some (mr 6 18), some (mi x1), some (mi x2), some (mi x3), some (mi x4), some (mi x5), u6] [mi s0] g = if s0 = 0 then mEv X call 1 t_X5_sets (mDrop t_X5_sets 83) [some (mr 6 18), some (mi x1), some (mi x2), some (mi x3), some (mi x4), some (mi x5), u6] [] g else mEv X call 1 t_X5_sets (mDrop t_X5_sets 55) [some (mr 6 18), some (mi x1), some (mi x2), some (mi x3), some (mi x4), some (mi x5), u6] [] g := (mEv_1 _ _ _ _).trans rfl
theorem e_X5_sets_83 {X : mX} {call : Nat → List mV → mG → mR} {g : mG} {x1 x2 x3 x4 x5 : Int32} {u6 : Option mV} : mEv X call 1 t_X5_sets (mDrop t_X5_sets 83) [some (mr 6 18), some (mi x1), some (mi x2), some (mi x3), some (mi x4), some (mi x5), u6] [] g = mEv X call 1 t_X5_sets (mDrop t_X5_sets 25) [some (mr 6 18), some (mi x1), some (mi x2), some (mi x3), some (mi x4), some (mi (x5 + 1)), u6] [] g := (mEv_2 _ _ _ _).trans rfl
noncomputable def J_X5_sets_83 (g : mG) (x1 : Int32) (x2 : Int32) (x3 : Int32) (x4 : Int32) (x5 : Int32) : ((Int32 × Int32 × Int32 × Int32) ⊕ (Int32 × mG)) := (.inl (x2, x3, x4, (x5 + 1)))
theorem rj_X5_sets_83 (d : Nat) {X : mX} {g : mG} {x1 x2 x3 x4 x5 : Int32} {u6 : Option mV} : mEv X (mCall mD X (d + 3)) 1 t_X5_sets (mDrop t_X5_sets 83) [some (mr 6 18), some (mi x1), some (mi x2), some (mi x3), some (mi x4), some (mi x5), u6] [] g = (wB (fun s : (Int32 × Int32 × Int32 × Int32) => match s with | (x2, x3, x4, x5) => mEv X (mCall mD X (d + 3)) 1 t_X5_sets (mDrop t_X5_sets 25) [some (mr 6 18), some (mi x1), some (mi x2), some (mi x3), some (mi x4), some (mi x5), none] [] g) (wG)) (J_X5_sets_83 g x1 x2 x3 x4 x5) := by
  refine Eq.trans (e_X5_sets_83) ?_
  exact mw_inl hk_X5_sets_25
theorem e_X5_sets_55 {X : mX} {call : Nat → List mV → mG → mR} {g : mG} {x1 x2 x3 x4 x5 : Int32} {u6 : Option mV} : mEv X call 1 t_X5_sets (mDrop t_X5_sets 55) [some (mr 6 18), some (mi x1), some (mi x2), some (mi x3), some (mi x4), some (mi x5), u6] [] g = mAns (mEv X call 1 t_X5_sets) (mDrop t_X5_sets 67) [some (mr 6 18), some (mi x1), some (mi (x2 + 1)), some (mi x3), some (mi x4), some (mi x5), u6] [] (call 9 [mr 0 0, mi x5] g) := (mEv_5 _ _ _ _).trans rfl
theorem e_X5_sets_67 {X : mX} {call : Nat → List mV → mG → mR} {g : mG} {x1 x2 x3 x4 x5 s0 : Int32} {u6 : Option mV} : mEv X call 1 t_X5_sets (mDrop t_X5_sets 67) [some (mr 6 18), some (mi x1), some (mi x2), some (mi x3), some (mi x4), some (mi x5), u6] [mi s0] g = if s0 ≤ x4 then mEv X call 1 t_X5_sets (mDrop t_X5_sets 83) [some (mr 6 18), some (mi x1), some (mi x2), some (mi x3), some (mi x4), some (mi x5), some (mi s0)] [] g else mEv X call 1 t_X5_sets (mDrop t_X5_sets 76) [some (mr 6 18), some (mi x1), some (mi x2), some (mi x3), some (mi x4), some (mi x5), some (mi s0)] [] g := (mEv_4 _ _ _ _).trans rfl
theorem e_X5_sets_76 {X : mX} {call : Nat → List mV → mG → mR} {g : mG} {x1 x2 x3 x4 x5 x6 : Int32} : mEv X call 1 t_X5_sets (mDrop t_X5_sets 76) [some (mr 6 18), some (mi x1), some (mi x2), some (mi x3), some (mi x4), some (mi x5), some (mi x6)] [] g = mEv X call 1 t_X5_sets (mDrop t_X5_sets 83) [some (mr 6 18), some (mi x1), some (mi x2), some (mi x5), some (mi x6), some (mi x5), some (mi x6)] [] g := (mEv_4 _ _ _ _).trans rfl
noncomputable def B_X5_sets_25 (g : mG) (x1 : Int32) : (Int32 × Int32 × Int32 × Int32) → (Int32 × Int32 × Int32 × Int32) ⊕ (Int32 × mG) := fun s => match s with | (x2, x3, x4, x5) => (mBd (α := Int32) (P_X2_allSet (g 0)) (fun v1 => (if v1 < x5 then (.inr (if x1 = 0 then (J_X5_sets_99 g x2) else (J_X5_sets_99 g x3))) else (mBd (α := Int32) (P_X2_isFull (g 0) x5) (fun v3 => (if v3 = 0 then (J_X5_sets_83 g x1 x2 x3 x4 x5) else (mBd (α := Int32) (P_X0_queueOf (g 0) x5) (fun v4 => (if v4 ≤ x4 then (J_X5_sets_83 g x1 (x2 + 1) x3 x4 x5) else (J_X5_sets_83 g x1 (x2 + 1) x5 v4 x5))))))))))
set_option maxRecDepth 100000 in
theorem tm_X5_sets_25 {g : mG} {x1 : Int32} (hS : (P_X2_allSet (g 0)).toInt < 2147483647) : mTm (B_X5_sets_25 g x1) := by
  refine ⟨fun s => match s with | (x2, x3, x4, x5) => mMx x5, fun s s2 h => ?_⟩
  obtain ⟨x2, x3, x4, x5⟩ := s
  unfold B_X5_sets_25 mBd at h
  dsimp only at h
  by_cases hx : P_X2_allSet (g 0) < x5
  · rw [if_pos hx] at h; cases h
  · rw [if_neg hx] at h
    have hl := mtm_ltK hx hS
    unfold J_X5_sets_83 at h
    split at h
    next => have h2 := Sum.inl.inj h; subst h2; exact hl
    next =>
      split at h
      next => have h2 := Sum.inl.inj h; subst h2; exact hl
      next => have h2 := Sum.inl.inj h; subst h2; exact hl
theorem rl_X5_sets_25 (d : Nat) {X : mX} {g : mG} {x1 x2 x3 x4 x5 : Int32} (hS : (P_X2_allSet (g 0)).toInt < 2147483647) : mEv X (mCall mD X (d + 3)) 1 t_X5_sets (mDrop t_X5_sets 25) [some (mr 6 18), some (mi x1), some (mi x2), some (mi x3), some (mi x4), some (mi x5), none] [] g = (wG) (mWh (0, g) (B_X5_sets_25 g x1) (x2, x3, x4, x5)) := by
  refine mWh_ev (B := (B_X5_sets_25 g x1)) (ev := fun s : (Int32 × Int32 × Int32 × Int32) => match s with | (x2, x3, x4, x5) => mEv X (mCall mD X (d + 3)) 1 t_X5_sets (mDrop t_X5_sets 25) [some (mr 6 18), some (mi x1), some (mi x2), some (mi x3), some (mi x4), some (mi x5), none] [] g) (w := (wG)) (tm_X5_sets_25 hS) ?_ (x2, x3, x4, x5)
  rintro ⟨x2, x3, x4, x5⟩
  show mEv X (mCall mD X (d + 3)) 1 t_X5_sets (mDrop t_X5_sets 25) [some (mr 6 18), some (mi x1), some (mi x2), some (mi x3), some (mi x4), some (mi x5), none] [] g = wB (fun s : (Int32 × Int32 × Int32 × Int32) => match s with | (x2, x3, x4, x5) => mEv X (mCall mD X (d + 3)) 1 t_X5_sets (mDrop t_X5_sets 25) [some (mr 6 18), some (mi x1), some (mi x2), some (mi x3), some (mi x4), some (mi x5), none] [] g) (wG) (mBd (α := Int32) (P_X2_allSet (g 0)) (fun v1 => (if v1 < x5 then (.inr (if x1 = 0 then (J_X5_sets_99 g x2) else (J_X5_sets_99 g x3))) else (mBd (α := Int32) (P_X2_isFull (g 0) x5) (fun v3 => (if v3 = 0 then (J_X5_sets_83 g x1 x2 x3 x4 x5) else (mBd (α := Int32) (P_X0_queueOf (g 0) x5) (fun v4 => (if v4 ≤ x4 then (J_X5_sets_83 g x1 (x2 + 1) x3 x4 x5) else (J_X5_sets_83 g x1 (x2 + 1) x5 v4 x5))))))))))
  refine Eq.trans (e_X5_sets_25) ?_
  refine mw_cI (rr_X2_allSet_at (d + 2)) (fun v1 => ?_)
  refine Eq.trans (e_X5_sets_37) ?_
  refine mw_ite (fun h7 => ?_) (fun h7 => ?_)
  · refine mw_inr ?_
    refine Eq.trans (e_X5_sets_89) ?_
    refine mw_ite (fun h2 => ?_) (fun h2 => ?_)
    · refine Eq.trans (e_X5_sets_94) ?_
      exact rj_X5_sets_99 d
    · refine Eq.trans (e_X5_sets_98) ?_
      exact rj_X5_sets_99 d
  · refine Eq.trans (e_X5_sets_40) ?_
    refine mw_cZ (rr_X2_isFull_at d) rfl (fun v3 hv3 => ?_)
    refine Eq.trans (e_X5_sets_52) ?_
    refine mw_ite (fun h6 => ?_) (fun h6 => ?_)
    · exact rj_X5_sets_83 d
    · refine Eq.trans (e_X5_sets_55) ?_
      refine mw_cI (rr_X0_queueOf_at (d + 1)) (fun v4 => ?_)
      refine Eq.trans (e_X5_sets_67) ?_
      refine mw_ite (fun h5 => ?_) (fun h5 => ?_)
      · exact rj_X5_sets_83 d
      · refine Eq.trans (e_X5_sets_76) ?_
        exact rj_X5_sets_83 d
noncomputable def P_X5_sets (g : mG) (x1 : Int32) : (Int32 × mG) := (if x1 < 0 then (J_X5_sets_9 g) else (if x1 ≤ 1 then (mWh (0, g) (B_X5_sets_25 g x1) (0, 0, (-1), 1)) else (J_X5_sets_9 g)))
theorem rr_X5_sets (d : Nat) {X : mX} {g : mG} {x1 : Int32} (hS : (P_X2_allSet (g 0)).toInt < 2147483647) : mCall mD X (d + 4) 122 [mr 6 18, mi x1] g = (wG) (P_X5_sets g x1) := by
  refine Eq.trans (mCall_eq (d := d + 3) rfl) ?_
  show mEv X (mCall mD X (d + 3)) 1 t_X5_sets (mDrop t_X5_sets 0) [some (mr 6 18), some (mi x1), none, none, none, none, none] [] g = _
  refine Eq.trans (e_X5_sets_0) ?_
  refine mw_ite (fun h2 => ?_) (fun h2 => ?_)
  · exact rj_X5_sets_9 d
  · refine Eq.trans (e_X5_sets_4) ?_
    refine mw_ite (fun h1 => ?_) (fun h1 => ?_)
    · refine Eq.trans (e_X5_sets_15) ?_
      exact Eq.trans hk_X5_sets_25 (rl_X5_sets_25 d hS)
    · exact rj_X5_sets_9 d
theorem e_X5_ticksUntil_0 {X : mX} {call : Nat → List mV → mG → mR} {g : mG} {x1 x2 : Int32} : mEv X call 1 t_X5_ticksUntil (mDrop t_X5_ticksUntil 0) [some (mr 6 18), some (mi x1), some (mi x2), none] [] g = mEv X call 1 t_X5_ticksUntil (mDrop t_X5_ticksUntil 2) [some (mr 6 18), some (mi x1), some (mi x2), some (mi 0)] [] g := (mEv_2 _ _ _ _).trans rfl
theorem e_X5_ticksUntil_2 {X : mX} {call : Nat → List mV → mG → mR} {g : mG} {x1 x2 x3 : Int32} : mEv X call 1 t_X5_ticksUntil (mDrop t_X5_ticksUntil 2) [some (mr 6 18), some (mi x1), some (mi x2), some (mi x3)] [] g = if 600 < x3 then mEv X call 1 t_X5_ticksUntil (mDrop t_X5_ticksUntil 53) [some (mr 6 18), some (mi x1), some (mi x2), some (mi x3)] [] g else mEv X call 1 t_X5_ticksUntil (mDrop t_X5_ticksUntil 9) [some (mr 6 18), some (mi x1), some (mi x2), some (mi x3)] [] g := (mEv_3 _ _ _ _).trans rfl
theorem e_X5_ticksUntil_53 {X : mX} {call : Nat → List mV → mG → mR} {g : mG} {x1 x2 x3 : Int32} : mEv X call 1 t_X5_ticksUntil (mDrop t_X5_ticksUntil 53) [some (mr 6 18), some (mi x1), some (mi x2), some (mi x3)] [] g = mAns (mEv X call 1 t_X5_ticksUntil) (mDrop t_X5_ticksUntil 59) [some (mr 6 18), some (mi x1), some (mi x2), some (mi x3)] [] (call 132 [mr 6 18, mi 6] g) := (mEv_3 _ _ _ _).trans rfl
theorem e_X5_ticksUntil_59 {X : mX} {call : Nat → List mV → mG → mR} {g : mG} {x1 x2 x3 s0 : Int32} : mEv X call 1 t_X5_ticksUntil (mDrop t_X5_ticksUntil 59) [some (mr 6 18), some (mi x1), some (mi x2), some (mi x3)] [mi s0] g = some (some (mi s0), g) := (mEv_1 _ _ _ _).trans rfl
theorem e_X5_ticksUntil_9 {X : mX} {call : Nat → List mV → mG → mR} {g : mG} {x1 x2 x3 : Int32} : mEv X call 1 t_X5_ticksUntil (mDrop t_X5_ticksUntil 9) [some (mr 6 18), some (mi x1), some (mi x2), some (mi x3)] [] g = mAns (mEv X call 1 t_X5_ticksUntil) (mDrop t_X5_ticksUntil 18) [some (mr 6 18), some (mi x1), some (mi x2), some (mi x3)] [] (call 15 [mr 1 0, mi x1, mi x2] g) := (mEv_5 _ _ _ _).trans rfl
theorem e_X5_ticksUntil_18 {X : mX} {call : Nat → List mV → mG → mR} {g : mG} {x1 x2 x3 s0 : Int32} : mEv X call 1 t_X5_ticksUntil (mDrop t_X5_ticksUntil 18) [some (mr 6 18), some (mi x1), some (mi x2), some (mi x3)] [mi s0] g = if s0 = 0 then mEv X call 1 t_X5_ticksUntil (mDrop t_X5_ticksUntil 27) [some (mr 6 18), some (mi x1), some (mi x2), some (mi x3)] [] g else mEv X call 1 t_X5_ticksUntil (mDrop t_X5_ticksUntil 21) [some (mr 6 18), some (mi x1), some (mi x2), some (mi x3)] [] g := (mEv_1 _ _ _ _).trans rfl
theorem e_X5_ticksUntil_27 {X : mX} {call : Nat → List mV → mG → mR} {g : mG} {x1 x2 x3 : Int32} : mEv X call 1 t_X5_ticksUntil (mDrop t_X5_ticksUntil 27) [some (mr 6 18), some (mi x1), some (mi x2), some (mi x3)] [] g = if x1 = 1 then mEv X call 1 t_X5_ticksUntil (mDrop t_X5_ticksUntil 32) [some (mr 6 18), some (mi x1), some (mi x2), some (mi x3)] [] g else mEv X call 1 t_X5_ticksUntil (mDrop t_X5_ticksUntil 40) [some (mr 6 18), some (mi x1), some (mi x2), some (mi x3)] [] g := (mEv_3 _ _ _ _).trans rfl
theorem e_X5_ticksUntil_32 {X : mX} {call : Nat → List mV → mG → mR} {g : mG} {x1 x2 x3 : Int32} : mEv X call 1 t_X5_ticksUntil (mDrop t_X5_ticksUntil 32) [some (mr 6 18), some (mi x1), some (mi x2), some (mi x3)] [] g = mAns (mEv X call 1 t_X5_ticksUntil) (mDrop t_X5_ticksUntil 40) [some (mr 6 18), some (mi x1), some (mi x2), some (mi x3)] [] (call 18 [mr 1 0, mi x2] g) := (mEv_4 _ _ _ _).trans rfl
theorem e_X5_ticksUntil_40 {X : mX} {call : Nat → List mV → mG → mR} {g : mG} {x1 x2 x3 : Int32} : mEv X call 1 t_X5_ticksUntil (mDrop t_X5_ticksUntil 40) [some (mr 6 18), some (mi x1), some (mi x2), some (mi x3)] [] g = mAns (mEv X call 1 t_X5_ticksUntil) (mDrop t_X5_ticksUntil 47) [some (mr 6 18), some (mi x1), some (mi x2), some (mi x3)] [] (call 22 [mr 1 0] g) := (mEv_3 _ _ _ _).trans rfl
theorem e_X5_ticksUntil_47 {X : mX} {call : Nat → List mV → mG → mR} {g : mG} {x1 x2 x3 : Int32} : mEv X call 1 t_X5_ticksUntil (mDrop t_X5_ticksUntil 47) [some (mr 6 18), some (mi x1), some (mi x2), some (mi x3)] [] g = mEv X call 1 t_X5_ticksUntil (mDrop t_X5_ticksUntil 2) [some (mr 6 18), some (mi x1), some (mi x2), some (mi (x3 + 1))] [] g := (mEv_2 _ _ _ _).trans rfl
noncomputable def J_X5_ticksUntil_40 (g : mG) (x1 : Int32) (x2 : Int32) (x3 : Int32) : ((Int32 × mG) ⊕ (Int32 × mG)) := (mBd (α := mG) (mU g 1 (P_X0_passTick (g 1))) (fun g1 => (.inl ((x3 + 1), g1))))
theorem rj_X5_ticksUntil_40 (d : Nat) {X : mX} {g : mG} {x1 x2 x3 : Int32} : mEv X (mCall mD X (d + 7)) 1 t_X5_ticksUntil (mDrop t_X5_ticksUntil 40) [some (mr 6 18), some (mi x1), some (mi x2), some (mi x3)] [] g = (wB (fun s : (Int32 × mG) => match s with | (x3, g) => mEv X (mCall mD X (d + 7)) 1 t_X5_ticksUntil (mDrop t_X5_ticksUntil 2) [some (mr 6 18), some (mi x1), some (mi x2), some (mi x3)] [] g) (wG)) (J_X5_ticksUntil_40 g x1 x2 x3) := by
  refine Eq.trans (e_X5_ticksUntil_40) ?_
  refine mw_gV (rr_X0_passTick_at d) (fun g1 => ?_)
  refine Eq.trans (e_X5_ticksUntil_47) ?_
  exact mw_inl rfl
theorem e_X5_ticksUntil_21 {X : mX} {call : Nat → List mV → mG → mR} {g : mG} {x1 x2 x3 : Int32} : mEv X call 1 t_X5_ticksUntil (mDrop t_X5_ticksUntil 21) [some (mr 6 18), some (mi x1), some (mi x2), some (mi x3)] [] g = mAns (mEv X call 1 t_X5_ticksUntil) (mDrop t_X5_ticksUntil 26) [some (mr 6 18), some (mi x1), some (mi x2), some (mi x3)] [] (call 131 [mr 6 18, mi x3] g) := (mEv_3 _ _ _ _).trans rfl
theorem e_X5_ticksUntil_26 {X : mX} {call : Nat → List mV → mG → mR} {g : mG} {x1 x2 x3 s0 : Int32} : mEv X call 1 t_X5_ticksUntil (mDrop t_X5_ticksUntil 26) [some (mr 6 18), some (mi x1), some (mi x2), some (mi x3)] [mi s0] g = some (some (mi s0), g) := (mEv_1 _ _ _ _).trans rfl
noncomputable def B_X5_ticksUntil_2 (x1 : Int32) (x2 : Int32) : (Int32 × mG) → (Int32 × mG) ⊕ (Int32 × mG) := fun s => match s with | (x3, g) => (if 600 < x3 then (.inr (mBd (α := Int32 × mG) (P_X5_refuse g 6) (fun p1 => (p1.1, p1.2)))) else (mBd (α := Int32) (P_X0_hasReached (g 1) x1 x2) (fun v2 => (if v2 = 0 then (if x1 = 1 then (mBd (α := mG) (mU g 1 (P_X0_callOthers (g 1) x2)) (fun g3 => (J_X5_ticksUntil_40 g3 x1 x2 x3))) else (J_X5_ticksUntil_40 g x1 x2 x3)) else (.inr (mBd (α := Int32 × mG) (P_X5_answer g x3) (fun p5 => (p5.1, p5.2))))))))
set_option maxRecDepth 100000 in
theorem tm_X5_ticksUntil_2 {x1 : Int32} {x2 : Int32} : mTm (B_X5_ticksUntil_2 x1 x2) := by
  refine ⟨fun s => match s with | (x3, g) => mMx x3, fun s s2 h => ?_⟩
  obtain ⟨x3, g⟩ := s
  simp only [B_X5_ticksUntil_2, J_X5_ticksUntil_40, mBd] at h
  (repeat' split at h) <;> first | (have h2 := Sum.inl.inj h; subst h2; dsimp only; exact mtm_ltK (by assumption) (by decide)) | (cases h; done)
theorem rl_X5_ticksUntil_2 (d : Nat) {X : mX} {g : mG} {x1 x2 x3 : Int32} : mEv X (mCall mD X (d + 7)) 1 t_X5_ticksUntil (mDrop t_X5_ticksUntil 2) [some (mr 6 18), some (mi x1), some (mi x2), some (mi x3)] [] g = (wG) (mWh (0, fun _ _ _ => 0) (B_X5_ticksUntil_2 x1 x2) (x3, g)) := by
  refine mWh_ev (B := (B_X5_ticksUntil_2 x1 x2)) (ev := fun s : (Int32 × mG) => match s with | (x3, g) => mEv X (mCall mD X (d + 7)) 1 t_X5_ticksUntil (mDrop t_X5_ticksUntil 2) [some (mr 6 18), some (mi x1), some (mi x2), some (mi x3)] [] g) (w := (wG)) (tm_X5_ticksUntil_2) ?_ (x3, g)
  rintro ⟨x3, g⟩
  show mEv X (mCall mD X (d + 7)) 1 t_X5_ticksUntil (mDrop t_X5_ticksUntil 2) [some (mr 6 18), some (mi x1), some (mi x2), some (mi x3)] [] g = wB (fun s : (Int32 × mG) => match s with | (x3, g) => mEv X (mCall mD X (d + 7)) 1 t_X5_ticksUntil (mDrop t_X5_ticksUntil 2) [some (mr 6 18), some (mi x1), some (mi x2), some (mi x3)] [] g) (wG) (B_X5_ticksUntil_2 x1 x2 (x3, g))
  refine Eq.trans (e_X5_ticksUntil_2) ?_
  refine mw_ite (fun h7 => ?_) (fun h7 => ?_)
  · refine mw_inr ?_
    refine Eq.trans (e_X5_ticksUntil_53) ?_
    refine mw_gW (rr_X5_refuse (d + 6)) (fun p1 => ?_)
    refine Eq.trans (e_X5_ticksUntil_59) ?_
    all_goals rfl
  · refine Eq.trans (e_X5_ticksUntil_9) ?_
    refine mw_cZ (rr_X0_hasReached_at (d + 4)) rfl (fun v2 hv2 => ?_)
    refine Eq.trans (e_X5_ticksUntil_18) ?_
    refine mw_ite (fun h6 => ?_) (fun h6 => ?_)
    · refine Eq.trans (e_X5_ticksUntil_27) ?_
      refine mw_ite (fun h4 => ?_) (fun h4 => ?_)
      · refine Eq.trans (e_X5_ticksUntil_32) ?_
        refine mw_gV (rr_X0_callOthers_at (d + 3)) (fun g3 => ?_)
        exact rj_X5_ticksUntil_40 d
      · exact rj_X5_ticksUntil_40 d
    · refine mw_inr ?_
      refine Eq.trans (e_X5_ticksUntil_21) ?_
      refine mw_gW (rr_X5_answer (d + 6)) (fun p5 => ?_)
      refine Eq.trans (e_X5_ticksUntil_26) ?_
      all_goals rfl
noncomputable def P_X5_ticksUntil (g : mG) (x1 : Int32) (x2 : Int32) : (Int32 × mG) := (mWh (0, fun _ _ _ => 0) (B_X5_ticksUntil_2 x1 x2) (0, g))
theorem rr_X5_ticksUntil (d : Nat) {X : mX} {g : mG} {x1 x2 : Int32} : mCall mD X (d + 8) 137 [mr 6 18, mi x1, mi x2] g = (wG) (P_X5_ticksUntil g x1 x2) := by
  refine Eq.trans (mCall_eq (d := d + 7) rfl) ?_
  show mEv X (mCall mD X (d + 7)) 1 t_X5_ticksUntil (mDrop t_X5_ticksUntil 0) [some (mr 6 18), some (mi x1), some (mi x2), none] [] g = _
  refine Eq.trans (e_X5_ticksUntil_0) ?_
  exact rl_X5_ticksUntil_2 d
theorem e_X5_when_0 {X : mX} {call : Nat → List mV → mG → mR} {g : mG} {x1 : Int32} : mEv X call 1 t_X5_when (mDrop t_X5_when 0) [some (mr 6 18), some (mi x1)] [] g = mAns (mEv X call 1 t_X5_when) (mDrop t_X5_when 11) [some (mr 6 18), some (mi x1)] [] (call 54 [mr 0 1, mi x1] g) := (mEv_5 _ _ _ _).trans rfl
theorem e_X5_when_11 {X : mX} {call : Nat → List mV → mG → mR} {g : mG} {x1 s0 : Int32} : mEv X call 1 t_X5_when (mDrop t_X5_when 11) [some (mr 6 18), some (mi x1)] [mi s0] g = if s0 = 0 then mEv X call 1 t_X5_when (mDrop t_X5_when 14) [some (mr 6 18), some (mi x1)] [] g else mEv X call 1 t_X5_when (mDrop t_X5_when 20) [some (mr 6 18), some (mi x1)] [] g := (mEv_1 _ _ _ _).trans rfl
theorem e_X5_when_14 {X : mX} {call : Nat → List mV → mG → mR} {g : mG} {x1 : Int32} : mEv X call 1 t_X5_when (mDrop t_X5_when 14) [some (mr 6 18), some (mi x1)] [] g = mAns (mEv X call 1 t_X5_when) (mDrop t_X5_when 19) [some (mr 6 18), some (mi x1)] [] (call 132 [mr 6 18, mi 2] g) := (mEv_3 _ _ _ _).trans rfl
theorem e_X5_when_19 {X : mX} {call : Nat → List mV → mG → mR} {g : mG} {x1 s0 : Int32} : mEv X call 1 t_X5_when (mDrop t_X5_when 19) [some (mr 6 18), some (mi x1)] [mi s0] g = some (some (mi s0), g) := (mEv_1 _ _ _ _).trans rfl
theorem e_X5_when_20 {X : mX} {call : Nat → List mV → mG → mR} {g : mG} {x1 : Int32} : mEv X call 1 t_X5_when (mDrop t_X5_when 20) [some (mr 6 18), some (mi x1)] [] g = mAns (mEv X call 1 t_X5_when) (mDrop t_X5_when 31) [some (mr 6 18), some (mi x1)] [] (call 0 [mr 1 0, mr 0 0] g) := (mEv_5 _ _ _ _).trans rfl
theorem e_X5_when_31 {X : mX} {call : Nat → List mV → mG → mR} {g : mG} {x1 : Int32} : mEv X call 1 t_X5_when (mDrop t_X5_when 31) [some (mr 6 18), some (mi x1)] [] g = mAns (mEv X call 1 t_X5_when) (mDrop t_X5_when 37) [some (mr 6 18), some (mi x1)] [] (call 137 [mr 6 18, mi 0, mi x1] g) := (mEv_4 _ _ _ _).trans rfl
theorem e_X5_when_37 {X : mX} {call : Nat → List mV → mG → mR} {g : mG} {x1 s0 : Int32} : mEv X call 1 t_X5_when (mDrop t_X5_when 37) [some (mr 6 18), some (mi x1)] [mi s0] g = some (some (mi s0), g) := (mEv_1 _ _ _ _).trans rfl
noncomputable def P_X5_when (g : mG) (x1 : Int32) : (Int32 × mG) := (mBd (α := Int32) (P_X2_hasPhase (g 0) x1) (fun v1 => (if v1 = 0 then (mBd (α := Int32 × mG) (P_X5_refuse g 2) (fun p2 => (p2.1, p2.2))) else (mBd (α := mG) (mU g 1 (P_X0_takeFrom (g 1) (g 0))) (fun g3 => (mBd (α := Int32 × mG) (P_X5_ticksUntil g3 0 x1) (fun p4 => (p4.1, p4.2))))))))
theorem rr_X5_when (d : Nat) {X : mX} {g : mG} {x1 : Int32} : mCall mD X (d + 9) 123 [mr 6 18, mi x1] g = (wG) (P_X5_when g x1) := by
  refine Eq.trans (mCall_eq (d := d + 8) rfl) ?_
  show mEv X (mCall mD X (d + 8)) 1 t_X5_when (mDrop t_X5_when 0) [some (mr 6 18), some (mi x1)] [] g = _
  refine Eq.trans (e_X5_when_0) ?_
  refine mw_cZ (rr_X2_hasPhase_at (d + 7)) rfl (fun v1 hv1 => ?_)
  refine Eq.trans (e_X5_when_11) ?_
  refine mw_ite (fun h5 => ?_) (fun h5 => ?_)
  · refine Eq.trans (e_X5_when_14) ?_
    refine mw_gW (rr_X5_refuse (d + 7)) (fun p2 => ?_)
    refine Eq.trans (e_X5_when_19) ?_
    all_goals rfl
  · refine Eq.trans (e_X5_when_20) ?_
    refine mw_gV (rr_X0_takeFrom_at (d + 4) (by decide)) (fun g3 => ?_)
    refine Eq.trans (e_X5_when_31) ?_
    refine mw_gW (rr_X5_ticksUntil d) (fun p4 => ?_)
    refine Eq.trans (e_X5_when_37) ?_
    all_goals rfl
theorem e_X5_worst_0 {X : mX} {call : Nat → List mV → mG → mR} {g : mG} {x1 : Int32} : mEv X call 1 t_X5_worst (mDrop t_X5_worst 0) [some (mr 6 18), some (mi x1)] [] g = mAns (mEv X call 1 t_X5_worst) (mDrop t_X5_worst 11) [some (mr 6 18), some (mi x1)] [] (call 54 [mr 0 1, mi x1] g) := (mEv_5 _ _ _ _).trans rfl
theorem e_X5_worst_11 {X : mX} {call : Nat → List mV → mG → mR} {g : mG} {x1 s0 : Int32} : mEv X call 1 t_X5_worst (mDrop t_X5_worst 11) [some (mr 6 18), some (mi x1)] [mi s0] g = if s0 = 0 then mEv X call 1 t_X5_worst (mDrop t_X5_worst 14) [some (mr 6 18), some (mi x1)] [] g else mEv X call 1 t_X5_worst (mDrop t_X5_worst 20) [some (mr 6 18), some (mi x1)] [] g := (mEv_1 _ _ _ _).trans rfl
theorem e_X5_worst_14 {X : mX} {call : Nat → List mV → mG → mR} {g : mG} {x1 : Int32} : mEv X call 1 t_X5_worst (mDrop t_X5_worst 14) [some (mr 6 18), some (mi x1)] [] g = mAns (mEv X call 1 t_X5_worst) (mDrop t_X5_worst 19) [some (mr 6 18), some (mi x1)] [] (call 132 [mr 6 18, mi 2] g) := (mEv_3 _ _ _ _).trans rfl
theorem e_X5_worst_19 {X : mX} {call : Nat → List mV → mG → mR} {g : mG} {x1 s0 : Int32} : mEv X call 1 t_X5_worst (mDrop t_X5_worst 19) [some (mr 6 18), some (mi x1)] [mi s0] g = some (some (mi s0), g) := (mEv_1 _ _ _ _).trans rfl
theorem e_X5_worst_20 {X : mX} {call : Nat → List mV → mG → mR} {g : mG} {x1 : Int32} : mEv X call 1 t_X5_worst (mDrop t_X5_worst 20) [some (mr 6 18), some (mi x1)] [] g = mAns (mEv X call 1 t_X5_worst) (mDrop t_X5_worst 31) [some (mr 6 18), some (mi x1)] [] (call 0 [mr 1 0, mr 0 0] g) := (mEv_5 _ _ _ _).trans rfl
theorem e_X5_worst_31 {X : mX} {call : Nat → List mV → mG → mR} {g : mG} {x1 : Int32} : mEv X call 1 t_X5_worst (mDrop t_X5_worst 31) [some (mr 6 18), some (mi x1)] [] g = mAns (mEv X call 1 t_X5_worst) (mDrop t_X5_worst 39) [some (mr 6 18), some (mi x1)] [] (call 17 [mr 1 0, mi x1] g) := (mEv_4 _ _ _ _).trans rfl
theorem e_X5_worst_39 {X : mX} {call : Nat → List mV → mG → mR} {g : mG} {x1 : Int32} : mEv X call 1 t_X5_worst (mDrop t_X5_worst 39) [some (mr 6 18), some (mi x1)] [] g = mAns (mEv X call 1 t_X5_worst) (mDrop t_X5_worst 45) [some (mr 6 18), some (mi x1)] [] (call 137 [mr 6 18, mi 1, mi x1] g) := (mEv_4 _ _ _ _).trans rfl
theorem e_X5_worst_45 {X : mX} {call : Nat → List mV → mG → mR} {g : mG} {x1 s0 : Int32} : mEv X call 1 t_X5_worst (mDrop t_X5_worst 45) [some (mr 6 18), some (mi x1)] [mi s0] g = some (some (mi s0), g) := (mEv_1 _ _ _ _).trans rfl
noncomputable def P_X5_worst (g : mG) (x1 : Int32) : (Int32 × mG) := (mBd (α := Int32) (P_X2_hasPhase (g 0) x1) (fun v1 => (if v1 = 0 then (mBd (α := Int32 × mG) (P_X5_refuse g 2) (fun p2 => (p2.1, p2.2))) else (mBd (α := mG) (mU g 1 (P_X0_takeFrom (g 1) (g 0))) (fun g3 => (mBd (α := mG) (mU g3 1 (P_X0_takeCall (g3 1) x1)) (fun g4 => (mBd (α := Int32 × mG) (P_X5_ticksUntil g4 1 x1) (fun p5 => (p5.1, p5.2))))))))))
theorem rr_X5_worst (d : Nat) {X : mX} {g : mG} {x1 : Int32} : mCall mD X (d + 9) 124 [mr 6 18, mi x1] g = (wG) (P_X5_worst g x1) := by
  refine Eq.trans (mCall_eq (d := d + 8) rfl) ?_
  show mEv X (mCall mD X (d + 8)) 1 t_X5_worst (mDrop t_X5_worst 0) [some (mr 6 18), some (mi x1)] [] g = _
  refine Eq.trans (e_X5_worst_0) ?_
  refine mw_cZ (rr_X2_hasPhase_at (d + 7)) rfl (fun v1 hv1 => ?_)
  refine Eq.trans (e_X5_worst_11) ?_
  refine mw_ite (fun h6 => ?_) (fun h6 => ?_)
  · refine Eq.trans (e_X5_worst_14) ?_
    refine mw_gW (rr_X5_refuse (d + 7)) (fun p2 => ?_)
    refine Eq.trans (e_X5_worst_19) ?_
    all_goals rfl
  · refine Eq.trans (e_X5_worst_20) ?_
    refine mw_gV (rr_X0_takeFrom_at (d + 4) (by decide)) (fun g3 => ?_)
    refine Eq.trans (e_X5_worst_31) ?_
    refine mw_gV (rr_X0_takeCall_at (d + 5)) (fun g4 => ?_)
    refine Eq.trans (e_X5_worst_39) ?_
    refine mw_gW (rr_X5_ticksUntil d) (fun p5 => ?_)
    refine Eq.trans (e_X5_worst_45) ?_
    all_goals rfl
theorem e_X5_cleared_0 {X : mX} {call : Nat → List mV → mG → mR} {g : mG} : mEv X call 1 t_X5_cleared (mDrop t_X5_cleared 0) [some (mr 6 18)] [] g = mAns (mEv X call 1 t_X5_cleared) (mDrop t_X5_cleared 11) [some (mr 6 18)] [] (call 0 [mr 1 0, mr 0 0] g) := (mEv_5 _ _ _ _).trans rfl
theorem e_X5_cleared_11 {X : mX} {call : Nat → List mV → mG → mR} {g : mG} : mEv X call 1 t_X5_cleared (mDrop t_X5_cleared 11) [some (mr 6 18)] [] g = mAns (mEv X call 1 t_X5_cleared) (mDrop t_X5_cleared 17) [some (mr 6 18)] [] (call 137 [mr 6 18, mi 2, mi (-1)] g) := (mEv_4 _ _ _ _).trans rfl
theorem e_X5_cleared_17 {X : mX} {call : Nat → List mV → mG → mR} {g : mG} {s0 : Int32} : mEv X call 1 t_X5_cleared (mDrop t_X5_cleared 17) [some (mr 6 18)] [mi s0] g = some (some (mi s0), g) := (mEv_1 _ _ _ _).trans rfl
noncomputable def P_X5_cleared (g : mG) : (Int32 × mG) := (mBd (α := mG) (mU g 1 (P_X0_takeFrom (g 1) (g 0))) (fun g1 => (mBd (α := Int32 × mG) (P_X5_ticksUntil g1 2 (-1)) (fun p2 => (p2.1, p2.2)))))
theorem rr_X5_cleared (d : Nat) {X : mX} {g : mG} : mCall mD X (d + 9) 125 [mr 6 18] g = (wG) (P_X5_cleared g) := by
  refine Eq.trans (mCall_eq (d := d + 8) rfl) ?_
  show mEv X (mCall mD X (d + 8)) 1 t_X5_cleared (mDrop t_X5_cleared 0) [some (mr 6 18)] [] g = _
  refine Eq.trans (e_X5_cleared_0) ?_
  refine mw_gV (rr_X0_takeFrom_at (d + 4) (by decide)) (fun g1 => ?_)
  refine Eq.trans (e_X5_cleared_11) ?_
  refine mw_gW (rr_X5_ticksUntil d) (fun p2 => ?_)
  refine Eq.trans (e_X5_cleared_17) ?_
  all_goals rfl
theorem e_X5_instep_0 {X : mX} {call : Nat → List mV → mG → mR} {g : mG} : mEv X call 1 t_X5_instep (mDrop t_X5_instep 0) [some (mr 6 18)] [] g = if (g 0 1 1) = 0 then mEv X call 1 t_X5_instep (mDrop t_X5_instep 13) [some (mr 6 18)] [] g else mEv X call 1 t_X5_instep (mDrop t_X5_instep 19) [some (mr 6 18)] [] g := (mEv_5 _ _ _ _).trans rfl
theorem e_X5_instep_13 {X : mX} {call : Nat → List mV → mG → mR} {g : mG} : mEv X call 1 t_X5_instep (mDrop t_X5_instep 13) [some (mr 6 18)] [] g = mAns (mEv X call 1 t_X5_instep) (mDrop t_X5_instep 18) [some (mr 6 18)] [] (call 132 [mr 6 18, mi 5] g) := (mEv_3 _ _ _ _).trans rfl
theorem e_X5_instep_18 {X : mX} {call : Nat → List mV → mG → mR} {g : mG} {s0 : Int32} : mEv X call 1 t_X5_instep (mDrop t_X5_instep 18) [some (mr 6 18)] [mi s0] g = some (some (mi s0), g) := (mEv_1 _ _ _ _).trans rfl
theorem e_X5_instep_19 {X : mX} {call : Nat → List mV → mG → mR} {g : mG} : mEv X call 1 t_X5_instep (mDrop t_X5_instep 19) [some (mr 6 18)] [] g = mAns (mEv X call 1 t_X5_instep) (mDrop t_X5_instep 30) [some (mr 6 18)] [] (call 0 [mr 1 0, mr 0 0] g) := (mEv_5 _ _ _ _).trans rfl
theorem e_X5_instep_30 {X : mX} {call : Nat → List mV → mG → mR} {g : mG} : mEv X call 1 t_X5_instep (mDrop t_X5_instep 30) [some (mr 6 18)] [] g = mAns (mEv X call 1 t_X5_instep) (mDrop t_X5_instep 36) [some (mr 6 18)] [] (call 137 [mr 6 18, mi 3, mi (-1)] g) := (mEv_4 _ _ _ _).trans rfl
theorem e_X5_instep_36 {X : mX} {call : Nat → List mV → mG → mR} {g : mG} {s0 : Int32} : mEv X call 1 t_X5_instep (mDrop t_X5_instep 36) [some (mr 6 18)] [mi s0] g = some (some (mi s0), g) := (mEv_1 _ _ _ _).trans rfl
noncomputable def P_X5_instep (g : mG) : (Int32 × mG) := (if (g 0 1 1) = 0 then (mBd (α := Int32 × mG) (P_X5_refuse g 5) (fun p1 => (p1.1, p1.2))) else (mBd (α := mG) (mU g 1 (P_X0_takeFrom (g 1) (g 0))) (fun g2 => (mBd (α := Int32 × mG) (P_X5_ticksUntil g2 3 (-1)) (fun p3 => (p3.1, p3.2))))))
theorem rr_X5_instep (d : Nat) {X : mX} {g : mG} : mCall mD X (d + 9) 126 [mr 6 18] g = (wG) (P_X5_instep g) := by
  refine Eq.trans (mCall_eq (d := d + 8) rfl) ?_
  show mEv X (mCall mD X (d + 8)) 1 t_X5_instep (mDrop t_X5_instep 0) [some (mr 6 18)] [] g = _
  refine Eq.trans (e_X5_instep_0) ?_
  refine mw_ite (fun h4 => ?_) (fun h4 => ?_)
  · refine Eq.trans (e_X5_instep_13) ?_
    refine mw_gW (rr_X5_refuse (d + 7)) (fun p1 => ?_)
    refine Eq.trans (e_X5_instep_18) ?_
    all_goals rfl
  · refine Eq.trans (e_X5_instep_19) ?_
    refine mw_gV (rr_X0_takeFrom_at (d + 4) (by decide)) (fun g2 => ?_)
    refine Eq.trans (e_X5_instep_30) ?_
    refine mw_gW (rr_X5_ticksUntil d) (fun p3 => ?_)
    refine Eq.trans (e_X5_instep_36) ?_
    all_goals rfl
theorem e_X5_broken_0 {X : mX} {call : Nat → List mV → mG → mR} {g : mG} {x1 : Int32} : mEv X call 1 t_X5_broken (mDrop t_X5_broken 0) [some (mr 6 18), some (mi x1)] [] g = mAns (mEv X call 1 t_X5_broken) (mDrop t_X5_broken 4) [some (mr 6 18), some (mi x1)] [] (call 138 [mi x1] g) := (mEv_2 _ _ _ _).trans rfl
theorem e_X5_broken_4 {X : mX} {call : Nat → List mV → mG → mR} {g : mG} {x1 s0 : Int32} : mEv X call 1 t_X5_broken (mDrop t_X5_broken 4) [some (mr 6 18), some (mi x1)] [mi s0] g = if s0 = 0 then mEv X call 1 t_X5_broken (mDrop t_X5_broken 7) [some (mr 6 18), some (mi x1)] [] g else mEv X call 1 t_X5_broken (mDrop t_X5_broken 13) [some (mr 6 18), some (mi x1)] [] g := (mEv_1 _ _ _ _).trans rfl
theorem e_X5_broken_7 {X : mX} {call : Nat → List mV → mG → mR} {g : mG} {x1 : Int32} : mEv X call 1 t_X5_broken (mDrop t_X5_broken 7) [some (mr 6 18), some (mi x1)] [] g = mAns (mEv X call 1 t_X5_broken) (mDrop t_X5_broken 12) [some (mr 6 18), some (mi x1)] [] (call 132 [mr 6 18, mi 2] g) := (mEv_3 _ _ _ _).trans rfl
theorem e_X5_broken_12 {X : mX} {call : Nat → List mV → mG → mR} {g : mG} {x1 s0 : Int32} : mEv X call 1 t_X5_broken (mDrop t_X5_broken 12) [some (mr 6 18), some (mi x1)] [mi s0] g = some (some (mi s0), g) := (mEv_1 _ _ _ _).trans rfl
theorem e_X5_broken_13 {X : mX} {call : Nat → List mV → mG → mR} {g : mG} {x1 : Int32} : mEv X call 1 t_X5_broken (mDrop t_X5_broken 13) [some (mr 6 18), some (mi x1)] [] g = mAns (mEv X call 1 t_X5_broken) (mDrop t_X5_broken 24) [some (mr 6 18), some (mi x1)] [] (call 0 [mr 1 0, mr 0 0] g) := (mEv_5 _ _ _ _).trans rfl
theorem e_X5_broken_24 {X : mX} {call : Nat → List mV → mG → mR} {g : mG} {x1 : Int32} : mEv X call 1 t_X5_broken (mDrop t_X5_broken 24) [some (mr 6 18), some (mi x1)] [] g = mAns (mEv X call 1 t_X5_broken) (mDrop t_X5_broken 36) [some (mr 6 18), some (mi x1)] [mi (g 1 0 11), mr 1 0] (call 147 [mi x1] g) := (mEv_6 _ _ _ _).trans rfl
theorem e_X5_broken_36 {X : mX} {call : Nat → List mV → mG → mR} {g : mG} {x1 s1 s2 : Int32} : mEv X call 1 t_X5_broken (mDrop t_X5_broken 36) [some (mr 6 18), some (mi x1)] [mi s2, mi s1, mr 1 0] g = mEv X call 1 t_X5_broken (mDrop t_X5_broken 40) [some (mr 6 18), some (mi x1)] [] (mU g 1 (mP (g 1) 0 11 (s1 ||| s2))) := (mEv_2 _ _ _ _).trans rfl
theorem e_X5_broken_40 {X : mX} {call : Nat → List mV → mG → mR} {g : mG} {x1 : Int32} : mEv X call 1 t_X5_broken (mDrop t_X5_broken 40) [some (mr 6 18), some (mi x1)] [] g = mAns (mEv X call 1 t_X5_broken) (mDrop t_X5_broken 46) [some (mr 6 18), some (mi x1)] [] (call 137 [mr 6 18, mi 4, mi x1] g) := (mEv_4 _ _ _ _).trans rfl
theorem e_X5_broken_46 {X : mX} {call : Nat → List mV → mG → mR} {g : mG} {x1 s0 : Int32} : mEv X call 1 t_X5_broken (mDrop t_X5_broken 46) [some (mr 6 18), some (mi x1)] [mi s0] g = some (some (mi s0), g) := (mEv_1 _ _ _ _).trans rfl
noncomputable def P_X5_broken (g : mG) (x1 : Int32) : (Int32 × mG) := (mBd (α := Int32) (P_X5_isBreak x1) (fun v1 => (if v1 = 0 then (mBd (α := Int32 × mG) (P_X5_refuse g 2) (fun p2 => (p2.1, p2.2))) else (mBd (α := mG) (mU g 1 (P_X0_takeFrom (g 1) (g 0))) (fun g3 => (mBd (α := Int32) (P_X5_bit x1) (fun v4 => (mBd (α := Int32 × mG) (P_X5_ticksUntil (mU g3 1 (mP (g3 1) 0 11 ((g3 1 0 11) ||| v4))) 4 x1) (fun p5 => (p5.1, p5.2))))))))))
theorem rr_X5_broken (d : Nat) {X : mX} {g : mG} {x1 : Int32} : mCall mD X (d + 9) 127 [mr 6 18, mi x1] g = (wG) (P_X5_broken g x1) := by
  refine Eq.trans (mCall_eq (d := d + 8) rfl) ?_
  show mEv X (mCall mD X (d + 8)) 1 t_X5_broken (mDrop t_X5_broken 0) [some (mr 6 18), some (mi x1)] [] g = _
  refine Eq.trans (e_X5_broken_0) ?_
  refine mw_cZ (rr_X5_isBreak (d + 7)) rfl (fun v1 hv1 => ?_)
  refine Eq.trans (e_X5_broken_4) ?_
  refine mw_ite (fun h6 => ?_) (fun h6 => ?_)
  · refine Eq.trans (e_X5_broken_7) ?_
    refine mw_gW (rr_X5_refuse (d + 7)) (fun p2 => ?_)
    refine Eq.trans (e_X5_broken_12) ?_
    all_goals rfl
  · refine Eq.trans (e_X5_broken_13) ?_
    refine mw_gV (rr_X0_takeFrom_at (d + 4) (by decide)) (fun g3 => ?_)
    refine Eq.trans (e_X5_broken_24) ?_
    refine mw_cI (rr_X5_bit (d + 7)) (fun v4 => ?_)
    refine Eq.trans (e_X5_broken_36) ?_
    refine Eq.trans (e_X5_broken_40) ?_
    refine mw_gW (rr_X5_ticksUntil d) (fun p5 => ?_)
    refine Eq.trans (e_X5_broken_46) ?_
    all_goals rfl
theorem e_X5_paper_0 {X : mX} {call : Nat → List mV → mG → mR} {g : mG} {x1 x2 : Int32} : mEv X call 1 t_X5_paper (mDrop t_X5_paper 0) [some (mr 6 18), some (mi x1), some (mi x2)] [] g = if x1 < 1 then mEv X call 1 t_X5_paper (mDrop t_X5_paper 21) [some (mr 6 18), some (mi x1), some (mi x2)] [] g else mEv X call 1 t_X5_paper (mDrop t_X5_paper 5) [some (mr 6 18), some (mi x1), some (mi x2)] [] g := (mEv_3 _ _ _ _).trans rfl
theorem e_X5_paper_21 {X : mX} {call : Nat → List mV → mG → mR} {g : mG} {x1 x2 : Int32} : mEv X call 1 t_X5_paper (mDrop t_X5_paper 21) [some (mr 6 18), some (mi x1), some (mi x2)] [] g = mAns (mEv X call 1 t_X5_paper) (mDrop t_X5_paper 26) [some (mr 6 18), some (mi x1), some (mi x2)] [] (call 132 [mr 6 18, mi 1] g) := (mEv_3 _ _ _ _).trans rfl
theorem e_X5_paper_26 {X : mX} {call : Nat → List mV → mG → mR} {g : mG} {x1 x2 s0 : Int32} : mEv X call 1 t_X5_paper (mDrop t_X5_paper 26) [some (mr 6 18), some (mi x1), some (mi x2)] [mi s0] g = some (some (mi s0), g) := (mEv_1 _ _ _ _).trans rfl
noncomputable def J_X5_paper_21 (g : mG) : (Int32 × mG) := (mBd (α := Int32 × mG) (P_X5_refuse g 1) (fun p1 => (p1.1, p1.2)))
theorem rj_X5_paper_21 (d : Nat) {X : mX} {g : mG} {x1 x2 : Int32} : mEv X (mCall mD X (d + 8)) 1 t_X5_paper (mDrop t_X5_paper 21) [some (mr 6 18), some (mi x1), some (mi x2)] [] g = (wG) (J_X5_paper_21 g) := by
  refine Eq.trans (e_X5_paper_21) ?_
  refine mw_gW (rr_X5_refuse (d + 7)) (fun p1 => ?_)
  refine Eq.trans (e_X5_paper_26) ?_
  all_goals rfl
theorem e_X5_paper_5 {X : mX} {call : Nat → List mV → mG → mR} {g : mG} {x1 x2 : Int32} : mEv X call 1 t_X5_paper (mDrop t_X5_paper 5) [some (mr 6 18), some (mi x1), some (mi x2)] [] g = if 300 < x1 then mEv X call 1 t_X5_paper (mDrop t_X5_paper 21) [some (mr 6 18), some (mi x1), some (mi x2)] [] g else mEv X call 1 t_X5_paper (mDrop t_X5_paper 12) [some (mr 6 18), some (mi x1), some (mi x2)] [] g := (mEv_3 _ _ _ _).trans rfl
theorem e_X5_paper_12 {X : mX} {call : Nat → List mV → mG → mR} {g : mG} {x1 x2 : Int32} : mEv X call 1 t_X5_paper (mDrop t_X5_paper 12) [some (mr 6 18), some (mi x1), some (mi x2)] [] g = if x2 < 0 then mEv X call 1 t_X5_paper (mDrop t_X5_paper 21) [some (mr 6 18), some (mi x1), some (mi x2)] [] g else mEv X call 1 t_X5_paper (mDrop t_X5_paper 16) [some (mr 6 18), some (mi x1), some (mi x2)] [] g := (mEv_2 _ _ _ _).trans rfl
theorem e_X5_paper_16 {X : mX} {call : Nat → List mV → mG → mR} {g : mG} {x1 x2 : Int32} : mEv X call 1 t_X5_paper (mDrop t_X5_paper 16) [some (mr 6 18), some (mi x1), some (mi x2)] [] g = if x2 ≤ 1 then mEv X call 1 t_X5_paper (mDrop t_X5_paper 27) [some (mr 6 18), some (mi x1), some (mi x2)] [] g else mEv X call 1 t_X5_paper (mDrop t_X5_paper 21) [some (mr 6 18), some (mi x1), some (mi x2)] [] g := (mEv_3 _ _ _ _).trans rfl
theorem e_X5_paper_27 {X : mX} {call : Nat → List mV → mG → mR} {g : mG} {x1 x2 : Int32} : mEv X call 1 t_X5_paper (mDrop t_X5_paper 27) [some (mr 6 18), some (mi x1), some (mi x2)] [] g = mAns (mEv X call 1 t_X5_paper) (mDrop t_X5_paper 38) [some (mr 6 18), some (mi x1), some (mi x2)] [] (call 0 [mr 1 0, mr 0 0] g) := (mEv_5 _ _ _ _).trans rfl
theorem e_X5_paper_38 {X : mX} {call : Nat → List mV → mG → mR} {g : mG} {x1 x2 : Int32} : mEv X call 1 t_X5_paper (mDrop t_X5_paper 38) [some (mr 6 18), some (mi x1), some (mi x2)] [] g = mAns (mEv X call 1 t_X5_paper) (mDrop t_X5_paper 46) [some (mr 6 18), some (mi x1), some (mi x2)] [] (call 21 [mr 1 0, mi x1] g) := (mEv_4 _ _ _ _).trans rfl
theorem e_X5_paper_46 {X : mX} {call : Nat → List mV → mG → mR} {g : mG} {x1 x2 : Int32} : mEv X call 1 t_X5_paper (mDrop t_X5_paper 46) [some (mr 6 18), some (mi x1), some (mi x2)] [] g = if x2 = 0 then mEv X call 1 t_X5_paper (mDrop t_X5_paper 50) [some (mr 6 18), some (mi x1), some (mi x2)] [] g else mEv X call 1 t_X5_paper (mDrop t_X5_paper 76) [some (mr 6 18), some (mi x1), some (mi x2)] [] g := (mEv_2 _ _ _ _).trans rfl
theorem e_X5_paper_50 {X : mX} {call : Nat → List mV → mG → mR} {g : mG} {x1 x2 : Int32} : mEv X call 1 t_X5_paper (mDrop t_X5_paper 50) [some (mr 6 18), some (mi x1), some (mi x2)] [] g = mAns (mEv X call 1 t_X5_paper) (mDrop t_X5_paper 61) [some (mr 6 18), some (mi x1), some (mi x2)] [mr 6 18] (call 146 [mr 1 15] g) := (mEv_5 _ _ _ _).trans rfl
theorem e_X5_paper_61 {X : mX} {call : Nat → List mV → mG → mR} {g : mG} {x1 x2 s1 : Int32} : mEv X call 1 t_X5_paper (mDrop t_X5_paper 61) [some (mr 6 18), some (mi x1), some (mi x2)] [mi s1, mr 6 18] g = mAns (mEv X call 1 t_X5_paper) (mDrop t_X5_paper 71) [some (mr 6 18), some (mi x1), some (mi x2)] [mi s1, mr 6 18] (call 146 [mr 0 15] g) := (mEv_4 _ _ _ _).trans rfl
theorem e_X5_paper_71 {X : mX} {call : Nat → List mV → mG → mR} {g : mG} {x1 x2 s1 s2 : Int32} : mEv X call 1 t_X5_paper (mDrop t_X5_paper 71) [some (mr 6 18), some (mi x1), some (mi x2)] [mi s2, mi s1, mr 6 18] g = mAns (mEv X call 1 t_X5_paper) (mDrop t_X5_paper 75) [some (mr 6 18), some (mi x1), some (mi x2)] [] (call 131 [mr 6 18, mi (s1 - s2)] g) := (mEv_2 _ _ _ _).trans rfl
theorem e_X5_paper_75 {X : mX} {call : Nat → List mV → mG → mR} {g : mG} {x1 x2 s0 : Int32} : mEv X call 1 t_X5_paper (mDrop t_X5_paper 75) [some (mr 6 18), some (mi x1), some (mi x2)] [mi s0] g = some (some (mi s0), g) := (mEv_1 _ _ _ _).trans rfl
theorem e_X5_paper_76 {X : mX} {call : Nat → List mV → mG → mR} {g : mG} {x1 x2 : Int32} : mEv X call 1 t_X5_paper (mDrop t_X5_paper 76) [some (mr 6 18), some (mi x1), some (mi x2)] [] g = mAns (mEv X call 1 t_X5_paper) (mDrop t_X5_paper 95) [some (mr 6 18), some (mi x1), some (mi x2)] [] (call 131 [mr 6 18, mi ((g 1 0 14) - (g 0 0 14))] g) := (mEv_9 _ _ _ _).trans rfl
theorem e_X5_paper_95 {X : mX} {call : Nat → List mV → mG → mR} {g : mG} {x1 x2 s0 : Int32} : mEv X call 1 t_X5_paper (mDrop t_X5_paper 95) [some (mr 6 18), some (mi x1), some (mi x2)] [mi s0] g = some (some (mi s0), g) := (mEv_1 _ _ _ _).trans rfl
noncomputable def P_X5_paper (g : mG) (x1 : Int32) (x2 : Int32) : (Int32 × mG) := (if x1 < 1 then (J_X5_paper_21 g) else (if 300 < x1 then (J_X5_paper_21 g) else (if x2 < 0 then (J_X5_paper_21 g) else (if x2 ≤ 1 then (mBd (α := mG) (mU g 1 (P_X0_takeFrom (g 1) (g 0))) (fun g1 => (mBd (α := mG) (mU g1 1 (P_X0_passTicks (g1 1) x1)) (fun g2 => (if x2 = 0 then (mBd (α := Int32) (mTt 8 (g2 1 15)) (fun v3 => (mBd (α := Int32) (mTt 8 (g2 0 15)) (fun v4 => (mBd (α := Int32 × mG) (P_X5_answer g2 (v3 - v4)) (fun p5 => (p5.1, p5.2))))))) else (mBd (α := Int32 × mG) (P_X5_answer g2 ((g2 1 0 14) - (g2 0 0 14))) (fun p6 => (p6.1, p6.2)))))))) else (J_X5_paper_21 g)))))
theorem rr_X5_paper (d : Nat) {X : mX} {g : mG} {x1 x2 : Int32} : mCall mD X (d + 9) 128 [mr 6 18, mi x1, mi x2] g = (wG) (P_X5_paper g x1 x2) := by
  refine Eq.trans (mCall_eq (d := d + 8) rfl) ?_
  show mEv X (mCall mD X (d + 8)) 1 t_X5_paper (mDrop t_X5_paper 0) [some (mr 6 18), some (mi x1), some (mi x2)] [] g = _
  refine Eq.trans (e_X5_paper_0) ?_
  refine mw_ite (fun h11 => ?_) (fun h11 => ?_)
  · exact rj_X5_paper_21 d
  · refine Eq.trans (e_X5_paper_5) ?_
    refine mw_ite (fun h10 => ?_) (fun h10 => ?_)
    · exact rj_X5_paper_21 d
    · refine Eq.trans (e_X5_paper_12) ?_
      refine mw_ite (fun h9 => ?_) (fun h9 => ?_)
      · exact rj_X5_paper_21 d
      · refine Eq.trans (e_X5_paper_16) ?_
        refine mw_ite (fun h8 => ?_) (fun h8 => ?_)
        · refine Eq.trans (e_X5_paper_27) ?_
          refine mw_gV (rr_X0_takeFrom_at (d + 4) (by decide)) (fun g1 => ?_)
          refine Eq.trans (e_X5_paper_38) ?_
          refine mw_gV (rr_X0_passTicks_at d) (fun g2 => ?_)
          refine Eq.trans (e_X5_paper_46) ?_
          refine mw_ite (fun h7 => ?_) (fun h7 => ?_)
          · refine Eq.trans (e_X5_paper_50) ?_
            refine mw_cI (rr_X5_total_15_at (d + 7)) (fun v3 => ?_)
            refine Eq.trans (e_X5_paper_61) ?_
            refine mw_cI (rr_X5_total_15_at (d + 7)) (fun v4 => ?_)
            refine Eq.trans (e_X5_paper_71) ?_
            refine mw_gW (rr_X5_answer (d + 7)) (fun p5 => ?_)
            refine Eq.trans (e_X5_paper_75) ?_
            all_goals rfl
          · refine Eq.trans (e_X5_paper_76) ?_
            refine mw_gW (rr_X5_answer (d + 7)) (fun p6 => ?_)
            refine Eq.trans (e_X5_paper_95) ?_
            all_goals rfl
        · exact rj_X5_paper_21 d
theorem e_X5_bestMax_0 {X : mX} {call : Nat → List mV → mG → mR} {g : mG} {x1 x2 : Int32} : mEv X call 1 t_X5_bestMax (mDrop t_X5_bestMax 0) [some (mr 6 18), some (mi x1), some (mi x2), none, none, none] [] g = if x2 < 1 then mEv X call 1 t_X5_bestMax (mDrop t_X5_bestMax 11) [some (mr 6 18), some (mi x1), some (mi x2), none, none, none] [] g else mEv X call 1 t_X5_bestMax (mDrop t_X5_bestMax 5) [some (mr 6 18), some (mi x1), some (mi x2), none, none, none] [] g := (mEv_3 _ _ _ _).trans rfl
theorem e_X5_bestMax_11 {X : mX} {call : Nat → List mV → mG → mR} {g : mG} {x1 x2 : Int32} : mEv X call 1 t_X5_bestMax (mDrop t_X5_bestMax 11) [some (mr 6 18), some (mi x1), some (mi x2), none, none, none] [] g = mAns (mEv X call 1 t_X5_bestMax) (mDrop t_X5_bestMax 16) [some (mr 6 18), some (mi x1), some (mi x2), none, none, none] [] (call 132 [mr 6 18, mi 1] g) := (mEv_3 _ _ _ _).trans rfl
theorem e_X5_bestMax_16 {X : mX} {call : Nat → List mV → mG → mR} {g : mG} {x1 x2 s0 : Int32} : mEv X call 1 t_X5_bestMax (mDrop t_X5_bestMax 16) [some (mr 6 18), some (mi x1), some (mi x2), none, none, none] [mi s0] g = some (some (mi s0), g) := (mEv_1 _ _ _ _).trans rfl
noncomputable def J_X5_bestMax_11 (g : mG) : (Int32 × mG) := (mBd (α := Int32 × mG) (P_X5_refuse g 1) (fun p1 => (p1.1, p1.2)))
theorem rj_X5_bestMax_11 (d : Nat) {X : mX} {g : mG} {x1 x2 : Int32} : mEv X (mCall mD X (d + 8)) 1 t_X5_bestMax (mDrop t_X5_bestMax 11) [some (mr 6 18), some (mi x1), some (mi x2), none, none, none] [] g = (wG) (J_X5_bestMax_11 g) := by
  refine Eq.trans (e_X5_bestMax_11) ?_
  refine mw_gW (rr_X5_refuse (d + 7)) (fun p1 => ?_)
  refine Eq.trans (e_X5_bestMax_16) ?_
  all_goals rfl
theorem e_X5_bestMax_5 {X : mX} {call : Nat → List mV → mG → mR} {g : mG} {x1 x2 : Int32} : mEv X call 1 t_X5_bestMax (mDrop t_X5_bestMax 5) [some (mr 6 18), some (mi x1), some (mi x2), none, none, none] [] g = if x2 ≤ 100 then mEv X call 1 t_X5_bestMax (mDrop t_X5_bestMax 17) [some (mr 6 18), some (mi x1), some (mi x2), none, none, none] [] g else mEv X call 1 t_X5_bestMax (mDrop t_X5_bestMax 11) [some (mr 6 18), some (mi x1), some (mi x2), none, none, none] [] g := (mEv_3 _ _ _ _).trans rfl
theorem e_X5_bestMax_17 {X : mX} {call : Nat → List mV → mG → mR} {g : mG} {x1 x2 : Int32} : mEv X call 1 t_X5_bestMax (mDrop t_X5_bestMax 17) [some (mr 6 18), some (mi x1), some (mi x2), none, none, none] [] g = mAns (mEv X call 1 t_X5_bestMax) (mDrop t_X5_bestMax 28) [some (mr 6 18), some (mi x1), some (mi x2), none, none, none] [] (call 54 [mr 0 1, mi x1] g) := (mEv_5 _ _ _ _).trans rfl
theorem e_X5_bestMax_28 {X : mX} {call : Nat → List mV → mG → mR} {g : mG} {x1 x2 s0 : Int32} : mEv X call 1 t_X5_bestMax (mDrop t_X5_bestMax 28) [some (mr 6 18), some (mi x1), some (mi x2), none, none, none] [mi s0] g = if s0 = 0 then mEv X call 1 t_X5_bestMax (mDrop t_X5_bestMax 31) [some (mr 6 18), some (mi x1), some (mi x2), none, none, none] [] g else mEv X call 1 t_X5_bestMax (mDrop t_X5_bestMax 37) [some (mr 6 18), some (mi x1), some (mi x2), none, none, none] [] g := (mEv_1 _ _ _ _).trans rfl
theorem e_X5_bestMax_31 {X : mX} {call : Nat → List mV → mG → mR} {g : mG} {x1 x2 : Int32} : mEv X call 1 t_X5_bestMax (mDrop t_X5_bestMax 31) [some (mr 6 18), some (mi x1), some (mi x2), none, none, none] [] g = mAns (mEv X call 1 t_X5_bestMax) (mDrop t_X5_bestMax 36) [some (mr 6 18), some (mi x1), some (mi x2), none, none, none] [] (call 132 [mr 6 18, mi 2] g) := (mEv_3 _ _ _ _).trans rfl
theorem e_X5_bestMax_36 {X : mX} {call : Nat → List mV → mG → mR} {g : mG} {x1 x2 s0 : Int32} : mEv X call 1 t_X5_bestMax (mDrop t_X5_bestMax 36) [some (mr 6 18), some (mi x1), some (mi x2), none, none, none] [mi s0] g = some (some (mi s0), g) := (mEv_1 _ _ _ _).trans rfl
theorem e_X5_bestMax_37 {X : mX} {call : Nat → List mV → mG → mR} {g : mG} {x1 x2 : Int32} : mEv X call 1 t_X5_bestMax (mDrop t_X5_bestMax 37) [some (mr 6 18), some (mi x1), some (mi x2), none, none, none] [] g = mAns (mEv X call 1 t_X5_bestMax) (mDrop t_X5_bestMax 49) [some (mr 6 18), some (mi x1), some (mi x2), some (mi (-1)), some (mi 0), none] [] (call 142 [mr 9 27, mi 2] g) := (mEv_7 _ _ _ _).trans rfl
theorem e_X5_bestMax_49 {X : mX} {call : Nat → List mV → mG → mR} {g : mG} {x1 x2 x3 x4 s0 : Int32} : mEv X call 1 t_X5_bestMax (mDrop t_X5_bestMax 49) [some (mr 6 18), some (mi x1), some (mi x2), some (mi x3), some (mi x4), none] [mi s0] g = mEv X call 1 t_X5_bestMax (mDrop t_X5_bestMax 51) [some (mr 6 18), some (mi x1), some (mi x2), some (mi x3), some (mi x4), some (mi s0)] [] g := (mEv_1 _ _ _ _).trans rfl
theorem e_X5_bestMax_51 {X : mX} {call : Nat → List mV → mG → mR} {g : mG} {x1 x2 x3 x4 x5 : Int32} : mEv X call 1 t_X5_bestMax (mDrop t_X5_bestMax 51) [some (mr 6 18), some (mi x1), some (mi x2), some (mi x3), some (mi x4), some (mi x5)] [] g = mAns (mEv X call 1 t_X5_bestMax) (mDrop t_X5_bestMax 60) [some (mr 6 18), some (mi x1), some (mi x2), some (mi x3), some (mi x4), some (mi x5)] [mi x5] (call 142 [mr 9 28, mi 2] g) := (mEv_4 _ _ _ _).trans rfl
theorem e_X5_bestMax_60 {X : mX} {call : Nat → List mV → mG → mR} {g : mG} {x1 x2 x3 x4 x5 s0 s1 : Int32} : mEv X call 1 t_X5_bestMax (mDrop t_X5_bestMax 60) [some (mr 6 18), some (mi x1), some (mi x2), some (mi x3), some (mi x4), some (mi x5)] [mi s1, mi s0] g = if s1 < s0 then mEv X call 1 t_X5_bestMax (mDrop t_X5_bestMax 131) [some (mr 6 18), some (mi x1), some (mi x2), some (mi x3), some (mi x4), some (mi x5)] [] g else mEv X call 1 t_X5_bestMax (mDrop t_X5_bestMax 63) [some (mr 6 18), some (mi x1), some (mi x2), some (mi x3), some (mi x4), some (mi x5)] [] g := (mEv_1 _ _ _ _).trans rfl
theorem e_X5_bestMax_131 {X : mX} {call : Nat → List mV → mG → mR} {g : mG} {x1 x2 x3 x4 x5 : Int32} : mEv X call 1 t_X5_bestMax (mDrop t_X5_bestMax 131) [some (mr 6 18), some (mi x1), some (mi x2), some (mi x3), some (mi x4), some (mi x5)] [] g = mAns (mEv X call 1 t_X5_bestMax) (mDrop t_X5_bestMax 136) [some (mr 6 18), some (mi x1), some (mi x2), some (mi x3), some (mi x4), some (mi x5)] [] (call 131 [mr 6 18, mi x3] g) := (mEv_3 _ _ _ _).trans rfl
theorem e_X5_bestMax_136 {X : mX} {call : Nat → List mV → mG → mR} {g : mG} {x1 x2 x3 x4 x5 s0 : Int32} : mEv X call 1 t_X5_bestMax (mDrop t_X5_bestMax 136) [some (mr 6 18), some (mi x1), some (mi x2), some (mi x3), some (mi x4), some (mi x5)] [mi s0] g = some (some (mi s0), g) := (mEv_1 _ _ _ _).trans rfl
theorem e_X5_bestMax_63 {X : mX} {call : Nat → List mV → mG → mR} {g : mG} {x1 x2 x3 x4 x5 : Int32} : mEv X call 1 t_X5_bestMax (mDrop t_X5_bestMax 63) [some (mr 6 18), some (mi x1), some (mi x2), some (mi x3), some (mi x4), some (mi x5)] [] g = mAns (mEv X call 1 t_X5_bestMax) (mDrop t_X5_bestMax 74) [some (mr 6 18), some (mi x1), some (mi x2), some (mi x3), some (mi x4), some (mi x5)] [] (call 0 [mr 1 0, mr 0 0] g) := (mEv_5 _ _ _ _).trans rfl
theorem e_X5_bestMax_74 {X : mX} {call : Nat → List mV → mG → mR} {g : mG} {x1 x2 x3 x4 x5 : Int32} : mEv X call 1 t_X5_bestMax (mDrop t_X5_bestMax 74) [some (mr 6 18), some (mi x1), some (mi x2), some (mi x3), some (mi x4), some (mi x5)] [] g = mAns (mEv X call 1 t_X5_bestMax) (mDrop t_X5_bestMax 88) [some (mr 6 18), some (mi x1), some (mi x2), some (mi x3), some (mi x4), some (mi x5)] [] (call 58 [mr 1 1, mi x1, mi 2, mi x5] g) := (mEv_7 _ _ _ _).trans rfl
theorem e_X5_bestMax_88 {X : mX} {call : Nat → List mV → mG → mR} {g : mG} {x1 x2 x3 x4 x5 : Int32} : mEv X call 1 t_X5_bestMax (mDrop t_X5_bestMax 88) [some (mr 6 18), some (mi x1), some (mi x2), some (mi x3), some (mi x4), some (mi x5)] [] g = mAns (mEv X call 1 t_X5_bestMax) (mDrop t_X5_bestMax 96) [some (mr 6 18), some (mi x1), some (mi x2), some (mi x3), some (mi x4), some (mi x5)] [] (call 21 [mr 1 0, mi x2] g) := (mEv_4 _ _ _ _).trans rfl
theorem e_X5_bestMax_96 {X : mX} {call : Nat → List mV → mG → mR} {g : mG} {x1 x2 x3 x4 x5 : Int32} : mEv X call 1 t_X5_bestMax (mDrop t_X5_bestMax 96) [some (mr 6 18), some (mi x1), some (mi x2), some (mi x3), some (mi x4), some (mi x5)] [] g = if x3 = (-1) then mEv X call 1 t_X5_bestMax (mDrop t_X5_bestMax 113) [some (mr 6 18), some (mi x1), some (mi x2), some (mi x3), some (mi x4), some (mi x5)] [] g else mEv X call 1 t_X5_bestMax (mDrop t_X5_bestMax 101) [some (mr 6 18), some (mi x1), some (mi x2), some (mi x3), some (mi x4), some (mi x5)] [] g := (mEv_3 _ _ _ _).trans rfl
theorem e_X5_bestMax_113 {X : mX} {call : Nat → List mV → mG → mR} {g : mG} {x1 x2 x3 x4 x5 : Int32} : mEv X call 1 t_X5_bestMax (mDrop t_X5_bestMax 113) [some (mr 6 18), some (mi x1), some (mi x2), some (mi x3), some (mi x4), some (mi x5)] [] g = mEv X call 1 t_X5_bestMax (mDrop t_X5_bestMax 125) [some (mr 6 18), some (mi x1), some (mi x2), some (mi x5), some (mi (g 1 0 14)), some (mi x5)] [] g := (mEv_6 _ _ _ _).trans rfl
theorem e_X5_bestMax_125 {X : mX} {call : Nat → List mV → mG → mR} {g : mG} {x1 x2 x3 x4 x5 : Int32} : mEv X call 1 t_X5_bestMax (mDrop t_X5_bestMax 125) [some (mr 6 18), some (mi x1), some (mi x2), some (mi x3), some (mi x4), some (mi x5)] [] g = mEv X call 1 t_X5_bestMax (mDrop t_X5_bestMax 51) [some (mr 6 18), some (mi x1), some (mi x2), some (mi x3), some (mi x4), some (mi (x5 + 1))] [] g := (mEv_2 _ _ _ _).trans rfl
noncomputable def J_X5_bestMax_125 (g : mG) (x1 : Int32) (x2 : Int32) (x3 : Int32) (x4 : Int32) (x5 : Int32) : ((Int32 × Int32 × Int32 × mG) ⊕ (Int32 × mG)) := (.inl (x3, x4, (x5 + 1), g))
theorem rj_X5_bestMax_125 (d : Nat) {X : mX} {g : mG} {x1 x2 x3 x4 x5 : Int32} : mEv X (mCall mD X (d + 8)) 1 t_X5_bestMax (mDrop t_X5_bestMax 125) [some (mr 6 18), some (mi x1), some (mi x2), some (mi x3), some (mi x4), some (mi x5)] [] g = (wB (fun s : (Int32 × Int32 × Int32 × mG) => match s with | (x3, x4, x5, g) => mEv X (mCall mD X (d + 8)) 1 t_X5_bestMax (mDrop t_X5_bestMax 51) [some (mr 6 18), some (mi x1), some (mi x2), some (mi x3), some (mi x4), some (mi x5)] [] g) (wG)) (J_X5_bestMax_125 g x1 x2 x3 x4 x5) := by
  refine Eq.trans (e_X5_bestMax_125) ?_
  exact mw_inl rfl
noncomputable def J_X5_bestMax_113 (g : mG) (x1 : Int32) (x2 : Int32) (x5 : Int32) : ((Int32 × Int32 × Int32 × mG) ⊕ (Int32 × mG)) := (J_X5_bestMax_125 g x1 x2 x5 (g 1 0 14) x5)
theorem rj_X5_bestMax_113 (d : Nat) {X : mX} {g : mG} {x1 x2 x3 x4 x5 : Int32} : mEv X (mCall mD X (d + 8)) 1 t_X5_bestMax (mDrop t_X5_bestMax 113) [some (mr 6 18), some (mi x1), some (mi x2), some (mi x3), some (mi x4), some (mi x5)] [] g = (wB (fun s : (Int32 × Int32 × Int32 × mG) => match s with | (x3, x4, x5, g) => mEv X (mCall mD X (d + 8)) 1 t_X5_bestMax (mDrop t_X5_bestMax 51) [some (mr 6 18), some (mi x1), some (mi x2), some (mi x3), some (mi x4), some (mi x5)] [] g) (wG)) (J_X5_bestMax_113 g x1 x2 x5) := by
  refine Eq.trans (e_X5_bestMax_113) ?_
  exact rj_X5_bestMax_125 d
theorem e_X5_bestMax_101 {X : mX} {call : Nat → List mV → mG → mR} {g : mG} {x1 x2 x3 x4 x5 : Int32} : mEv X call 1 t_X5_bestMax (mDrop t_X5_bestMax 101) [some (mr 6 18), some (mi x1), some (mi x2), some (mi x3), some (mi x4), some (mi x5)] [] g = if x4 ≤ (g 1 0 14) then mEv X call 1 t_X5_bestMax (mDrop t_X5_bestMax 125) [some (mr 6 18), some (mi x1), some (mi x2), some (mi x3), some (mi x4), some (mi x5)] [] g else mEv X call 1 t_X5_bestMax (mDrop t_X5_bestMax 113) [some (mr 6 18), some (mi x1), some (mi x2), some (mi x3), some (mi x4), some (mi x5)] [] g := (mEv_5 _ _ _ _).trans rfl
noncomputable def B_X5_bestMax_51 (x1 : Int32) (x2 : Int32) : (Int32 × Int32 × Int32 × mG) → (Int32 × Int32 × Int32 × mG) ⊕ (Int32 × mG) := fun s => match s with | (x3, x4, x5, g) => (mBd (α := Int32) (cl 10 (mRO (fun _ => 0, 0) 9 28) 2) (fun v1 => (if v1 < x5 then (.inr (mBd (α := Int32 × mG) (P_X5_answer g x3) (fun p2 => (p2.1, p2.2)))) else (mBd (α := mG) (mU g 1 (P_X0_takeFrom (g 1) (g 0))) (fun g3 => (mBd (α := mG) (mU g3 1 (P_X2_putMark (g3 1) x1 2 x5)) (fun g4 => (mBd (α := mG) (mU g4 1 (P_X0_passTicks (g4 1) x2)) (fun g5 => (if x3 = (-1) then (J_X5_bestMax_113 g5 x1 x2 x5) else (if x4 ≤ (g5 1 0 14) then (J_X5_bestMax_125 g5 x1 x2 x3 x4 x5) else (J_X5_bestMax_113 g5 x1 x2 x5))))))))))))
set_option maxRecDepth 100000 in
theorem tm_X5_bestMax_51 {x1 : Int32} {x2 : Int32} : mTm (B_X5_bestMax_51 x1 x2) := by
  refine ⟨fun s => match s with | (x3, x4, x5, g) => mMx x5, fun s s2 h => ?_⟩
  obtain ⟨x3, x4, x5, g⟩ := s
  simp only [B_X5_bestMax_51, J_X5_bestMax_113, J_X5_bestMax_125, mBd] at h
  (repeat' split at h) <;> first | (have h2 := Sum.inl.inj h; subst h2; dsimp only; exact mtm_ltK (by assumption) (by decide)) | (cases h; done)
theorem rl_X5_bestMax_51 (d : Nat) {X : mX} {g : mG} {x1 x2 x3 x4 x5 : Int32} : mEv X (mCall mD X (d + 8)) 1 t_X5_bestMax (mDrop t_X5_bestMax 51) [some (mr 6 18), some (mi x1), some (mi x2), some (mi x3), some (mi x4), some (mi x5)] [] g = (wG) (mWh (0, fun _ _ _ => 0) (B_X5_bestMax_51 x1 x2) (x3, x4, x5, g)) := by
  refine mWh_ev (B := (B_X5_bestMax_51 x1 x2)) (ev := fun s : (Int32 × Int32 × Int32 × mG) => match s with | (x3, x4, x5, g) => mEv X (mCall mD X (d + 8)) 1 t_X5_bestMax (mDrop t_X5_bestMax 51) [some (mr 6 18), some (mi x1), some (mi x2), some (mi x3), some (mi x4), some (mi x5)] [] g) (w := (wG)) (tm_X5_bestMax_51) ?_ (x3, x4, x5, g)
  rintro ⟨x3, x4, x5, g⟩
  show mEv X (mCall mD X (d + 8)) 1 t_X5_bestMax (mDrop t_X5_bestMax 51) [some (mr 6 18), some (mi x1), some (mi x2), some (mi x3), some (mi x4), some (mi x5)] [] g = wB (fun s : (Int32 × Int32 × Int32 × mG) => match s with | (x3, x4, x5, g) => mEv X (mCall mD X (d + 8)) 1 t_X5_bestMax (mDrop t_X5_bestMax 51) [some (mr 6 18), some (mi x1), some (mi x2), some (mi x3), some (mi x4), some (mi x5)] [] g) (wG) (mBd (α := Int32) (cl 10 (mRO (fun _ => 0, 0) 9 28) 2) (fun v1 => (if v1 < x5 then (.inr (mBd (α := Int32 × mG) (P_X5_answer g x3) (fun p2 => (p2.1, p2.2)))) else (mBd (α := mG) (mU g 1 (P_X0_takeFrom (g 1) (g 0))) (fun g3 => (mBd (α := mG) (mU g3 1 (P_X2_putMark (g3 1) x1 2 x5)) (fun g4 => (mBd (α := mG) (mU g4 1 (P_X0_passTicks (g4 1) x2)) (fun g5 => (if x3 = (-1) then (J_X5_bestMax_113 g5 x1 x2 x5) else (if x4 ≤ (g5 1 0 14) then (J_X5_bestMax_125 g5 x1 x2 x3 x4 x5) else (J_X5_bestMax_113 g5 x1 x2 x5))))))))))))
  refine Eq.trans (e_X5_bestMax_51) ?_
  refine mw_cI (rr_X5_cell_28_at (d + 7)) (fun v1 => ?_)
  refine Eq.trans (e_X5_bestMax_60) ?_
  refine mw_ite (fun h8 => ?_) (fun h8 => ?_)
  · refine mw_inr ?_
    refine Eq.trans (e_X5_bestMax_131) ?_
    refine mw_gW (rr_X5_answer (d + 7)) (fun p2 => ?_)
    refine Eq.trans (e_X5_bestMax_136) ?_
    all_goals rfl
  · refine Eq.trans (e_X5_bestMax_63) ?_
    refine mw_gV (rr_X0_takeFrom_at (d + 4) (by decide)) (fun g3 => ?_)
    refine Eq.trans (e_X5_bestMax_74) ?_
    refine mw_gV (rr_X2_putMark_at (d + 5)) (fun g4 => ?_)
    refine Eq.trans (e_X5_bestMax_88) ?_
    refine mw_gV (rr_X0_passTicks_at d) (fun g5 => ?_)
    refine Eq.trans (e_X5_bestMax_96) ?_
    refine mw_ite (fun h7 => ?_) (fun h7 => ?_)
    · exact rj_X5_bestMax_113 d
    · refine Eq.trans (e_X5_bestMax_101) ?_
      refine mw_ite (fun h6 => ?_) (fun h6 => ?_)
      · exact rj_X5_bestMax_125 d
      · exact rj_X5_bestMax_113 d
noncomputable def P_X5_bestMax (g : mG) (x1 : Int32) (x2 : Int32) : (Int32 × mG) := (if x2 < 1 then (J_X5_bestMax_11 g) else (if x2 ≤ 100 then (mBd (α := Int32) (P_X2_hasPhase (g 0) x1) (fun v1 => (if v1 = 0 then (mBd (α := Int32 × mG) (P_X5_refuse g 2) (fun p2 => (p2.1, p2.2))) else (mBd (α := Int32) (cl 10 (mRO (fun _ => 0, 0) 9 27) 2) (fun v3 => (mWh (0, fun _ _ _ => 0) (B_X5_bestMax_51 x1 x2) ((-1), 0, v3, g))))))) else (J_X5_bestMax_11 g)))
theorem rr_X5_bestMax (d : Nat) {X : mX} {g : mG} {x1 x2 : Int32} : mCall mD X (d + 9) 129 [mr 6 18, mi x1, mi x2] g = (wG) (P_X5_bestMax g x1 x2) := by
  refine Eq.trans (mCall_eq (d := d + 8) rfl) ?_
  show mEv X (mCall mD X (d + 8)) 1 t_X5_bestMax (mDrop t_X5_bestMax 0) [some (mr 6 18), some (mi x1), some (mi x2), none, none, none] [] g = _
  refine Eq.trans (e_X5_bestMax_0) ?_
  refine mw_ite (fun h6 => ?_) (fun h6 => ?_)
  · exact rj_X5_bestMax_11 d
  · refine Eq.trans (e_X5_bestMax_5) ?_
    refine mw_ite (fun h5 => ?_) (fun h5 => ?_)
    · refine Eq.trans (e_X5_bestMax_17) ?_
      refine mw_cZ (rr_X2_hasPhase_at (d + 7)) rfl (fun v1 hv1 => ?_)
      refine Eq.trans (e_X5_bestMax_28) ?_
      refine mw_ite (fun h4 => ?_) (fun h4 => ?_)
      · refine Eq.trans (e_X5_bestMax_31) ?_
        refine mw_gW (rr_X5_refuse (d + 7)) (fun p2 => ?_)
        refine Eq.trans (e_X5_bestMax_36) ?_
        all_goals rfl
      · refine Eq.trans (e_X5_bestMax_37) ?_
        refine mw_cI (rr_X5_cell_27_at (d + 7)) (fun v3 => ?_)
        refine Eq.trans (e_X5_bestMax_49) ?_
        exact rl_X5_bestMax_51 d
    · exact rj_X5_bestMax_11 d
theorem e_X5_cheapest_0 {X : mX} {call : Nat → List mV → mG → mR} {g : mG} {x1 : Int32} : mEv X call 1 t_X5_cheapest (mDrop t_X5_cheapest 0) [some (mr 6 18), some (mi x1), none, none, none] [] g = if x1 < 1 then mEv X call 1 t_X5_cheapest (mDrop t_X5_cheapest 11) [some (mr 6 18), some (mi x1), none, none, none] [] g else mEv X call 1 t_X5_cheapest (mDrop t_X5_cheapest 5) [some (mr 6 18), some (mi x1), none, none, none] [] g := (mEv_3 _ _ _ _).trans rfl
theorem e_X5_cheapest_11 {X : mX} {call : Nat → List mV → mG → mR} {g : mG} {x1 : Int32} : mEv X call 1 t_X5_cheapest (mDrop t_X5_cheapest 11) [some (mr 6 18), some (mi x1), none, none, none] [] g = mAns (mEv X call 1 t_X5_cheapest) (mDrop t_X5_cheapest 16) [some (mr 6 18), some (mi x1), none, none, none] [] (call 132 [mr 6 18, mi 1] g) := (mEv_3 _ _ _ _).trans rfl
theorem e_X5_cheapest_16 {X : mX} {call : Nat → List mV → mG → mR} {g : mG} {x1 s0 : Int32} : mEv X call 1 t_X5_cheapest (mDrop t_X5_cheapest 16) [some (mr 6 18), some (mi x1), none, none, none] [mi s0] g = some (some (mi s0), g) := (mEv_1 _ _ _ _).trans rfl
noncomputable def J_X5_cheapest_11 (g : mG) : (Int32 × mG) := (mBd (α := Int32 × mG) (P_X5_refuse g 1) (fun p1 => (p1.1, p1.2)))
theorem rj_X5_cheapest_11 (d : Nat) {X : mX} {g : mG} {x1 : Int32} : mEv X (mCall mD X (d + 8)) 1 t_X5_cheapest (mDrop t_X5_cheapest 11) [some (mr 6 18), some (mi x1), none, none, none] [] g = (wG) (J_X5_cheapest_11 g) := by
  refine Eq.trans (e_X5_cheapest_11) ?_
  refine mw_gW (rr_X5_refuse (d + 7)) (fun p1 => ?_)
  refine Eq.trans (e_X5_cheapest_16) ?_
  all_goals rfl
theorem e_X5_cheapest_5 {X : mX} {call : Nat → List mV → mG → mR} {g : mG} {x1 : Int32} : mEv X call 1 t_X5_cheapest (mDrop t_X5_cheapest 5) [some (mr 6 18), some (mi x1), none, none, none] [] g = if x1 ≤ 100 then mEv X call 1 t_X5_cheapest (mDrop t_X5_cheapest 17) [some (mr 6 18), some (mi x1), none, none, none] [] g else mEv X call 1 t_X5_cheapest (mDrop t_X5_cheapest 11) [some (mr 6 18), some (mi x1), none, none, none] [] g := (mEv_3 _ _ _ _).trans rfl
theorem e_X5_cheapest_17 {X : mX} {call : Nat → List mV → mG → mR} {g : mG} {x1 : Int32} : mEv X call 1 t_X5_cheapest (mDrop t_X5_cheapest 17) [some (mr 6 18), some (mi x1), none, none, none] [] g = if (g 0 1 0) = 0 then mEv X call 1 t_X5_cheapest (mDrop t_X5_cheapest 30) [some (mr 6 18), some (mi x1), none, none, none] [] g else mEv X call 1 t_X5_cheapest (mDrop t_X5_cheapest 36) [some (mr 6 18), some (mi x1), none, none, none] [] g := (mEv_5 _ _ _ _).trans rfl
theorem e_X5_cheapest_30 {X : mX} {call : Nat → List mV → mG → mR} {g : mG} {x1 : Int32} : mEv X call 1 t_X5_cheapest (mDrop t_X5_cheapest 30) [some (mr 6 18), some (mi x1), none, none, none] [] g = mAns (mEv X call 1 t_X5_cheapest) (mDrop t_X5_cheapest 35) [some (mr 6 18), some (mi x1), none, none, none] [] (call 132 [mr 6 18, mi 5] g) := (mEv_3 _ _ _ _).trans rfl
theorem e_X5_cheapest_35 {X : mX} {call : Nat → List mV → mG → mR} {g : mG} {x1 s0 : Int32} : mEv X call 1 t_X5_cheapest (mDrop t_X5_cheapest 35) [some (mr 6 18), some (mi x1), none, none, none] [mi s0] g = some (some (mi s0), g) := (mEv_1 _ _ _ _).trans rfl
theorem e_X5_cheapest_36 {X : mX} {call : Nat → List mV → mG → mR} {g : mG} {x1 : Int32} : mEv X call 1 t_X5_cheapest (mDrop t_X5_cheapest 36) [some (mr 6 18), some (mi x1), none, none, none] [] g = mEv X call 1 t_X5_cheapest (mDrop t_X5_cheapest 43) [some (mr 6 18), some (mi x1), some (mi (-1)), some (mi 0), some (mi 0)] [] g := (mEv_6 _ _ _ _).trans rfl
theorem e_X5_cheapest_43 {X : mX} {call : Nat → List mV → mG → mR} {g : mG} {x1 x2 x3 x4 : Int32} : mEv X call 1 t_X5_cheapest (mDrop t_X5_cheapest 43) [some (mr 6 18), some (mi x1), some (mi x2), some (mi x3), some (mi x4)] [] g = if (g 0 1 0) ≤ x4 then mEv X call 1 t_X5_cheapest (mDrop t_X5_cheapest 134) [some (mr 6 18), some (mi x1), some (mi x2), some (mi x3), some (mi x4)] [] g else mEv X call 1 t_X5_cheapest (mDrop t_X5_cheapest 58) [some (mr 6 18), some (mi x1), some (mi x2), some (mi x3), some (mi x4)] [] g := (mEv_6 _ _ _ _).trans rfl
theorem e_X5_cheapest_134 {X : mX} {call : Nat → List mV → mG → mR} {g : mG} {x1 x2 x3 x4 : Int32} : mEv X call 1 t_X5_cheapest (mDrop t_X5_cheapest 134) [some (mr 6 18), some (mi x1), some (mi x2), some (mi x3), some (mi x4)] [] g = mAns (mEv X call 1 t_X5_cheapest) (mDrop t_X5_cheapest 139) [some (mr 6 18), some (mi x1), some (mi x2), some (mi x3), some (mi x4)] [] (call 131 [mr 6 18, mi x2] g) := (mEv_3 _ _ _ _).trans rfl
theorem e_X5_cheapest_139 {X : mX} {call : Nat → List mV → mG → mR} {g : mG} {x1 x2 x3 x4 s0 : Int32} : mEv X call 1 t_X5_cheapest (mDrop t_X5_cheapest 139) [some (mr 6 18), some (mi x1), some (mi x2), some (mi x3), some (mi x4)] [mi s0] g = some (some (mi s0), g) := (mEv_1 _ _ _ _).trans rfl
theorem e_X5_cheapest_58 {X : mX} {call : Nat → List mV → mG → mR} {g : mG} {x1 x2 x3 x4 : Int32} : mEv X call 1 t_X5_cheapest (mDrop t_X5_cheapest 58) [some (mr 6 18), some (mi x1), some (mi x2), some (mi x3), some (mi x4)] [] g = mAns (mEv X call 1 t_X5_cheapest) (mDrop t_X5_cheapest 69) [some (mr 6 18), some (mi x1), some (mi x2), some (mi x3), some (mi x4)] [] (call 0 [mr 1 0, mr 0 0] g) := (mEv_5 _ _ _ _).trans rfl
theorem e_X5_cheapest_69 {X : mX} {call : Nat → List mV → mG → mR} {g : mG} {x1 x2 x3 x4 : Int32} : mEv X call 1 t_X5_cheapest (mDrop t_X5_cheapest 69) [some (mr 6 18), some (mi x1), some (mi x2), some (mi x3), some (mi x4)] [] g = mAns (mEv X call 1 t_X5_cheapest) (mDrop t_X5_cheapest 87) [some (mr 6 18), some (mi x1), some (mi x2), some (mi x3), some (mi x4)] [mi x4, mr 1 0] (call 142 [mr 1 14, mi x4] g) := (mEv_8 _ _ _ _).trans rfl
theorem e_X5_cheapest_87 {X : mX} {call : Nat → List mV → mG → mR} {g : mG} {x1 x2 x3 x4 s1 s2 : Int32} : mEv X call 1 t_X5_cheapest (mDrop t_X5_cheapest 87) [some (mr 6 18), some (mi x1), some (mi x2), some (mi x3), some (mi x4)] [mi s2, mi s1, mr 1 0] g = mAns (mEv X call 1 t_X5_cheapest) (mDrop t_X5_cheapest 93) [some (mr 6 18), some (mi x1), some (mi x2), some (mi x3), some (mi x4)] [] (call 16 [mr 1 0, mi s1, mi (s2 + 10)] g) := (mEv_3 _ _ _ _).trans rfl
theorem e_X5_cheapest_93 {X : mX} {call : Nat → List mV → mG → mR} {g : mG} {x1 x2 x3 x4 : Int32} : mEv X call 1 t_X5_cheapest (mDrop t_X5_cheapest 93) [some (mr 6 18), some (mi x1), some (mi x2), some (mi x3), some (mi x4)] [] g = mAns (mEv X call 1 t_X5_cheapest) (mDrop t_X5_cheapest 101) [some (mr 6 18), some (mi x1), some (mi x2), some (mi x3), some (mi x4)] [] (call 21 [mr 1 0, mi x1] g) := (mEv_4 _ _ _ _).trans rfl
theorem e_X5_cheapest_101 {X : mX} {call : Nat → List mV → mG → mR} {g : mG} {x1 x2 x3 x4 : Int32} : mEv X call 1 t_X5_cheapest (mDrop t_X5_cheapest 101) [some (mr 6 18), some (mi x1), some (mi x2), some (mi x3), some (mi x4)] [] g = if x2 = (-1) then mEv X call 1 t_X5_cheapest (mDrop t_X5_cheapest 117) [some (mr 6 18), some (mi x1), some (mi x2), some (mi x3), some (mi x4)] [] g else mEv X call 1 t_X5_cheapest (mDrop t_X5_cheapest 106) [some (mr 6 18), some (mi x1), some (mi x2), some (mi x3), some (mi x4)] [] g := (mEv_3 _ _ _ _).trans rfl
theorem e_X5_cheapest_117 {X : mX} {call : Nat → List mV → mG → mR} {g : mG} {x1 x2 x3 x4 : Int32} : mEv X call 1 t_X5_cheapest (mDrop t_X5_cheapest 117) [some (mr 6 18), some (mi x1), some (mi x2), some (mi x3), some (mi x4)] [] g = mEv X call 1 t_X5_cheapest (mDrop t_X5_cheapest 128) [some (mr 6 18), some (mi x1), some (mi x4), some (mi (g 1 0 14)), some (mi x4)] [] g := (mEv_6 _ _ _ _).trans rfl
theorem e_X5_cheapest_128 {X : mX} {call : Nat → List mV → mG → mR} {g : mG} {x1 x2 x3 x4 : Int32} : mEv X call 1 t_X5_cheapest (mDrop t_X5_cheapest 128) [some (mr 6 18), some (mi x1), some (mi x2), some (mi x3), some (mi x4)] [] g = mEv X call 1 t_X5_cheapest (mDrop t_X5_cheapest 43) [some (mr 6 18), some (mi x1), some (mi x2), some (mi x3), some (mi (x4 + 1))] [] g := (mEv_2 _ _ _ _).trans rfl
noncomputable def J_X5_cheapest_128 (g : mG) (x1 : Int32) (x2 : Int32) (x3 : Int32) (x4 : Int32) : ((Int32 × Int32 × Int32 × mG) ⊕ (Int32 × mG)) := (.inl (x2, x3, (x4 + 1), g))
theorem rj_X5_cheapest_128 (d : Nat) {X : mX} {g : mG} {x1 x2 x3 x4 : Int32} : mEv X (mCall mD X (d + 8)) 1 t_X5_cheapest (mDrop t_X5_cheapest 128) [some (mr 6 18), some (mi x1), some (mi x2), some (mi x3), some (mi x4)] [] g = (wB (fun s : (Int32 × Int32 × Int32 × mG) => match s with | (x2, x3, x4, g) => mEv X (mCall mD X (d + 8)) 1 t_X5_cheapest (mDrop t_X5_cheapest 43) [some (mr 6 18), some (mi x1), some (mi x2), some (mi x3), some (mi x4)] [] g) (wG)) (J_X5_cheapest_128 g x1 x2 x3 x4) := by
  refine Eq.trans (e_X5_cheapest_128) ?_
  exact mw_inl rfl
noncomputable def J_X5_cheapest_117 (g : mG) (x1 : Int32) (x4 : Int32) : ((Int32 × Int32 × Int32 × mG) ⊕ (Int32 × mG)) := (J_X5_cheapest_128 g x1 x4 (g 1 0 14) x4)
theorem rj_X5_cheapest_117 (d : Nat) {X : mX} {g : mG} {x1 x2 x3 x4 : Int32} : mEv X (mCall mD X (d + 8)) 1 t_X5_cheapest (mDrop t_X5_cheapest 117) [some (mr 6 18), some (mi x1), some (mi x2), some (mi x3), some (mi x4)] [] g = (wB (fun s : (Int32 × Int32 × Int32 × mG) => match s with | (x2, x3, x4, g) => mEv X (mCall mD X (d + 8)) 1 t_X5_cheapest (mDrop t_X5_cheapest 43) [some (mr 6 18), some (mi x1), some (mi x2), some (mi x3), some (mi x4)] [] g) (wG)) (J_X5_cheapest_117 g x1 x4) := by
  refine Eq.trans (e_X5_cheapest_117) ?_
  exact rj_X5_cheapest_128 d
theorem e_X5_cheapest_106 {X : mX} {call : Nat → List mV → mG → mR} {g : mG} {x1 x2 x3 x4 : Int32} : mEv X call 1 t_X5_cheapest (mDrop t_X5_cheapest 106) [some (mr 6 18), some (mi x1), some (mi x2), some (mi x3), some (mi x4)] [] g = if x3 ≤ (g 1 0 14) then mEv X call 1 t_X5_cheapest (mDrop t_X5_cheapest 128) [some (mr 6 18), some (mi x1), some (mi x2), some (mi x3), some (mi x4)] [] g else mEv X call 1 t_X5_cheapest (mDrop t_X5_cheapest 117) [some (mr 6 18), some (mi x1), some (mi x2), some (mi x3), some (mi x4)] [] g := (mEv_5 _ _ _ _).trans rfl
noncomputable def B_X5_cheapest_43 (x1 : Int32) : (Int32 × Int32 × Int32 × mG) → (Int32 × Int32 × Int32 × mG) ⊕ (Int32 × mG) := fun s => match s with | (x2, x3, x4, g) => (if (g 0 1 0) ≤ x4 then (.inr (mBd (α := Int32 × mG) (P_X5_answer g x2) (fun p1 => (p1.1, p1.2)))) else (mBd (α := mG) (mU g 1 (P_X0_takeFrom (g 1) (g 0))) (fun g2 => (mBd (α := Int32) (cl 8 (g2 1 14) x4) (fun v3 => (mBd (α := mG) (mU g2 1 (P_X0_putQueue (g2 1) x4 (v3 + 10))) (fun g4 => (mBd (α := mG) (mU g4 1 (P_X0_passTicks (g4 1) x1)) (fun g5 => (if x2 = (-1) then (J_X5_cheapest_117 g5 x1 x4) else (if x3 ≤ (g5 1 0 14) then (J_X5_cheapest_128 g5 x1 x2 x3 x4) else (J_X5_cheapest_117 g5 x1 x4))))))))))))
set_option maxRecDepth 100000 in
theorem tm_X5_cheapest_43 {x1 : Int32} : mTm (B_X5_cheapest_43 x1) := by
  refine ⟨fun s => match s with | (x2, x3, x4, g) => mMx x4, fun s s2 h => ?_⟩
  obtain ⟨x2, x3, x4, g⟩ := s
  simp only [B_X5_cheapest_43, J_X5_cheapest_117, J_X5_cheapest_128, mBd, mBo] at h
  (repeat' split at h) <;> first | (have h2 := Sum.inl.inj h; subst h2; dsimp only; first | exact mtm_max (by assumption) | exact mtm_lt (by assumption)) | (cases h; done)
theorem rl_X5_cheapest_43 (d : Nat) {X : mX} {g : mG} {x1 x2 x3 x4 : Int32} : mEv X (mCall mD X (d + 8)) 1 t_X5_cheapest (mDrop t_X5_cheapest 43) [some (mr 6 18), some (mi x1), some (mi x2), some (mi x3), some (mi x4)] [] g = (wG) (mWh (0, fun _ _ _ => 0) (B_X5_cheapest_43 x1) (x2, x3, x4, g)) := by
  refine mWh_ev (B := (B_X5_cheapest_43 x1)) (ev := fun s : (Int32 × Int32 × Int32 × mG) => match s with | (x2, x3, x4, g) => mEv X (mCall mD X (d + 8)) 1 t_X5_cheapest (mDrop t_X5_cheapest 43) [some (mr 6 18), some (mi x1), some (mi x2), some (mi x3), some (mi x4)] [] g) (w := (wG)) (tm_X5_cheapest_43) ?_ (x2, x3, x4, g)
  rintro ⟨x2, x3, x4, g⟩
  show mEv X (mCall mD X (d + 8)) 1 t_X5_cheapest (mDrop t_X5_cheapest 43) [some (mr 6 18), some (mi x1), some (mi x2), some (mi x3), some (mi x4)] [] g = wB (fun s : (Int32 × Int32 × Int32 × mG) => match s with | (x2, x3, x4, g) => mEv X (mCall mD X (d + 8)) 1 t_X5_cheapest (mDrop t_X5_cheapest 43) [some (mr 6 18), some (mi x1), some (mi x2), some (mi x3), some (mi x4)] [] g) (wG) (B_X5_cheapest_43 x1 (x2, x3, x4, g))
  refine Eq.trans (e_X5_cheapest_43) ?_
  refine mw_ite (fun h8 => ?_) (fun h8 => ?_)
  · refine mw_inr ?_
    refine Eq.trans (e_X5_cheapest_134) ?_
    refine mw_gW (rr_X5_answer (d + 7)) (fun p1 => ?_)
    refine Eq.trans (e_X5_cheapest_139) ?_
    all_goals rfl
  · refine Eq.trans (e_X5_cheapest_58) ?_
    refine mw_gV (rr_X0_takeFrom_at (d + 4) (by decide)) (fun g2 => ?_)
    refine Eq.trans (e_X5_cheapest_69) ?_
    refine mw_cI (rr_X5_cell_14_at (d + 7)) (fun v3 => ?_)
    refine Eq.trans (e_X5_cheapest_87) ?_
    refine mw_gV (rr_X0_putQueue_at (d + 5)) (fun g4 => ?_)
    refine Eq.trans (e_X5_cheapest_93) ?_
    refine mw_gV (rr_X0_passTicks_at d) (fun g5 => ?_)
    refine Eq.trans (e_X5_cheapest_101) ?_
    refine mw_ite (fun h7 => ?_) (fun h7 => ?_)
    · exact rj_X5_cheapest_117 d
    · refine Eq.trans (e_X5_cheapest_106) ?_
      refine mw_ite (fun h6 => ?_) (fun h6 => ?_)
      · exact rj_X5_cheapest_128 d
      · exact rj_X5_cheapest_117 d
noncomputable def P_X5_cheapest (g : mG) (x1 : Int32) : (Int32 × mG) := (if x1 < 1 then (J_X5_cheapest_11 g) else (if x1 ≤ 100 then (if (g 0 1 0) = 0 then (mBd (α := Int32 × mG) (P_X5_refuse g 5) (fun p1 => (p1.1, p1.2))) else (mWh (0, fun _ _ _ => 0) (B_X5_cheapest_43 x1) ((-1), 0, 0, g))) else (J_X5_cheapest_11 g)))
theorem rr_X5_cheapest (d : Nat) {X : mX} {g : mG} {x1 : Int32} : mCall mD X (d + 9) 130 [mr 6 18, mi x1] g = (wG) (P_X5_cheapest g x1) := by
  refine Eq.trans (mCall_eq (d := d + 8) rfl) ?_
  show mEv X (mCall mD X (d + 8)) 1 t_X5_cheapest (mDrop t_X5_cheapest 0) [some (mr 6 18), some (mi x1), none, none, none] [] g = _
  refine Eq.trans (e_X5_cheapest_0) ?_
  refine mw_ite (fun h4 => ?_) (fun h4 => ?_)
  · exact rj_X5_cheapest_11 d
  · refine Eq.trans (e_X5_cheapest_5) ?_
    refine mw_ite (fun h3 => ?_) (fun h3 => ?_)
    · refine Eq.trans (e_X5_cheapest_17) ?_
      refine mw_ite (fun h2 => ?_) (fun h2 => ?_)
      · refine Eq.trans (e_X5_cheapest_30) ?_
        refine mw_gW (rr_X5_refuse (d + 7)) (fun p1 => ?_)
        refine Eq.trans (e_X5_cheapest_35) ?_
        all_goals rfl
      · refine Eq.trans (e_X5_cheapest_36) ?_
        exact rl_X5_cheapest_43 d
    · exact rj_X5_cheapest_11 d
def P_X5_keptAt (x : Int32) : Nat := if x = 0 then 2 else if x = 1 then 3 else 4
theorem rr_X5_keptAt (d : Nat) {X : mX} {g : mG} {x : Int32} : mCall mD X (d + 1) 136 [mr 6 18, mi x] g = some (some (mr (P_X5_keptAt x) 0), g) := by
  refine Eq.trans (mCall_eq (d := d) rfl) ?_
  show mEv X (mCall mD X d) 5 t_X5_keptAt (mDrop t_X5_keptAt 0) [some (mr 6 18), some (mi x)] [] g = (fun n : Nat => (some (some (mr n 0), g) : mR)) (if x = 0 then 2 else if x = 1 then 3 else 4)
  refine Eq.trans (mEv_2 _ _ _ _) ?_
  refine mw_ite (w := fun n : Nat => (some (some (mr n 0), g) : mR)) (fun _ => (mEv_3 _ _ _ _).trans rfl) (fun _ => ?_)
  refine Eq.trans (mEv_3 _ _ _ _) ?_
  exact mw_ite (w := fun n : Nat => (some (some (mr n 0), g) : mR)) (fun _ => (mEv_4 _ _ _ _).trans rfl) (fun _ => (mEv_3 _ _ _ _).trans rfl)
theorem kept_ne (x : Int32) : P_X5_keptAt x ≠ 0 := by
  unfold P_X5_keptAt
  split
  · decide
  · split <;> decide
theorem e_X5_keep_0 {X : mX} {call : Nat → List mV → mG → mR} {g : mG} : mEv X call 1 t_X5_keep (mDrop t_X5_keep 0) [some (mr 6 18)] [] g = if (g 6 18 6) < 3 then mEv X call 1 t_X5_keep (mDrop t_X5_keep 14) [some (mr 6 18)] [] g else mEv X call 1 t_X5_keep (mDrop t_X5_keep 8) [some (mr 6 18)] [] g := (mEv_4 _ _ _ _).trans rfl
theorem e_X5_keep_8 {X : mX} {call : Nat → List mV → mG → mR} {g : mG} : mEv X call 1 t_X5_keep (mDrop t_X5_keep 8) [some (mr 6 18)] [] g = mAns (mEv X call 1 t_X5_keep) (mDrop t_X5_keep 13) [some (mr 6 18)] [] (call 132 [mr 6 18, mi 3] g) := (mEv_3 _ _ _ _).trans rfl
theorem e_X5_keep_13 {X : mX} {call : Nat → List mV → mG → mR} {g : mG} {s0 : Int32} : mEv X call 1 t_X5_keep (mDrop t_X5_keep 13) [some (mr 6 18)] [mi s0] g = some (some (mi s0), g) := (mEv_1 _ _ _ _).trans rfl
theorem e_X5_keep_14 {X : mX} {call : Nat → List mV → mG → mR} {g : mG} : mEv X call 1 t_X5_keep (mDrop t_X5_keep 14) [some (mr 6 18)] [] g = mAns (mEv X call 1 t_X5_keep) (mDrop t_X5_keep 22) [some (mr 6 18)] [] (call 136 [mr 6 18, mi (g 6 18 6)] g) := (mEv_4 _ _ _ _).trans rfl
theorem e_X5_keep_22 {X : mX} {call : Nat → List mV → mG → mR} {g : mG} {kp : Nat} : mEv X call 1 t_X5_keep (mDrop t_X5_keep 22) [some (mr 6 18)] [mr kp 0] g = mAns (mEv X call 1 t_X5_keep) (mDrop t_X5_keep 29) [some (mr 6 18)] [] (call 0 [mr kp 0, mr 0 0] g) := (mEv_3 _ _ _ _).trans rfl
theorem e_X5_keep_29 {X : mX} {call : Nat → List mV → mG → mR} {g : mG} : mEv X call 1 t_X5_keep (mDrop t_X5_keep 29) [some (mr 6 18)] [] g = mEv X call 1 t_X5_keep (mDrop t_X5_keep 39) [some (mr 6 18)] [] (mU g 6 (mP (g 6) 18 6 ((g 6 18 6) + 1))) := (mEv_6 _ _ _ _).trans rfl
theorem e_X5_keep_39 {X : mX} {call : Nat → List mV → mG → mR} {g : mG} : mEv X call 1 t_X5_keep (mDrop t_X5_keep 39) [some (mr 6 18)] [] g = mAns (mEv X call 1 t_X5_keep) (mDrop t_X5_keep 47) [some (mr 6 18)] [] (call 131 [mr 6 18, mi (g 6 18 6)] g) := (mEv_4 _ _ _ _).trans rfl
theorem e_X5_keep_47 {X : mX} {call : Nat → List mV → mG → mR} {g : mG} {s0 : Int32} : mEv X call 1 t_X5_keep (mDrop t_X5_keep 47) [some (mr 6 18)] [mi s0] g = some (some (mi s0), g) := (mEv_1 _ _ _ _).trans rfl
noncomputable def kp1 (g : mG) : mG := mU g (P_X5_keptAt (g 6 18 6)) (P_X0_takeFrom (g (P_X5_keptAt (g 6 18 6))) (g 0))
noncomputable def kp2 (g : mG) : mG := mU (kp1 g) 6 (mP (kp1 g 6) 18 6 (kp1 g 6 18 6 + 1))
noncomputable def P_X5_keep (g : mG) : Int32 × mG := if g 6 18 6 < 3 then P_X5_answer (kp2 g) (kp2 g 6 18 6) else P_X5_refuse g 3
theorem rr_X5_keep (d : Nat) {X : mX} {g : mG} : mCall mD X (d + 5) 119 [mr 6 18] g = wG (P_X5_keep g) := by
  refine Eq.trans (mCall_eq (d := d + 4) rfl) ?_
  show mEv X (mCall mD X (d + 4)) 1 t_X5_keep (mDrop t_X5_keep 0) [some (mr 6 18)] [] g = _
  refine Eq.trans e_X5_keep_0 ?_
  refine mw_ite (w := fun z : Int32 × mG => wG z) (fun _ => ?_) (fun _ => ?_)
  · refine Eq.trans e_X5_keep_14 ?_
    rw [rr_X5_keptAt (d + 3)]
    refine Eq.trans e_X5_keep_22 ?_
    rw [rr_X0_takeFrom_at d (kept_ne _).symm]
    show mEv X (mCall mD X (d + 4)) 1 t_X5_keep (mDrop t_X5_keep 29) [some (mr 6 18)] [] (kp1 g) = _
    refine Eq.trans e_X5_keep_29 ?_
    show mEv X (mCall mD X (d + 4)) 1 t_X5_keep (mDrop t_X5_keep 39) [some (mr 6 18)] [] (kp2 g) = _
    refine Eq.trans e_X5_keep_39 ?_
    rw [rr_X5_answer (d + 3)]
    exact e_X5_keep_47
  · refine Eq.trans e_X5_keep_8 ?_
    rw [rr_X5_refuse (d + 3)]
    exact e_X5_keep_13
theorem e_X5_back_0 {X : mX} {call : Nat → List mV → mG → mR} {g : mG} : mEv X call 1 t_X5_back (mDrop t_X5_back 0) [some (mr 6 18)] [] g = if 1 ≤ (g 6 18 6) then mEv X call 1 t_X5_back (mDrop t_X5_back 14) [some (mr 6 18)] [] g else mEv X call 1 t_X5_back (mDrop t_X5_back 8) [some (mr 6 18)] [] g := (mEv_4 _ _ _ _).trans rfl
theorem e_X5_back_8 {X : mX} {call : Nat → List mV → mG → mR} {g : mG} : mEv X call 1 t_X5_back (mDrop t_X5_back 8) [some (mr 6 18)] [] g = mAns (mEv X call 1 t_X5_back) (mDrop t_X5_back 13) [some (mr 6 18)] [] (call 132 [mr 6 18, mi 5] g) := (mEv_3 _ _ _ _).trans rfl
theorem e_X5_back_13 {X : mX} {call : Nat → List mV → mG → mR} {g : mG} {s0 : Int32} : mEv X call 1 t_X5_back (mDrop t_X5_back 13) [some (mr 6 18)] [mi s0] g = some (some (mi s0), g) := (mEv_1 _ _ _ _).trans rfl
theorem e_X5_back_14 {X : mX} {call : Nat → List mV → mG → mR} {g : mG} : mEv X call 1 t_X5_back (mDrop t_X5_back 14) [some (mr 6 18)] [] g = mEv X call 1 t_X5_back (mDrop t_X5_back 24) [some (mr 6 18)] [] (mU g 6 (mP (g 6) 18 6 ((g 6 18 6) - 1))) := (mEv_6 _ _ _ _).trans rfl
theorem e_X5_back_24 {X : mX} {call : Nat → List mV → mG → mR} {g : mG} : mEv X call 1 t_X5_back (mDrop t_X5_back 24) [some (mr 6 18)] [] g = mAns (mEv X call 1 t_X5_back) (mDrop t_X5_back 36) [some (mr 6 18)] [mr 0 0] (call 136 [mr 6 18, mi (g 6 18 6)] g) := (mEv_6 _ _ _ _).trans rfl
theorem e_X5_back_36 {X : mX} {call : Nat → List mV → mG → mR} {g : mG} {kp : Nat} : mEv X call 1 t_X5_back (mDrop t_X5_back 36) [some (mr 6 18)] [mr kp 0, mr 0 0] g = mAns (mEv X call 1 t_X5_back) (mDrop t_X5_back 39) [some (mr 6 18)] [] (call 0 [mr 0 0, mr kp 0] g) := (mEv_1 _ _ _ _).trans rfl
theorem e_X5_back_39 {X : mX} {call : Nat → List mV → mG → mR} {g : mG} : mEv X call 1 t_X5_back (mDrop t_X5_back 39) [some (mr 6 18)] [] g = mAns (mEv X call 1 t_X5_back) (mDrop t_X5_back 47) [some (mr 6 18)] [] (call 131 [mr 6 18, mi (g 6 18 6)] g) := (mEv_4 _ _ _ _).trans rfl
theorem e_X5_back_47 {X : mX} {call : Nat → List mV → mG → mR} {g : mG} {s0 : Int32} : mEv X call 1 t_X5_back (mDrop t_X5_back 47) [some (mr 6 18)] [mi s0] g = some (some (mi s0), g) := (mEv_1 _ _ _ _).trans rfl
noncomputable def bk1 (g : mG) : mG := mU g 6 (mP (g 6) 18 6 (g 6 18 6 - 1))
noncomputable def bk2 (g : mG) : mG := mU (bk1 g) 0 (P_X0_takeFrom (bk1 g 0) (bk1 g (P_X5_keptAt (bk1 g 6 18 6))))
noncomputable def P_X5_back (g : mG) : Int32 × mG := if 1 ≤ g 6 18 6 then P_X5_answer (bk2 g) (bk2 g 6 18 6) else P_X5_refuse g 5
theorem rr_X5_back (d : Nat) {X : mX} {g : mG} : mCall mD X (d + 5) 120 [mr 6 18] g = wG (P_X5_back g) := by
  refine Eq.trans (mCall_eq (d := d + 4) rfl) ?_
  show mEv X (mCall mD X (d + 4)) 1 t_X5_back (mDrop t_X5_back 0) [some (mr 6 18)] [] g = _
  refine Eq.trans e_X5_back_0 ?_
  refine mw_ite (w := fun z : Int32 × mG => wG z) (fun _ => ?_) (fun _ => ?_)
  · refine Eq.trans e_X5_back_14 ?_
    show mEv X (mCall mD X (d + 4)) 1 t_X5_back (mDrop t_X5_back 24) [some (mr 6 18)] [] (bk1 g) = _
    refine Eq.trans e_X5_back_24 ?_
    rw [rr_X5_keptAt (d + 3)]
    refine Eq.trans e_X5_back_36 ?_
    rw [rr_X0_takeFrom_at d (kept_ne _)]
    show mEv X (mCall mD X (d + 4)) 1 t_X5_back (mDrop t_X5_back 39) [some (mr 6 18)] [] (bk2 g) = _
    refine Eq.trans e_X5_back_39 ?_
    rw [rr_X5_answer (d + 3)]
    exact e_X5_back_47
  · refine Eq.trans e_X5_back_8 ?_
    rw [rr_X5_refuse (d + 3)]
    exact e_X5_back_13
