/-! What the class leaves of the crossing -/
def sA (j k : Nat) : Bool := (Nat.beq j 1 && Nat.ble k 2) || (Nat.ble 2 j && Nat.ble j 5) || (Nat.beq j 0 && Nat.ble 10 k && Nat.ble k 12)
theorem sA_r {r k : Nat} (h : 8 ≤ r) : sA r k = false := by
  unfold sA
  rw [show Nat.beq r 1 = false from by
    cases z : Nat.beq r 1 with
    | false => rfl
    | true => exact absurd (Nat.eq_of_beq_eq_true z) (by omega), show Nat.beq r 0 = false from by
    cases z : Nat.beq r 0 with
    | false => rfl
    | true => exact absurd (Nat.eq_of_beq_eq_true z) (by omega), show Nat.ble r 5 = false from by
    cases z : Nat.ble r 5 with
    | false => rfl
    | true => exact absurd (Nat.le_of_ble_eq_true z) (by omega), Bool.false_and, Bool.and_false, Bool.false_and, Bool.false_and]
  rfl
theorem ka_P_X4_takeFrom {c0 : mC} {r : Nat} (h_r : 8 ≤ r) {c : mC} (h_c : Kp sA c0 c) {co : mC} : pp (fun p : mC => Kp sA c0 p) (P_X4_takeFrom r c co) :=
  (Kp.w (Kp.w (Kp.w (Kp.w (Kp.w (Kp.w (Kp.w (Kp.w h_c (sA_r h_r)) (sA_r h_r)) (sA_r h_r)) (sA_r h_r)) (sA_r h_r)) (sA_r h_r)) (sA_r h_r)) (sA_r h_r))
theorem ka_P_X1_takeFrom {c0 : mC} {c : mC} (h_c : Kp sA c0 c) {co : mC} : pp (fun p : mC => Kp sA c0 p) (P_X1_takeFrom c co) :=
  (pp_bo (P := Kp sA c0) (Kp.cp (Kp.w (Kp.w h_c rfl) rfl) (fun _ => rfl)) (fun v2 h1 => (pp_bo (P := Kp sA c0) (Kp.cp h1 (fun _ => rfl)) (fun v4 h3 => (pp_bo (P := Kp sA c0) (Kp.cp h3 (fun _ => rfl)) (fun v6 h5 => h5))))))
theorem ka_P_X1_wipe {c0 : mC} {c : mC} (h_c : Kp sA c0 c) : pp (fun p : mC => Kp sA c0 p) (P_X1_wipe c) :=
  (Kp.w (Kp.w h_c rfl) rfl)
theorem ka_P_X4_waitFor {c0 : mC} {r : Nat} (h_r : 8 ≤ r) {c : mC} (h_c : Kp sA c0 c) {x1 : Int32} : pp (fun p : mC => Kp sA c0 p) (P_X4_waitFor r c x1) :=
  (Kp.w (Kp.w (Kp.w (Kp.w h_c (sA_r h_r)) (sA_r h_r)) (sA_r h_r)) (sA_r h_r))
theorem ka_J_X4_walkOn_39 {c0 : mC} {r : Nat} (h_r : 8 ≤ r) {c : mC} (h_c : Kp sA c0 c) {x2 : Int32} : pp (fun p : mC => Kp sA c0 p) (J_X4_walkOn_39 r c x2) :=
  (pp_if (fun _ => (pp_if (fun _ => h_c) (fun _ => (Kp.w h_c (sA_r h_r))))) (fun _ => h_c))
theorem ka_J_X4_walkOn_18 {c0 : mC} {r : Nat} (h_r : 8 ≤ r) {c : mC} (h_c : Kp sA c0 c) {x1 : Int32} {x2 : Int32} : pp (fun p : mC => Kp sA c0 p) (J_X4_walkOn_18 r c x1 x2) :=
  (pp_if (fun _ => (pp_if (fun _ => (ka_J_X4_walkOn_39 h_r h_c)) (fun _ => (ka_J_X4_walkOn_39 h_r (Kp.w h_c (sA_r h_r)))))) (fun _ => (ka_J_X4_walkOn_39 h_r h_c)))
theorem ka_P_X4_walkOn {c0 : mC} {r : Nat} (h_r : 8 ≤ r) {c : mC} (h_c : Kp sA c0 c) {x1 : Int32} {x2 : Int32} : pp (fun p : mC => Kp sA c0 p) (P_X4_walkOn r c x1 x2) :=
  (pp_if (fun _ => (ka_J_X4_walkOn_18 h_r (Kp.w h_c (sA_r h_r)))) (fun _ => (ka_J_X4_walkOn_18 h_r h_c)))
theorem ka_J_X4_growDark_26 {c0 : mC} {r : Nat} (h_r : 8 ≤ r) {c : mC} (h_c : Kp sA c0 c) {x2 : Int32} : pp (fun p : mC => Kp sA c0 p) (J_X4_growDark_26 r c x2) :=
  (pp_if (fun _ => (pp_if (fun _ => h_c) (fun _ => (pp_bo (P := Kp sA c0) (ka_P_X4_waitFor h_r h_c) (fun v2 h1 => h1))))) (fun _ => h_c))
theorem ka_P_X4_growDark {c0 : mC} {r : Nat} (h_r : 8 ≤ r) {c : mC} (h_c : Kp sA c0 c) {x1 : Int32} {x2 : Int32} : pp (fun p : mC => Kp sA c0 p) (P_X4_growDark r c x1 x2) :=
  (pp_if (fun _ => (pp_if (fun _ => (ka_J_X4_growDark_26 h_r h_c)) (fun _ => (ka_J_X4_growDark_26 h_r (Kp.w (Kp.w h_c (sA_r h_r)) (sA_r h_r)))))) (fun _ => (ka_J_X4_growDark_26 h_r h_c)))
theorem ka_J_X1_note_46 {c0 : mC} {c : mC} (h_c : Kp sA c0 c) : pp (fun p : mC => Kp sA c0 p) (J_X1_note_46 c) :=
  (pp_bd (fun v1 => (Kp.w (Kp.w h_c rfl) rfl)))
theorem ka_P_X1_note {c0 : mC} {c : mC} (h_c : Kp sA c0 c) {x1 : Int32} {x2 : Int32} {x3 : Int32} : pp (fun p : mC => Kp sA c0 p) (P_X1_note c x1 x2 x3) :=
  (pp_if (fun _ => (ka_J_X1_note_46 h_c)) (fun _ => (pp_if (fun _ => (ka_J_X1_note_46 h_c)) (fun _ => (ka_J_X1_note_46 (Kp.w (Kp.w (Kp.w h_c rfl) rfl) rfl))))))
theorem ka_P_X4_turnYellow {c0 : mC} {r : Nat} (h_r : 8 ≤ r) {c : mC} (h_c : Kp sA c0 c) {x1 : Int32} : pp (fun p : mC => Kp sA c0 p) (P_X4_turnYellow r c x1) :=
  (Kp.w (Kp.w (Kp.w (Kp.w h_c (sA_r h_r)) (sA_r h_r)) (sA_r h_r)) (sA_r h_r))
theorem ka_J_X4_turnGreen_45 {c0 : mC} {r : Nat} (h_r : 8 ≤ r) {c : mC} (h_c : Kp sA c0 c) {s1 : Int32} : pp (fun p : mC => Kp sA c0 p) (J_X4_turnGreen_45 r c s1) :=
  (Kp.w h_c (sA_r h_r))
theorem ka_P_X4_turnGreen {c0 : mC} {r : Nat} (h_r : 8 ≤ r) {c : mC} (h_c : Kp sA c0 c) {x1 : Int32} {x2 : Int32} : pp (fun p : mC => Kp sA c0 p) (P_X4_turnGreen r c x1 x2) :=
  (pp_if (fun _ => (ka_J_X4_turnGreen_45 h_r (Kp.w (Kp.w (Kp.w (Kp.w (Kp.w (Kp.w (Kp.w h_c (sA_r h_r)) (sA_r h_r)) (sA_r h_r)) (sA_r h_r)) (sA_r h_r)) (sA_r h_r)) (sA_r h_r)))) (fun _ => (ka_J_X4_turnGreen_45 h_r (Kp.w (Kp.w (Kp.w (Kp.w (Kp.w (Kp.w (Kp.w h_c (sA_r h_r)) (sA_r h_r)) (sA_r h_r)) (sA_r h_r)) (sA_r h_r)) (sA_r h_r)) (sA_r h_r)))))
theorem ka_P_X0_dropBreak {c0 : mC} {c : mC} (h_c : Kp sA c0 c) : pp (fun p : mC => Kp sA c0 p) (P_X0_dropBreak c) :=
  (Kp.w (Kp.w (Kp.w h_c rfl) rfl) rfl)
theorem ka_J_X0_startRings_27 {c0 : mC} {c : mC} (h_c : Kp sA c0 c) {s0 : Int32} : pp (fun p : mC => Kp sA c0 p) (J_X0_startRings_27 c s0) :=
  (pp_bd (fun v1 => (pp_bd (fun v2 => (pp_bo (P := Kp sA c0) (ka_P_X4_waitFor (show 8 ≤ 8 by decide) h_c) (fun v4 h3 => (pp_bd (fun v5 => (pp_bd (fun v6 => (pp_bo (P := Kp sA c0) (ka_P_X4_waitFor (show 8 ≤ 9 by decide) h3) (fun v8 h7 => h7))))))))))))
theorem ka_P_X0_startRings {c0 : mC} {c : mC} (h_c : Kp sA c0 c) : pp (fun p : mC => Kp sA c0 p) (P_X0_startRings c) :=
  (pp_bd (fun v1 => (pp_bd (fun v2 => (pp_if (fun _ => (ka_J_X0_startRings_27 h_c)) (fun _ => (ka_J_X0_startRings_27 h_c)))))))
theorem ka_J_X0_putQueue_24 {c0 : mC} {c : mC} (h_c : Kp sA c0 c) {s1 : Int32} {s2 : Int32} {s3 : Int32} : pp (fun p : mC => Kp sA c0 p) (J_X0_putQueue_24 c s1 s2 s3) :=
  (pp_bd (fun v1 => (Kp.w h_c rfl)))
theorem ka_P_X0_putQueue {c0 : mC} {c : mC} (h_c : Kp sA c0 c) {x1 : Int32} {x2 : Int32} : pp (fun p : mC => Kp sA c0 p) (P_X0_putQueue c x1 x2) :=
  (pp_bo (P := Kp sA c0) (Kp.pu h_c (fun _ => rfl)) (fun v2 h1 => (pp_if (fun _ => (ka_J_X0_putQueue_24 h1)) (fun _ => (ka_J_X0_putQueue_24 h1)))))
theorem ka_P_X0_takeCall {c0 : mC} {c : mC} (h_c : Kp sA c0 c) {x1 : Int32} : pp (fun p : mC => Kp sA c0 p) (P_X0_takeCall c x1) :=
  (pp_bd (fun v1 => (pp_if (fun _ => (pp_bd (fun v2 => (Kp.w h_c rfl)))) (fun _ => (pp_bd (fun v3 => (Kp.w h_c rfl)))))))
theorem ka_J_X0_callOthers_23 {c0 : mC} {c : mC} (h_c : Kp sA c0 c) {x1 : Int32} {x2 : Int32} : pp2 (fun s : Int32 × mC => Kp sA c0 s.2) (fun p : mC => Kp sA c0 p) (J_X0_callOthers_23 c x1 x2) :=
  (pp2_l h_c)
theorem ka_B_X0_callOthers_2 {c0 : mC} {x1 : Int32} : ∀ s : Int32 × mC, (fun s : Int32 × mC => Kp sA c0 s.2) s → pp2 (fun s : Int32 × mC => Kp sA c0 s.2) (fun p : mC => Kp sA c0 p) (B_X0_callOthers_2 x1 s) := by
  rintro ⟨x2, c⟩ h_s
  unfold B_X0_callOthers_2
  dsimp only
  exact (pp2_if (fun _ => (pp2_r h_s)) (fun _ => (pp2_if (fun _ => (ka_J_X0_callOthers_23 h_s)) (fun _ => (pp2_bo (P := Kp sA c0) (ka_P_X0_takeCall h_s) (fun v2 h1 => (ka_J_X0_callOthers_23 h1)))))))
theorem ka_P_X0_callOthers {c0 : mC} {c : mC} (h_c : Kp sA c0 c) {x1 : Int32} : pp (fun p : mC => Kp sA c0 p) (P_X0_callOthers c x1) :=
  (pp_wh (fun s : Int32 × mC => Kp sA c0 s.2) tm_X0_callOthers_2 ka_B_X0_callOthers_2 h_c)
theorem ka_J_X0_takeCycle_25 {c0 : mC} {c : mC} (h_c : Kp sA c0 c) {s1 : Int32} : pp (fun p : mC => Kp sA c0 p) (J_X0_takeCycle_25 c s1) :=
  (Kp.w h_c rfl)
theorem ka_J_X0_takeComers_85 {c0 : mC} {c : mC} (h_c : Kp sA c0 c) {x4 : Int32} {x2 : Int64} : pp2 (fun s : Int64 × Int32 × mC => Kp sA c0 s.2.2) (fun p : Int32 × mC => Kp sA c0 p.2) (J_X0_takeComers_85 c x4 x2) :=
  (pp2_l h_c)
theorem ka_B_X0_takeComers_6 {c0 : mC}  : ∀ s : Int64 × Int32 × mC, (fun s : Int64 × Int32 × mC => Kp sA c0 s.2.2) s → pp2 (fun s : Int64 × Int32 × mC => Kp sA c0 s.2.2) (fun p : Int32 × mC => Kp sA c0 p.2) (B_X0_takeComers_6 s) := by
  rintro ⟨x2, x4, c⟩ h_s
  unfold B_X0_takeComers_6
  dsimp only
  exact (pp2_if (fun _ => (pp2_r h_s)) (fun _ => (pp2_bd (fun v1 => (pp2_bd (fun v2 => (pp2_if (fun _ => (ka_J_X0_takeComers_85 h_s)) (fun _ => (pp2_if (fun _ => (ka_J_X0_takeComers_85 h_s)) (fun _ => (pp2_bo (P := Kp sA c0) (ka_P_X0_putQueue h_s) (fun v4 h3 => (ka_J_X0_takeComers_85 h3)))))))))))))
theorem ka_P_X0_takeComers {c0 : mC} {c : mC} (h_c : Kp sA c0 c) {x1 : Int32} : pp (fun p : Int32 × mC => Kp sA c0 p.2) (P_X0_takeComers c x1) :=
  (pp_wh (fun s : Int64 × Int32 × mC => Kp sA c0 s.2.2) tm_X0_takeComers_6 ka_B_X0_takeComers_6 h_c)
theorem ka_P_X0_moveClock {c0 : mC} {c : mC} (h_c : Kp sA c0 c) : pp (fun p : mC => Kp sA c0 p) (P_X0_moveClock c) :=
  (pp_if (fun _ => (pp_bd (fun v1 => (pp_bd (fun v2 => (pp_if (fun _ => (Kp.w h_c rfl)) (fun _ => (pp_if (fun _ => (pp_if (fun _ => (pp_bd (fun v3 => (Kp.w (Kp.w h_c rfl) rfl)))) (fun _ => (pp_bd (fun v4 => (Kp.w (Kp.w h_c rfl) rfl)))))) (fun _ => (Kp.w h_c rfl)))))))))) (fun _ => h_c))
theorem ka_J_X0_ageGreen_99 {c0 : mC} {r : Nat} (h_r : 8 ≤ r) {c : mC} (h_c : Kp sA c0 c) {x2 : Int32} : pp (fun p : mC => Kp sA c0 p) (J_X0_ageGreen_99 r c x2) :=
  (pp_bd (fun v1 => (pp_bd (fun v2 => (pp_bo (P := Kp sA c0) (ka_P_X4_walkOn h_r h_c) (fun v4 h3 => h3))))))
theorem ka_J_X0_ageGreen_73 {c0 : mC} {r : Nat} (h_r : 8 ≤ r) {c : mC} (h_c : Kp sA c0 c) {x2 : Int32} : pp (fun p : mC => Kp sA c0 p) (J_X0_ageGreen_73 r c x2) :=
  (pp_bd (fun v1 => (pp_bd (fun v2 => (pp_if (fun _ => (ka_J_X0_ageGreen_99 h_r h_c)) (fun _ => (ka_J_X0_ageGreen_99 h_r (Kp.w h_c (sA_r h_r)))))))))
theorem ka_J_X0_ageGreen_40 {c0 : mC} {r : Nat} (h_r : 8 ≤ r) {c : mC} (h_c : Kp sA c0 c) {x2 : Int32} {x3 : Int32} {s1 : Int32} : pp (fun p : mC => Kp sA c0 p) (J_X0_ageGreen_40 r c x2 x3 s1) :=
  (pp_if (fun _ => (ka_J_X0_ageGreen_73 h_r (Kp.w h_c (sA_r h_r)))) (fun _ => (pp_bo (P := Kp sA c0) (ka_P_X0_putQueue (Kp.w h_c (sA_r h_r))) (fun v2 h1 => (pp_bd (fun v3 => (pp_bo (P := Kp sA c0) (Kp.pu h1 (fun _ => rfl)) (fun v5 h4 => (ka_J_X0_ageGreen_73 h_r h4)))))))))
theorem ka_J_X0_ageGreen_30 {c0 : mC} {r : Nat} (h_r : 8 ≤ r) {c : mC} (h_c : Kp sA c0 c) {x2 : Int32} {x3 : Int32} : pp (fun p : mC => Kp sA c0 p) (J_X0_ageGreen_30 r c x2 x3) :=
  (ka_J_X0_ageGreen_40 h_r h_c)
theorem ka_P_X0_ageGreen {c0 : mC} {r : Nat} (h_r : 8 ≤ r) {c : mC} (h_c : Kp sA c0 c) : pp (fun p : mC => Kp sA c0 p) (P_X0_ageGreen r c) :=
  (pp_bd (fun v1 => (pp_if (fun _ => (ka_J_X0_ageGreen_30 h_r h_c)) (fun _ => (pp_bd (fun v2 => (pp_if (fun _ => (ka_J_X0_ageGreen_40 h_r h_c)) (fun _ => (ka_J_X0_ageGreen_30 h_r h_c)))))))))
theorem ka_P_X0_ageRing {c0 : mC} {r : Nat} (h_r : 8 ≤ r) {c : mC} (h_c : Kp sA c0 c) : pp (fun p : mC => Kp sA c0 p) (P_X0_ageRing r c) :=
  (pp_bd (fun v1 => (pp_if (fun _ => h_c) (fun _ => (pp_bd (fun v2 => (pp_if (fun _ => (pp_bd (fun v3 => (pp_bd (fun v4 => (pp_bo (P := Kp sA c0) (ka_P_X4_growDark h_r (Kp.w h_c (sA_r h_r))) (fun v6 h5 => h5))))))) (fun _ => (pp_bo (P := Kp sA c0) (ka_P_X0_ageGreen h_r (Kp.w h_c (sA_r h_r))) (fun v8 h7 => h7))))))))))
theorem ka_J_X0_beginBreak_23 {c0 : mC} {c : mC} (h_c : Kp sA c0 c) {x1 : Int32} {s1 : Int32} : pp (fun p : mC => Kp sA c0 p) (J_X0_beginBreak_23 c x1 s1) :=
  (pp_bo (P := Kp sA c0) (ka_P_X1_note (Kp.w (Kp.w h_c rfl) rfl)) (fun v2 h1 => h1))
theorem ka_P_X0_beginBreak {c0 : mC} {c : mC} (h_c : Kp sA c0 c) {x1 : Int32} : pp (fun p : mC => Kp sA c0 p) (P_X0_beginBreak c x1) :=
  (pp_bd (fun v1 => (pp_if (fun _ => (ka_J_X0_beginBreak_23 (Kp.w h_c rfl))) (fun _ => (ka_J_X0_beginBreak_23 (Kp.w h_c rfl))))))
theorem ka_P_X0_beginWanted {c0 : mC} {c : mC} (h_c : Kp sA c0 c) : pp (fun p : mC => Kp sA c0 p) (P_X0_beginWanted c) :=
  (pp_bd (fun v1 => (pp_if (fun _ => (pp_bd (fun v2 => (pp_if (fun _ => h_c) (fun _ => (pp_bo (P := Kp sA c0) (ka_P_X0_beginBreak h_c) (fun v4 h3 => h3))))))) (fun _ => (pp_bo (P := Kp sA c0) (ka_P_X0_beginBreak h_c) (fun v6 h5 => h5))))))
theorem ka_P_X0_goTo {c0 : mC} {r : Nat} (h_r : 8 ≤ r) {c : mC} (h_c : Kp sA c0 c) {x2 : Int32} : pp (fun p : mC => Kp sA c0 p) (P_X0_goTo r c x2) :=
  (pp_bd (fun v1 => (pp_if (fun _ => (Kp.w h_c (sA_r h_r))) (fun _ => (pp_bo (P := Kp sA c0) (ka_P_X1_note h_c) (fun v3 h2 => (pp_bo (P := Kp sA c0) (ka_P_X4_turnYellow h_r h2) (fun v5 h4 => h4))))))))
theorem ka_J_X0_steer_66 {c0 : mC} {r : Nat} (h_r : 8 ≤ r) {c : mC} (h_c : Kp sA c0 c) {x2 : Int32} : pp (fun p : mC => Kp sA c0 p) (J_X0_steer_66 r c x2) :=
  (pp_bo (P := Kp sA c0) (ka_P_X0_goTo h_r h_c) (fun v2 h1 => h1))
theorem ka_J_X0_steer_40 {c0 : mC} {r : Nat} (h_r : 8 ≤ r) {c : mC} (h_c : Kp sA c0 c) {x2 : Int32} : pp (fun p : mC => Kp sA c0 p) (J_X0_steer_40 r c x2) :=
  (pp_if (fun _ => (ka_J_X0_steer_66 h_r h_c)) (fun _ => (pp_bd (fun v1 => (pp_if (fun _ => h_c) (fun _ => (ka_J_X0_steer_66 h_r h_c)))))))
theorem ka_P_X0_steer {c0 : mC} {r : Nat} (h_r : 8 ≤ r) {c : mC} (h_c : Kp sA c0 c) {x2 : Int32} : pp (fun p : mC => Kp sA c0 p) (P_X0_steer r c x2) :=
  (pp_bd (fun v1 => (pp_if (fun _ => (Kp.w h_c (sA_r h_r))) (fun _ => (pp_if (fun _ => h_c) (fun _ => (pp_if (fun _ => (ka_J_X0_steer_40 h_r (Kp.w (Kp.w h_c (sA_r h_r)) (sA_r h_r)))) (fun _ => (ka_J_X0_steer_40 h_r h_c)))))))))
theorem ka_P_X0_turnGreen {c0 : mC} {r : Nat} (h_r : 8 ≤ r) {p2 : Nat} (h_p2 : 8 ≤ p2) {c : mC} (h_c : Kp sA c0 c) : pp (fun p : mC => Kp sA c0 p) (P_X0_turnGreen r p2 c) :=
  (pp_if (fun _ => (pp_if (fun _ => h_c) (fun _ => (pp_bd (fun v1 => (pp_bd (fun v2 => (pp_if (fun _ => (pp_bd (fun v3 => (pp_bd (fun v4 => (pp_bo (P := Kp sA c0) (ka_P_X4_turnGreen h_r h_c) (fun v6 h5 => (pp_bd (fun v7 => (pp_bd (fun v8 => (pp_bo (P := Kp sA c0) (ka_P_X1_note (Kp.w (Kp.w h5 rfl) rfl)) (fun v10 h9 => h9))))))))))))) (fun _ => h_c))))))))) (fun _ => h_c))
theorem ka_P_X0_seek {c0 : mC} {c : mC} (h_c : Kp sA c0 c) {x1 : Int32} : pp (fun p : mC => Kp sA c0 p) (P_X0_seek c x1) :=
  (pp_bd (fun v1 => (pp_bd (fun v2 => (pp_bd (fun v3 => (pp_bd (fun v4 => (pp_bd (fun v5 => (pp_bd (fun v6 => (pp_bo (P := Kp sA c0) (ka_P_X0_steer (show 8 ≤ 8 by decide) h_c) (fun v8 h7 => (pp_bo (P := Kp sA c0) (ka_P_X0_steer (show 8 ≤ 9 by decide) h7) (fun v10 h9 => (pp_bo (P := Kp sA c0) (ka_P_X0_turnGreen (show 8 ≤ 8 by decide) (show 8 ≤ 9 by decide) h9) (fun v12 h11 => (pp_bo (P := Kp sA c0) (ka_P_X0_turnGreen (show 8 ≤ 9 by decide) (show 8 ≤ 8 by decide) h11) (fun v14 h13 => (pp_bd (fun v15 => (pp_if (fun _ => h13) (fun _ => (pp_bd (fun v16 => (pp_if (fun _ => h13) (fun _ => (Kp.w (Kp.w h13 rfl) rfl)))))))))))))))))))))))))))))
theorem ka_P_X0_stayOnTrack {c0 : mC} {c : mC} (h_c : Kp sA c0 c) : pp (fun p : mC => Kp sA c0 p) (P_X0_stayOnTrack c) :=
  (pp_bd (fun v1 => (pp_if (fun _ => (Kp.w h_c rfl)) (fun _ => (Kp.w (Kp.w (Kp.w h_c rfl) rfl) rfl)))))
theorem ka_J_X0_resume_92 {c0 : mC} {c : mC} (h_c : Kp sA c0 c) {x1 : Int32} : pp (fun p : mC => Kp sA c0 p) (J_X0_resume_92 c x1) :=
  (pp_bd (fun v1 => (pp_if (fun _ => (pp_bd (fun v2 => (pp_bd (fun v3 => (Kp.w h_c rfl)))))) (fun _ => h_c))))
theorem ka_J_X0_resume_59 {c0 : mC} {c : mC} (h_c : Kp sA c0 c) {s1 : Int32} : pp (fun p : mC => Kp sA c0 p) (J_X0_resume_59 c s1) :=
  (pp_bd (fun v1 => (pp_bd (fun v2 => (pp_if (fun _ => (pp_bd (fun v3 => (pp_bd (fun v4 => (ka_J_X0_resume_92 (Kp.w h_c rfl))))))) (fun _ => (ka_J_X0_resume_92 h_c)))))))
theorem ka_J_X0_resume_25 {c0 : mC} {c : mC} (h_c : Kp sA c0 c) : pp (fun p : mC => Kp sA c0 p) (J_X0_resume_25 c) :=
  (pp_bd (fun v1 => (pp_if (fun _ => (ka_J_X0_resume_59 h_c)) (fun _ => (ka_J_X0_resume_59 h_c)))))
theorem ka_P_X0_resume {c0 : mC} {c : mC} (h_c : Kp sA c0 c) : pp (fun p : mC => Kp sA c0 p) (P_X0_resume c) :=
  (pp_bd (fun v1 => (pp_if (fun _ => (pp_bd (fun v2 => (pp_if (fun _ => (pp_bo (P := Kp sA c0) (ka_P_X0_startRings h_c) (fun v4 h3 => h3))) (fun _ => (ka_J_X0_resume_25 h_c)))))) (fun _ => (ka_J_X0_resume_25 h_c)))))
theorem ka_P_X0_stayOnDwell {c0 : mC} {c : mC} (h_c : Kp sA c0 c) : pp (fun p : mC => Kp sA c0 p) (P_X0_stayOnDwell c) :=
  (pp_bd (fun v1 => (pp_if (fun _ => (Kp.w h_c rfl)) (fun _ => (pp_bd (fun v2 => (pp_if (fun _ => (pp_bo (P := Kp sA c0) (ka_P_X1_note (Kp.w h_c rfl)) (fun v4 h3 => (pp_bo (P := Kp sA c0) (ka_P_X0_dropBreak h3) (fun v6 h5 => (pp_bo (P := Kp sA c0) (ka_P_X0_resume h5) (fun v8 h7 => h7))))))) (fun _ => (Kp.w h_c rfl)))))))))
theorem ka_J_X0_moveBreaks_52 {c0 : mC} {c : mC} (h_c : Kp sA c0 c) : pp (fun p : mC => Kp sA c0 p) (J_X0_moveBreaks_52 c) :=
  (pp_if (fun _ => (pp_bd (fun v1 => (pp_bo (P := Kp sA c0) (ka_P_X0_seek h_c) (fun v3 h2 => h2))))) (fun _ => (pp_if (fun _ => (pp_bo (P := Kp sA c0) (ka_P_X0_stayOnTrack h_c) (fun v5 h4 => h4))) (fun _ => (pp_if (fun _ => (pp_bd (fun v6 => (pp_bo (P := Kp sA c0) (ka_P_X0_seek h_c) (fun v8 h7 => h7))))) (fun _ => (pp_if (fun _ => (pp_bo (P := Kp sA c0) (ka_P_X0_stayOnDwell h_c) (fun v10 h9 => h9))) (fun _ => h_c))))))))
theorem ka_P_X0_moveBreaks {c0 : mC} {c : mC} (h_c : Kp sA c0 c) : pp (fun p : mC => Kp sA c0 p) (P_X0_moveBreaks c) :=
  (pp_if (fun _ => (pp_bo (P := Kp sA c0) (ka_P_X0_beginWanted h_c) (fun v2 h1 => (ka_J_X0_moveBreaks_52 h1)))) (fun _ => (pp_if (fun _ => (pp_bd (fun v3 => (pp_if (fun _ => (ka_J_X0_moveBreaks_52 h_c)) (fun _ => (pp_bo (P := Kp sA c0) (ka_P_X1_note h_c) (fun v5 h4 => (pp_bo (P := Kp sA c0) (ka_P_X0_beginBreak h4) (fun v7 h6 => (ka_J_X0_moveBreaks_52 h6)))))))))) (fun _ => (ka_J_X0_moveBreaks_52 h_c)))))
theorem ka_P_X0_leaveToNext {c0 : mC} {r : Nat} (h_r : 8 ≤ r) {c : mC} (h_c : Kp sA c0 c) {x2 : Int32} : pp (fun p : Int32 × mC => Kp sA c0 p.2) (P_X0_leaveToNext r c x2) :=
  (pp_bd (fun v1 => (pp_bd (fun v2 => (pp_bd (fun v3 => (pp_bd (fun v4 => (pp_if (fun _ => h_c) (fun _ => (pp_bo (P := Kp sA c0) (ka_P_X0_goTo h_r h_c) (fun v6 h5 => h5))))))))))))
theorem ka_J_X0_crossOver_15 {c0 : mC} {r : Nat} (h_r : 8 ≤ r) {c : mC} (h_c : Kp sA c0 c) {s2 : Int32} : pp (fun p : mC => Kp sA c0 p) (J_X0_crossOver_15 r c s2) :=
  (pp_bd (fun v1 => (pp_bo (P := Kp sA c0) (ka_P_X0_goTo h_r h_c) (fun v3 h2 => h2))))
theorem ka_P_X0_crossOver {c0 : mC} {r : Nat} (h_r : 8 ≤ r) {c : mC} (h_c : Kp sA c0 c) {x2 : Int32} {x3 : Int32} : pp (fun p : mC => Kp sA c0 p) (P_X0_crossOver r c x2 x3) :=
  (pp_if (fun _ => (ka_J_X0_crossOver_15 h_r h_c)) (fun _ => (ka_J_X0_crossOver_15 h_r h_c)))
theorem ka_P_X0_turnBack {c0 : mC} {r : Nat} (h_r : 8 ≤ r) {c : mC} (h_c : Kp sA c0 c) {x2 : Int32} : pp (fun p : mC => Kp sA c0 p) (P_X0_turnBack r c x2) :=
  (pp_bd (fun v1 => (pp_bd (fun v2 => (pp_if (fun _ => h_c) (fun _ => (pp_bo (P := Kp sA c0) (ka_P_X0_goTo h_r h_c) (fun v4 h3 => h3))))))))
theorem ka_J_X0_moveTogether_34 {c0 : mC} {c : mC} (h_c : Kp sA c0 c) {x1 : Int32} {s1 : Int32} : pp (fun p : mC => Kp sA c0 p) (J_X0_moveTogether_34 c x1 s1) :=
  (pp_bd (fun v1 => (pp_bd (fun v2 => (pp_if (fun _ => (pp_bd (fun v3 => (pp_bo (P := Kp sA c0) (ka_P_X0_turnBack (show 8 ≤ 8 by decide) h_c) (fun v5 h4 => (pp_bd (fun v6 => (pp_bo (P := Kp sA c0) (ka_P_X0_turnBack (show 8 ≤ 9 by decide) h4) (fun v8 h7 => h7))))))))) (fun _ => (pp_bd (fun v9 => (pp_bo (P := Kp sA c0) (ka_P_X0_crossOver (show 8 ≤ 8 by decide) h_c) (fun v11 h10 => (pp_bd (fun v12 => (pp_bo (P := Kp sA c0) (ka_P_X0_crossOver (show 8 ≤ 9 by decide) h10) (fun v14 h13 => h13))))))))))))))
theorem ka_P_X0_moveTogether {c0 : mC} {c : mC} (h_c : Kp sA c0 c) {x1 : Int32} : pp (fun p : mC => Kp sA c0 p) (P_X0_moveTogether c x1) :=
  (pp_bd (fun v1 => (pp_if (fun _ => (ka_J_X0_moveTogether_34 h_c)) (fun _ => (ka_J_X0_moveTogether_34 h_c)))))
theorem ka_J_X0_moveOn_122 {c0 : mC} {c : mC} (h_c : Kp sA c0 c) {x1 : Int32} : pp (fun p : mC => Kp sA c0 p) (J_X0_moveOn_122 c x1) :=
  (pp_bo (P := Kp sA c0) (ka_P_X0_moveTogether h_c) (fun v2 h1 => h1))
theorem ka_J_X0_moveOn_67 {c0 : mC} {c : mC} (h_c : Kp sA c0 c) {x1 : Int32} {x2 : Int32} {x3 : Int32} {x4 : Int32} {s0 : Int32} : pp (fun p : mC => Kp sA c0 p) (J_X0_moveOn_67 c x1 x2 x3 x4 s0) :=
  (pp_if (fun _ => (pp_if (fun _ => (pp_bd (fun v1 => (pp_if (fun _ => (pp_bd (fun v2 => (pp_if (fun _ => (pp_bd (fun v3 => (pp_if (fun _ => (pp_bd (fun v4 => (pp_if (fun _ => h_c) (fun _ => (ka_J_X0_moveOn_122 h_c)))))) (fun _ => (ka_J_X0_moveOn_122 h_c)))))) (fun _ => h_c))))) (fun _ => h_c))))) (fun _ => h_c))) (fun _ => h_c))
theorem ka_J_X0_moveOn_66 {c0 : mC} {c : mC} (h_c : Kp sA c0 c) {x1 : Int32} {x2 : Int32} {x3 : Int32} {x4 : Int32} : pp (fun p : mC => Kp sA c0 p) (J_X0_moveOn_66 c x1 x2 x3 x4) :=
  (ka_J_X0_moveOn_67 h_c)
theorem ka_J_X0_moveOn_44 {c0 : mC} {c : mC} (h_c : Kp sA c0 c) {x1 : Int32} {x2 : Int32} {x3 : Int32} {s0 : Int32} : pp (fun p : mC => Kp sA c0 p) (J_X0_moveOn_44 c x1 x2 x3 s0) :=
  (pp_if (fun _ => (ka_J_X0_moveOn_66 h_c)) (fun _ => (pp_bo (ka_P_X0_leaveToNext (show 8 ≤ 9 by decide) h_c) (fun v2 h1 => (pp_if (fun _ => (ka_J_X0_moveOn_66 h1)) (fun _ => (ka_J_X0_moveOn_67 h1)))))))
theorem ka_J_X0_moveOn_43 {c0 : mC} {c : mC} (h_c : Kp sA c0 c) {x1 : Int32} {x2 : Int32} {x3 : Int32} : pp (fun p : mC => Kp sA c0 p) (J_X0_moveOn_43 c x1 x2 x3) :=
  (ka_J_X0_moveOn_44 h_c)
theorem ka_P_X0_moveOn {c0 : mC} {c : mC} (h_c : Kp sA c0 c) : pp (fun p : mC => Kp sA c0 p) (P_X0_moveOn c) :=
  (pp_bd (fun v1 => (pp_bd (fun v2 => (pp_bd (fun v3 => (pp_if (fun _ => (ka_J_X0_moveOn_43 h_c)) (fun _ => (pp_bo (ka_P_X0_leaveToNext (show 8 ≤ 8 by decide) h_c) (fun v5 h4 => (pp_if (fun _ => (ka_J_X0_moveOn_43 h4)) (fun _ => (ka_J_X0_moveOn_44 h4)))))))))))))
theorem ka_J_X0_watch_22 {c0 : mC} {c : mC} (h_c : Kp sA c0 c) {s0 : Int32} : pp (fun p : mC => Kp sA c0 p) (J_X0_watch_22 c s0) :=
  (pp_if (fun _ => h_c) (fun _ => (pp_bo (P := Kp sA c0) (ka_P_X4_waitFor (show 8 ≤ 8 by decide) (Kp.w h_c rfl)) (fun v2 h1 => (pp_bo (P := Kp sA c0) (ka_P_X4_waitFor (show 8 ≤ 9 by decide) h1) (fun v4 h3 => (pp_bo (P := Kp sA c0) (ka_P_X0_dropBreak h3) (fun v6 h5 => (pp_bo (P := Kp sA c0) (ka_P_X1_note h5) (fun v8 h7 => h7))))))))))
theorem ka_P_X0_watch {c0 : mC} {c : mC} (h_c : Kp sA c0 c) : pp (fun p : mC => Kp sA c0 p) (P_X0_watch c) :=
  (pp_if (fun _ => (pp_bd (fun v1 => (pp_bd (fun v2 => (ka_J_X0_watch_22 h_c)))))) (fun _ => (ka_J_X0_watch_22 h_c)))
theorem ka_J_X0_passTick_82 {c0 : mC} {c : mC} (h_c : Kp sA c0 c) : pp (fun p : mC => Kp sA c0 p) (J_X0_passTick_82 c) :=
  (pp_bo (P := Kp sA c0) (ka_P_X0_watch h_c) (fun v2 h1 => (pp_bd (fun v3 => (Kp.w h1 rfl)))))
theorem ka_J_X0_passTick_58 {c0 : mC} {c : mC} (h_c : Kp sA c0 c) : pp (fun p : mC => Kp sA c0 p) (J_X0_passTick_58 c) :=
  (pp_bo (P := Kp sA c0) (ka_P_X0_turnGreen (show 8 ≤ 8 by decide) (show 8 ≤ 9 by decide) h_c) (fun v2 h1 => (pp_bo (P := Kp sA c0) (ka_P_X0_turnGreen (show 8 ≤ 9 by decide) (show 8 ≤ 8 by decide) h1) (fun v4 h3 => (ka_J_X0_passTick_82 h3)))))
theorem ka_J_X2_putMark_57 {c0 : mC} {c : mC} (h_c : Kp sA c0 c) {s1 : Int32} {s2 : Int32} {s3 : Int32} : pp (fun p : mC => Kp sA c0 p) (J_X2_putMark_57 c s1 s2 s3) :=
  (pp_bd (fun v1 => (Kp.w h_c rfl)))
theorem ka_J_X2_putMark_35 {c0 : mC} {c : mC} (h_c : Kp sA c0 c) {x1 : Int32} {x3 : Int32} {s1 : Int32} {s2 : Int32} {s3 : Int32} : pp (fun p : mC => Kp sA c0 p) (J_X2_putMark_35 c x1 x3 s1 s2 s3) :=
  (pp_bd (fun v1 => (pp_if (fun _ => (ka_J_X2_putMark_57 (Kp.w h_c rfl))) (fun _ => (ka_J_X2_putMark_57 (Kp.w h_c rfl))))))
theorem ka_J_X2_putMark_86 {c0 : mC} {c : mC} (h_c : Kp sA c0 c) {s1 : Int32} {s2 : Int32} {s3 : Int32} : pp (fun p : mC => Kp sA c0 p) (J_X2_putMark_86 c s1 s2 s3) :=
  (pp_bd (fun v1 => (Kp.w h_c rfl)))
theorem ka_J_X2_addPhase_79 {c0 : mC} {c : mC} (h_c : Kp sA c0 c) {x1 : Int32} {x2 : Int32} {x3 : Int32} : pp2 (fun s : Int32 × mC => Kp sA c0 s.2) (fun p : mC => Kp sA c0 p) (J_X2_addPhase_79 c x1 x2 x3) :=
  (pp2_l h_c)
theorem ka_P_X2_putBreak {c0 : mC} {c : mC} (h_c : Kp sA c0 c) {x1 : Int32} {x2 : Int32} {x3 : Int32} : pp (fun p : mC => Kp sA c0 p) (P_X2_putBreak c x1 x2 x3) :=
  (pp_bo (P := Kp sA c0) (Kp.pu h_c (fun _ => rfl)) (fun v2 h1 => h1))
theorem ka_J_X5_call_79 {g0 : mG} {g : mG} (h_g : Md sA g0 g) {x1 : Int32} {x2 : Int32} : pp (fun p : Int32 × mG => Md sA g0 p.2) (J_X5_call_79 g x1 x2) :=
  (pp_if (fun _ => (pp_if (fun _ => (pp_bo (P := Md sA g0) (Md.u0 h_g (ka_P_X0_takeCall (Md.k h_g))) (fun v2 h1 => (kl_J_X5_call_127 h1)))) (fun _ => (pp_bd (fun v3 => (kl_J_X5_call_127 (Md.u0 h_g (Kp.w (Md.k h_g) rfl)))))))) (fun _ => (pp_bo (kl_P_X5_deny h_g) (fun v5 h4 => h4))))
theorem ka_J_X5_call_41 {g0 : mG} {g : mG} (h_g : Md sA g0 g) {x1 : Int32} {x2 : Int32} {s0 : Int32} : pp (fun p : Int32 × mG => Md sA g0 p.2) (J_X5_call_41 g x1 x2 s0) :=
  (pp_bd (fun v1 => (pp_if (fun _ => (pp_if (fun _ => (ka_J_X5_call_79 h_g)) (fun _ => (pp_bd (fun v2 => (pp_if (fun _ => (pp_bo (kl_P_X5_deny h_g) (fun v4 h3 => h3))) (fun _ => (ka_J_X5_call_79 h_g)))))))) (fun _ => (pp_bo (kl_P_X5_deny h_g) (fun v6 h5 => h5))))))
theorem ka_P_X5_call {g0 : mG} {g : mG} (h_g : Md sA g0 g) {x1 : Int32} {x2 : Int32} : pp (fun p : Int32 × mG => Md sA g0 p.2) (P_X5_call g x1 x2) :=
  (pp_bd (fun v1 => (pp_if (fun _ => (pp_bo (kl_P_X5_deny h_g) (fun v3 h2 => h2))) (fun _ => (pp_if (fun _ => (ka_J_X5_call_41 h_g)) (fun _ => (ka_J_X5_call_41 h_g)))))))
theorem ka_P_X5_come {g0 : mG} {g : mG} (h_g : Md sA g0 g) {x1 : Int32} {x2 : Int32} : pp (fun p : Int32 × mG => Md sA g0 p.2) (P_X5_come g x1 x2) :=
  (pp_if (fun _ => (kl_J_X5_come_11 h_g)) (fun _ => (pp_if (fun _ => (pp_bd (fun v1 => (pp_if (fun _ => (pp_bo (kl_P_X5_refuse h_g) (fun v3 h2 => h2))) (fun _ => (pp_bd (fun v4 => (pp_if (fun _ => (pp_bo (P := Md sA g0) (Md.u0 h_g (ka_P_X0_putQueue (Md.k h_g))) (fun v6 h5 => (pp_bo (kl_P_X5_answer h5) (fun v8 h7 => h7))))) (fun _ => (pp_bo (kl_P_X5_refuse h_g) (fun v10 h9 => h9))))))))))) (fun _ => (kl_J_X5_come_11 h_g)))))
theorem ka_P_X5_brakes {g0 : mG} {g : mG} (h_g : Md sA g0 g) {x1 : Int32} {x2 : Int32} {x3 : Int32} {x4 : Int32} {x5 : Int32} {x6 : Int32} : pp (fun p : Int32 × mG => Md sA g0 p.2) (P_X5_brakes g x1 x2 x3 x4 x5 x6) :=
  (pp_bd (fun v1 => (pp_if (fun _ => (kl_J_X5_brakes_56 h_g)) (fun _ => (pp_bd (fun v2 => (pp_if (fun _ => (kl_J_X5_brakes_56 h_g)) (fun _ => (pp_bd (fun v3 => (pp_if (fun _ => (kl_J_X5_brakes_56 h_g)) (fun _ => (pp_bd (fun v4 => (pp_if (fun _ => (kl_J_X5_brakes_56 h_g)) (fun _ => (pp_if (fun _ => (kl_J_X5_brakes_56 h_g)) (fun _ => (pp_if (fun _ => (pp_bd (fun v5 => (pp_if (fun _ => (pp_bo (kl_P_X5_deny h_g) (fun v7 h6 => h6))) (fun _ => (pp_if (fun _ => (pp_bo (kl_P_X5_deny h_g) (fun v9 h8 => h8))) (fun _ => (pp_bd (fun v10 => (pp_if (fun _ => (pp_bd (fun v11 => (pp_if (fun _ => (pp_bo (P := Md sA g0) (Md.u0 h_g (ka_P_X2_putBreak (Md.k h_g))) (fun v13 h12 => (pp_bo (P := Md sA g0) (Md.u0 h12 (ka_P_X2_putBreak (Md.k h12))) (fun v15 h14 => (pp_bo (P := Md sA g0) (Md.u0 h14 (ka_P_X2_putBreak (Md.k h14))) (fun v17 h16 => (pp_bo (P := Md sA g0) (Md.u0 h16 (ka_P_X2_putBreak (Md.k h16))) (fun v19 h18 => (pp_bo (P := Md sA g0) (Md.u0 h18 (ka_P_X2_putBreak (Md.k h18))) (fun v21 h20 => (pp_bo (kl_P_X5_grant h20) (fun v23 h22 => h22))))))))))))) (fun _ => (kl_J_X5_brakes_121 h_g)))))) (fun _ => (kl_J_X5_brakes_121 h_g)))))))))))) (fun _ => (kl_J_X5_brakes_56 h_g)))))))))))))))))))))
theorem ka_P_X5_reset {g0 : mG} {g : mG} (h_g : Md sA g0 g) : pp (fun p : Int32 × mG => Md sA g0 p.2) (P_X5_reset g) :=
  (pp_if (fun _ => (pp_bo (kl_P_X5_deny h_g) (fun v2 h1 => h1))) (fun _ => (pp_bo (P := Md sA g0) (Md.u0 (Md.u0 h_g (Kp.w (Md.k h_g) rfl)) (ka_P_X0_startRings (Md.k (Md.u0 h_g (Kp.w (Md.k h_g) rfl))))) (fun v4 h3 => (pp_bo (P := Md sA g0) (Md.u0 h3 (ka_P_X1_note (Md.k h3))) (fun v6 h5 => (pp_bo (kl_P_X5_grant h5) (fun v8 h7 => h7))))))))
