/-! What the class leaves of CYCLE and CLOCK -/
def sD (j k : Nat) : Bool := (Nat.beq j 1 && Nat.beq k 1) || (Nat.beq j 0 && Nat.beq k 13)
theorem sD_r {r k : Nat} (h : 8 ≤ r) : sD r k = false := by
  unfold sD
  rw [show Nat.beq r 1 = false from by
    cases z : Nat.beq r 1 with
    | false => rfl
    | true => exact absurd (Nat.eq_of_beq_eq_true z) (by omega), show Nat.beq r 0 = false from by
    cases z : Nat.beq r 0 with
    | false => rfl
    | true => exact absurd (Nat.eq_of_beq_eq_true z) (by omega), Bool.false_and, Bool.false_and]
  rfl
theorem kd_P_X4_takeFrom {c0 : mC} {r : Nat} (h_r : 8 ≤ r) {c : mC} (h_c : Kp sD c0 c) {co : mC} : pp (fun p : mC => Kp sD c0 p) (P_X4_takeFrom r c co) :=
  (Kp.w (Kp.w (Kp.w (Kp.w (Kp.w (Kp.w (Kp.w (Kp.w h_c (sD_r h_r)) (sD_r h_r)) (sD_r h_r)) (sD_r h_r)) (sD_r h_r)) (sD_r h_r)) (sD_r h_r)) (sD_r h_r))
theorem kd_P_X1_takeFrom {c0 : mC} {c : mC} (h_c : Kp sD c0 c) {co : mC} : pp (fun p : mC => Kp sD c0 p) (P_X1_takeFrom c co) :=
  (pp_bo (P := Kp sD c0) (Kp.cp (Kp.w (Kp.w h_c rfl) rfl) (fun _ => rfl)) (fun v2 h1 => (pp_bo (P := Kp sD c0) (Kp.cp h1 (fun _ => rfl)) (fun v4 h3 => (pp_bo (P := Kp sD c0) (Kp.cp h3 (fun _ => rfl)) (fun v6 h5 => h5))))))
theorem kd_P_X1_wipe {c0 : mC} {c : mC} (h_c : Kp sD c0 c) : pp (fun p : mC => Kp sD c0 p) (P_X1_wipe c) :=
  (Kp.w (Kp.w h_c rfl) rfl)
theorem kd_P_X4_waitFor {c0 : mC} {r : Nat} (h_r : 8 ≤ r) {c : mC} (h_c : Kp sD c0 c) {x1 : Int32} : pp (fun p : mC => Kp sD c0 p) (P_X4_waitFor r c x1) :=
  (Kp.w (Kp.w (Kp.w (Kp.w h_c (sD_r h_r)) (sD_r h_r)) (sD_r h_r)) (sD_r h_r))
theorem kd_J_X4_walkOn_39 {c0 : mC} {r : Nat} (h_r : 8 ≤ r) {c : mC} (h_c : Kp sD c0 c) {x2 : Int32} : pp (fun p : mC => Kp sD c0 p) (J_X4_walkOn_39 r c x2) :=
  (pp_if (fun _ => (pp_if (fun _ => h_c) (fun _ => (Kp.w h_c (sD_r h_r))))) (fun _ => h_c))
theorem kd_J_X4_walkOn_18 {c0 : mC} {r : Nat} (h_r : 8 ≤ r) {c : mC} (h_c : Kp sD c0 c) {x1 : Int32} {x2 : Int32} : pp (fun p : mC => Kp sD c0 p) (J_X4_walkOn_18 r c x1 x2) :=
  (pp_if (fun _ => (pp_if (fun _ => (kd_J_X4_walkOn_39 h_r h_c)) (fun _ => (kd_J_X4_walkOn_39 h_r (Kp.w h_c (sD_r h_r)))))) (fun _ => (kd_J_X4_walkOn_39 h_r h_c)))
theorem kd_P_X4_walkOn {c0 : mC} {r : Nat} (h_r : 8 ≤ r) {c : mC} (h_c : Kp sD c0 c) {x1 : Int32} {x2 : Int32} : pp (fun p : mC => Kp sD c0 p) (P_X4_walkOn r c x1 x2) :=
  (pp_if (fun _ => (kd_J_X4_walkOn_18 h_r (Kp.w h_c (sD_r h_r)))) (fun _ => (kd_J_X4_walkOn_18 h_r h_c)))
theorem kd_J_X4_growDark_26 {c0 : mC} {r : Nat} (h_r : 8 ≤ r) {c : mC} (h_c : Kp sD c0 c) {x2 : Int32} : pp (fun p : mC => Kp sD c0 p) (J_X4_growDark_26 r c x2) :=
  (pp_if (fun _ => (pp_if (fun _ => h_c) (fun _ => (pp_bo (P := Kp sD c0) (kd_P_X4_waitFor h_r h_c) (fun v2 h1 => h1))))) (fun _ => h_c))
theorem kd_P_X4_growDark {c0 : mC} {r : Nat} (h_r : 8 ≤ r) {c : mC} (h_c : Kp sD c0 c) {x1 : Int32} {x2 : Int32} : pp (fun p : mC => Kp sD c0 p) (P_X4_growDark r c x1 x2) :=
  (pp_if (fun _ => (pp_if (fun _ => (kd_J_X4_growDark_26 h_r h_c)) (fun _ => (kd_J_X4_growDark_26 h_r (Kp.w (Kp.w h_c (sD_r h_r)) (sD_r h_r)))))) (fun _ => (kd_J_X4_growDark_26 h_r h_c)))
theorem kd_J_X1_note_46 {c0 : mC} {c : mC} (h_c : Kp sD c0 c) : pp (fun p : mC => Kp sD c0 p) (J_X1_note_46 c) :=
  (pp_bd (fun v1 => (Kp.w (Kp.w h_c rfl) rfl)))
theorem kd_P_X1_note {c0 : mC} {c : mC} (h_c : Kp sD c0 c) {x1 : Int32} {x2 : Int32} {x3 : Int32} : pp (fun p : mC => Kp sD c0 p) (P_X1_note c x1 x2 x3) :=
  (pp_if (fun _ => (kd_J_X1_note_46 h_c)) (fun _ => (pp_if (fun _ => (kd_J_X1_note_46 h_c)) (fun _ => (kd_J_X1_note_46 (Kp.w (Kp.w (Kp.w h_c rfl) rfl) rfl))))))
theorem kd_P_X4_turnYellow {c0 : mC} {r : Nat} (h_r : 8 ≤ r) {c : mC} (h_c : Kp sD c0 c) {x1 : Int32} : pp (fun p : mC => Kp sD c0 p) (P_X4_turnYellow r c x1) :=
  (Kp.w (Kp.w (Kp.w (Kp.w h_c (sD_r h_r)) (sD_r h_r)) (sD_r h_r)) (sD_r h_r))
theorem kd_J_X4_turnGreen_45 {c0 : mC} {r : Nat} (h_r : 8 ≤ r) {c : mC} (h_c : Kp sD c0 c) {s1 : Int32} : pp (fun p : mC => Kp sD c0 p) (J_X4_turnGreen_45 r c s1) :=
  (Kp.w h_c (sD_r h_r))
theorem kd_P_X4_turnGreen {c0 : mC} {r : Nat} (h_r : 8 ≤ r) {c : mC} (h_c : Kp sD c0 c) {x1 : Int32} {x2 : Int32} : pp (fun p : mC => Kp sD c0 p) (P_X4_turnGreen r c x1 x2) :=
  (pp_if (fun _ => (kd_J_X4_turnGreen_45 h_r (Kp.w (Kp.w (Kp.w (Kp.w (Kp.w (Kp.w (Kp.w h_c (sD_r h_r)) (sD_r h_r)) (sD_r h_r)) (sD_r h_r)) (sD_r h_r)) (sD_r h_r)) (sD_r h_r)))) (fun _ => (kd_J_X4_turnGreen_45 h_r (Kp.w (Kp.w (Kp.w (Kp.w (Kp.w (Kp.w (Kp.w h_c (sD_r h_r)) (sD_r h_r)) (sD_r h_r)) (sD_r h_r)) (sD_r h_r)) (sD_r h_r)) (sD_r h_r)))))
theorem kd_P_X0_dropBreak {c0 : mC} {c : mC} (h_c : Kp sD c0 c) : pp (fun p : mC => Kp sD c0 p) (P_X0_dropBreak c) :=
  (Kp.w (Kp.w (Kp.w h_c rfl) rfl) rfl)
theorem kd_J_X0_startRings_27 {c0 : mC} {c : mC} (h_c : Kp sD c0 c) {s0 : Int32} : pp (fun p : mC => Kp sD c0 p) (J_X0_startRings_27 c s0) :=
  (pp_bd (fun v1 => (pp_bd (fun v2 => (pp_bo (P := Kp sD c0) (kd_P_X4_waitFor (show 8 ≤ 8 by decide) h_c) (fun v4 h3 => (pp_bd (fun v5 => (pp_bd (fun v6 => (pp_bo (P := Kp sD c0) (kd_P_X4_waitFor (show 8 ≤ 9 by decide) h3) (fun v8 h7 => h7))))))))))))
theorem kd_P_X0_startRings {c0 : mC} {c : mC} (h_c : Kp sD c0 c) : pp (fun p : mC => Kp sD c0 p) (P_X0_startRings c) :=
  (pp_bd (fun v1 => (pp_bd (fun v2 => (pp_if (fun _ => (kd_J_X0_startRings_27 h_c)) (fun _ => (kd_J_X0_startRings_27 h_c)))))))
theorem kd_J_X0_putQueue_24 {c0 : mC} {c : mC} (h_c : Kp sD c0 c) {s1 : Int32} {s2 : Int32} {s3 : Int32} : pp (fun p : mC => Kp sD c0 p) (J_X0_putQueue_24 c s1 s2 s3) :=
  (pp_bd (fun v1 => (Kp.w h_c rfl)))
theorem kd_P_X0_putQueue {c0 : mC} {c : mC} (h_c : Kp sD c0 c) {x1 : Int32} {x2 : Int32} : pp (fun p : mC => Kp sD c0 p) (P_X0_putQueue c x1 x2) :=
  (pp_bo (P := Kp sD c0) (Kp.pu h_c (fun _ => rfl)) (fun v2 h1 => (pp_if (fun _ => (kd_J_X0_putQueue_24 h1)) (fun _ => (kd_J_X0_putQueue_24 h1)))))
theorem kd_P_X0_takeCall {c0 : mC} {c : mC} (h_c : Kp sD c0 c) {x1 : Int32} : pp (fun p : mC => Kp sD c0 p) (P_X0_takeCall c x1) :=
  (pp_bd (fun v1 => (pp_if (fun _ => (pp_bd (fun v2 => (Kp.w h_c rfl)))) (fun _ => (pp_bd (fun v3 => (Kp.w h_c rfl)))))))
theorem kd_J_X0_callOthers_23 {c0 : mC} {c : mC} (h_c : Kp sD c0 c) {x1 : Int32} {x2 : Int32} : pp2 (fun s : Int32 × mC => Kp sD c0 s.2) (fun p : mC => Kp sD c0 p) (J_X0_callOthers_23 c x1 x2) :=
  (pp2_l h_c)
theorem kd_B_X0_callOthers_2 {c0 : mC} {x1 : Int32} : ∀ s : Int32 × mC, (fun s : Int32 × mC => Kp sD c0 s.2) s → pp2 (fun s : Int32 × mC => Kp sD c0 s.2) (fun p : mC => Kp sD c0 p) (B_X0_callOthers_2 x1 s) := by
  rintro ⟨x2, c⟩ h_s
  unfold B_X0_callOthers_2
  dsimp only
  exact (pp2_if (fun _ => (pp2_r h_s)) (fun _ => (pp2_if (fun _ => (kd_J_X0_callOthers_23 h_s)) (fun _ => (pp2_bo (P := Kp sD c0) (kd_P_X0_takeCall h_s) (fun v2 h1 => (kd_J_X0_callOthers_23 h1)))))))
theorem kd_P_X0_callOthers {c0 : mC} {c : mC} (h_c : Kp sD c0 c) {x1 : Int32} : pp (fun p : mC => Kp sD c0 p) (P_X0_callOthers c x1) :=
  (pp_wh (fun s : Int32 × mC => Kp sD c0 s.2) tm_X0_callOthers_2 kd_B_X0_callOthers_2 h_c)
theorem kd_J_X0_takeComers_85 {c0 : mC} {c : mC} (h_c : Kp sD c0 c) {x4 : Int32} {x2 : Int64} : pp2 (fun s : Int64 × Int32 × mC => Kp sD c0 s.2.2) (fun p : Int32 × mC => Kp sD c0 p.2) (J_X0_takeComers_85 c x4 x2) :=
  (pp2_l h_c)
theorem kd_B_X0_takeComers_6 {c0 : mC}  : ∀ s : Int64 × Int32 × mC, (fun s : Int64 × Int32 × mC => Kp sD c0 s.2.2) s → pp2 (fun s : Int64 × Int32 × mC => Kp sD c0 s.2.2) (fun p : Int32 × mC => Kp sD c0 p.2) (B_X0_takeComers_6 s) := by
  rintro ⟨x2, x4, c⟩ h_s
  unfold B_X0_takeComers_6
  dsimp only
  exact (pp2_if (fun _ => (pp2_r h_s)) (fun _ => (pp2_bd (fun v1 => (pp2_bd (fun v2 => (pp2_if (fun _ => (kd_J_X0_takeComers_85 h_s)) (fun _ => (pp2_if (fun _ => (kd_J_X0_takeComers_85 h_s)) (fun _ => (pp2_bo (P := Kp sD c0) (kd_P_X0_putQueue h_s) (fun v4 h3 => (kd_J_X0_takeComers_85 h3)))))))))))))
theorem kd_P_X0_takeComers {c0 : mC} {c : mC} (h_c : Kp sD c0 c) {x1 : Int32} : pp (fun p : Int32 × mC => Kp sD c0 p.2) (P_X0_takeComers c x1) :=
  (pp_wh (fun s : Int64 × Int32 × mC => Kp sD c0 s.2.2) tm_X0_takeComers_6 kd_B_X0_takeComers_6 h_c)
theorem kd_J_X0_ageGreen_99 {c0 : mC} {r : Nat} (h_r : 8 ≤ r) {c : mC} (h_c : Kp sD c0 c) {x2 : Int32} : pp (fun p : mC => Kp sD c0 p) (J_X0_ageGreen_99 r c x2) :=
  (pp_bd (fun v1 => (pp_bd (fun v2 => (pp_bo (P := Kp sD c0) (kd_P_X4_walkOn h_r h_c) (fun v4 h3 => h3))))))
theorem kd_J_X0_ageGreen_73 {c0 : mC} {r : Nat} (h_r : 8 ≤ r) {c : mC} (h_c : Kp sD c0 c) {x2 : Int32} : pp (fun p : mC => Kp sD c0 p) (J_X0_ageGreen_73 r c x2) :=
  (pp_bd (fun v1 => (pp_bd (fun v2 => (pp_if (fun _ => (kd_J_X0_ageGreen_99 h_r h_c)) (fun _ => (kd_J_X0_ageGreen_99 h_r (Kp.w h_c (sD_r h_r)))))))))
theorem kd_J_X0_ageGreen_40 {c0 : mC} {r : Nat} (h_r : 8 ≤ r) {c : mC} (h_c : Kp sD c0 c) {x2 : Int32} {x3 : Int32} {s1 : Int32} : pp (fun p : mC => Kp sD c0 p) (J_X0_ageGreen_40 r c x2 x3 s1) :=
  (pp_if (fun _ => (kd_J_X0_ageGreen_73 h_r (Kp.w h_c (sD_r h_r)))) (fun _ => (pp_bo (P := Kp sD c0) (kd_P_X0_putQueue (Kp.w h_c (sD_r h_r))) (fun v2 h1 => (pp_bd (fun v3 => (pp_bo (P := Kp sD c0) (Kp.pu h1 (fun _ => rfl)) (fun v5 h4 => (kd_J_X0_ageGreen_73 h_r h4)))))))))
theorem kd_J_X0_ageGreen_30 {c0 : mC} {r : Nat} (h_r : 8 ≤ r) {c : mC} (h_c : Kp sD c0 c) {x2 : Int32} {x3 : Int32} : pp (fun p : mC => Kp sD c0 p) (J_X0_ageGreen_30 r c x2 x3) :=
  (kd_J_X0_ageGreen_40 h_r h_c)
theorem kd_P_X0_ageGreen {c0 : mC} {r : Nat} (h_r : 8 ≤ r) {c : mC} (h_c : Kp sD c0 c) : pp (fun p : mC => Kp sD c0 p) (P_X0_ageGreen r c) :=
  (pp_bd (fun v1 => (pp_if (fun _ => (kd_J_X0_ageGreen_30 h_r h_c)) (fun _ => (pp_bd (fun v2 => (pp_if (fun _ => (kd_J_X0_ageGreen_40 h_r h_c)) (fun _ => (kd_J_X0_ageGreen_30 h_r h_c)))))))))
theorem kd_P_X0_ageRing {c0 : mC} {r : Nat} (h_r : 8 ≤ r) {c : mC} (h_c : Kp sD c0 c) : pp (fun p : mC => Kp sD c0 p) (P_X0_ageRing r c) :=
  (pp_bd (fun v1 => (pp_if (fun _ => h_c) (fun _ => (pp_bd (fun v2 => (pp_if (fun _ => (pp_bd (fun v3 => (pp_bd (fun v4 => (pp_bo (P := Kp sD c0) (kd_P_X4_growDark h_r (Kp.w h_c (sD_r h_r))) (fun v6 h5 => h5))))))) (fun _ => (pp_bo (P := Kp sD c0) (kd_P_X0_ageGreen h_r (Kp.w h_c (sD_r h_r))) (fun v8 h7 => h7))))))))))
theorem kd_J_X0_beginBreak_23 {c0 : mC} {c : mC} (h_c : Kp sD c0 c) {x1 : Int32} {s1 : Int32} : pp (fun p : mC => Kp sD c0 p) (J_X0_beginBreak_23 c x1 s1) :=
  (pp_bo (P := Kp sD c0) (kd_P_X1_note (Kp.w (Kp.w h_c rfl) rfl)) (fun v2 h1 => h1))
theorem kd_P_X0_beginBreak {c0 : mC} {c : mC} (h_c : Kp sD c0 c) {x1 : Int32} : pp (fun p : mC => Kp sD c0 p) (P_X0_beginBreak c x1) :=
  (pp_bd (fun v1 => (pp_if (fun _ => (kd_J_X0_beginBreak_23 (Kp.w h_c rfl))) (fun _ => (kd_J_X0_beginBreak_23 (Kp.w h_c rfl))))))
theorem kd_P_X0_beginWanted {c0 : mC} {c : mC} (h_c : Kp sD c0 c) : pp (fun p : mC => Kp sD c0 p) (P_X0_beginWanted c) :=
  (pp_bd (fun v1 => (pp_if (fun _ => (pp_bd (fun v2 => (pp_if (fun _ => h_c) (fun _ => (pp_bo (P := Kp sD c0) (kd_P_X0_beginBreak h_c) (fun v4 h3 => h3))))))) (fun _ => (pp_bo (P := Kp sD c0) (kd_P_X0_beginBreak h_c) (fun v6 h5 => h5))))))
theorem kd_P_X0_goTo {c0 : mC} {r : Nat} (h_r : 8 ≤ r) {c : mC} (h_c : Kp sD c0 c) {x2 : Int32} : pp (fun p : mC => Kp sD c0 p) (P_X0_goTo r c x2) :=
  (pp_bd (fun v1 => (pp_if (fun _ => (Kp.w h_c (sD_r h_r))) (fun _ => (pp_bo (P := Kp sD c0) (kd_P_X1_note h_c) (fun v3 h2 => (pp_bo (P := Kp sD c0) (kd_P_X4_turnYellow h_r h2) (fun v5 h4 => h4))))))))
theorem kd_J_X0_steer_66 {c0 : mC} {r : Nat} (h_r : 8 ≤ r) {c : mC} (h_c : Kp sD c0 c) {x2 : Int32} : pp (fun p : mC => Kp sD c0 p) (J_X0_steer_66 r c x2) :=
  (pp_bo (P := Kp sD c0) (kd_P_X0_goTo h_r h_c) (fun v2 h1 => h1))
theorem kd_J_X0_steer_40 {c0 : mC} {r : Nat} (h_r : 8 ≤ r) {c : mC} (h_c : Kp sD c0 c) {x2 : Int32} : pp (fun p : mC => Kp sD c0 p) (J_X0_steer_40 r c x2) :=
  (pp_if (fun _ => (kd_J_X0_steer_66 h_r h_c)) (fun _ => (pp_bd (fun v1 => (pp_if (fun _ => h_c) (fun _ => (kd_J_X0_steer_66 h_r h_c)))))))
theorem kd_P_X0_steer {c0 : mC} {r : Nat} (h_r : 8 ≤ r) {c : mC} (h_c : Kp sD c0 c) {x2 : Int32} : pp (fun p : mC => Kp sD c0 p) (P_X0_steer r c x2) :=
  (pp_bd (fun v1 => (pp_if (fun _ => (Kp.w h_c (sD_r h_r))) (fun _ => (pp_if (fun _ => h_c) (fun _ => (pp_if (fun _ => (kd_J_X0_steer_40 h_r (Kp.w (Kp.w h_c (sD_r h_r)) (sD_r h_r)))) (fun _ => (kd_J_X0_steer_40 h_r h_c)))))))))
theorem kd_P_X0_turnGreen {c0 : mC} {r : Nat} (h_r : 8 ≤ r) {p2 : Nat} (h_p2 : 8 ≤ p2) {c : mC} (h_c : Kp sD c0 c) : pp (fun p : mC => Kp sD c0 p) (P_X0_turnGreen r p2 c) :=
  (pp_if (fun _ => (pp_if (fun _ => h_c) (fun _ => (pp_bd (fun v1 => (pp_bd (fun v2 => (pp_if (fun _ => (pp_bd (fun v3 => (pp_bd (fun v4 => (pp_bo (P := Kp sD c0) (kd_P_X4_turnGreen h_r h_c) (fun v6 h5 => (pp_bd (fun v7 => (pp_bd (fun v8 => (pp_bo (P := Kp sD c0) (kd_P_X1_note (Kp.w (Kp.w h5 rfl) rfl)) (fun v10 h9 => h9))))))))))))) (fun _ => h_c))))))))) (fun _ => h_c))
theorem kd_P_X0_seek {c0 : mC} {c : mC} (h_c : Kp sD c0 c) {x1 : Int32} : pp (fun p : mC => Kp sD c0 p) (P_X0_seek c x1) :=
  (pp_bd (fun v1 => (pp_bd (fun v2 => (pp_bd (fun v3 => (pp_bd (fun v4 => (pp_bd (fun v5 => (pp_bd (fun v6 => (pp_bo (P := Kp sD c0) (kd_P_X0_steer (show 8 ≤ 8 by decide) h_c) (fun v8 h7 => (pp_bo (P := Kp sD c0) (kd_P_X0_steer (show 8 ≤ 9 by decide) h7) (fun v10 h9 => (pp_bo (P := Kp sD c0) (kd_P_X0_turnGreen (show 8 ≤ 8 by decide) (show 8 ≤ 9 by decide) h9) (fun v12 h11 => (pp_bo (P := Kp sD c0) (kd_P_X0_turnGreen (show 8 ≤ 9 by decide) (show 8 ≤ 8 by decide) h11) (fun v14 h13 => (pp_bd (fun v15 => (pp_if (fun _ => h13) (fun _ => (pp_bd (fun v16 => (pp_if (fun _ => h13) (fun _ => (Kp.w (Kp.w h13 rfl) rfl)))))))))))))))))))))))))))))
theorem kd_P_X0_stayOnTrack {c0 : mC} {c : mC} (h_c : Kp sD c0 c) : pp (fun p : mC => Kp sD c0 p) (P_X0_stayOnTrack c) :=
  (pp_bd (fun v1 => (pp_if (fun _ => (Kp.w h_c rfl)) (fun _ => (Kp.w (Kp.w (Kp.w h_c rfl) rfl) rfl)))))
theorem kd_J_X0_resume_92 {c0 : mC} {c : mC} (h_c : Kp sD c0 c) {x1 : Int32} : pp (fun p : mC => Kp sD c0 p) (J_X0_resume_92 c x1) :=
  (pp_bd (fun v1 => (pp_if (fun _ => (pp_bd (fun v2 => (pp_bd (fun v3 => (Kp.w h_c rfl)))))) (fun _ => h_c))))
theorem kd_J_X0_resume_59 {c0 : mC} {c : mC} (h_c : Kp sD c0 c) {s1 : Int32} : pp (fun p : mC => Kp sD c0 p) (J_X0_resume_59 c s1) :=
  (pp_bd (fun v1 => (pp_bd (fun v2 => (pp_if (fun _ => (pp_bd (fun v3 => (pp_bd (fun v4 => (kd_J_X0_resume_92 (Kp.w h_c rfl))))))) (fun _ => (kd_J_X0_resume_92 h_c)))))))
theorem kd_J_X0_resume_25 {c0 : mC} {c : mC} (h_c : Kp sD c0 c) : pp (fun p : mC => Kp sD c0 p) (J_X0_resume_25 c) :=
  (pp_bd (fun v1 => (pp_if (fun _ => (kd_J_X0_resume_59 h_c)) (fun _ => (kd_J_X0_resume_59 h_c)))))
theorem kd_P_X0_resume {c0 : mC} {c : mC} (h_c : Kp sD c0 c) : pp (fun p : mC => Kp sD c0 p) (P_X0_resume c) :=
  (pp_bd (fun v1 => (pp_if (fun _ => (pp_bd (fun v2 => (pp_if (fun _ => (pp_bo (P := Kp sD c0) (kd_P_X0_startRings h_c) (fun v4 h3 => h3))) (fun _ => (kd_J_X0_resume_25 h_c)))))) (fun _ => (kd_J_X0_resume_25 h_c)))))
theorem kd_P_X0_stayOnDwell {c0 : mC} {c : mC} (h_c : Kp sD c0 c) : pp (fun p : mC => Kp sD c0 p) (P_X0_stayOnDwell c) :=
  (pp_bd (fun v1 => (pp_if (fun _ => (Kp.w h_c rfl)) (fun _ => (pp_bd (fun v2 => (pp_if (fun _ => (pp_bo (P := Kp sD c0) (kd_P_X1_note (Kp.w h_c rfl)) (fun v4 h3 => (pp_bo (P := Kp sD c0) (kd_P_X0_dropBreak h3) (fun v6 h5 => (pp_bo (P := Kp sD c0) (kd_P_X0_resume h5) (fun v8 h7 => h7))))))) (fun _ => (Kp.w h_c rfl)))))))))
theorem kd_J_X0_moveBreaks_52 {c0 : mC} {c : mC} (h_c : Kp sD c0 c) : pp (fun p : mC => Kp sD c0 p) (J_X0_moveBreaks_52 c) :=
  (pp_if (fun _ => (pp_bd (fun v1 => (pp_bo (P := Kp sD c0) (kd_P_X0_seek h_c) (fun v3 h2 => h2))))) (fun _ => (pp_if (fun _ => (pp_bo (P := Kp sD c0) (kd_P_X0_stayOnTrack h_c) (fun v5 h4 => h4))) (fun _ => (pp_if (fun _ => (pp_bd (fun v6 => (pp_bo (P := Kp sD c0) (kd_P_X0_seek h_c) (fun v8 h7 => h7))))) (fun _ => (pp_if (fun _ => (pp_bo (P := Kp sD c0) (kd_P_X0_stayOnDwell h_c) (fun v10 h9 => h9))) (fun _ => h_c))))))))
theorem kd_P_X0_moveBreaks {c0 : mC} {c : mC} (h_c : Kp sD c0 c) : pp (fun p : mC => Kp sD c0 p) (P_X0_moveBreaks c) :=
  (pp_if (fun _ => (pp_bo (P := Kp sD c0) (kd_P_X0_beginWanted h_c) (fun v2 h1 => (kd_J_X0_moveBreaks_52 h1)))) (fun _ => (pp_if (fun _ => (pp_bd (fun v3 => (pp_if (fun _ => (kd_J_X0_moveBreaks_52 h_c)) (fun _ => (pp_bo (P := Kp sD c0) (kd_P_X1_note h_c) (fun v5 h4 => (pp_bo (P := Kp sD c0) (kd_P_X0_beginBreak h4) (fun v7 h6 => (kd_J_X0_moveBreaks_52 h6)))))))))) (fun _ => (kd_J_X0_moveBreaks_52 h_c)))))
theorem kd_P_X0_leaveToNext {c0 : mC} {r : Nat} (h_r : 8 ≤ r) {c : mC} (h_c : Kp sD c0 c) {x2 : Int32} : pp (fun p : Int32 × mC => Kp sD c0 p.2) (P_X0_leaveToNext r c x2) :=
  (pp_bd (fun v1 => (pp_bd (fun v2 => (pp_bd (fun v3 => (pp_bd (fun v4 => (pp_if (fun _ => h_c) (fun _ => (pp_bo (P := Kp sD c0) (kd_P_X0_goTo h_r h_c) (fun v6 h5 => h5))))))))))))
theorem kd_J_X0_crossOver_15 {c0 : mC} {r : Nat} (h_r : 8 ≤ r) {c : mC} (h_c : Kp sD c0 c) {s2 : Int32} : pp (fun p : mC => Kp sD c0 p) (J_X0_crossOver_15 r c s2) :=
  (pp_bd (fun v1 => (pp_bo (P := Kp sD c0) (kd_P_X0_goTo h_r h_c) (fun v3 h2 => h2))))
theorem kd_P_X0_crossOver {c0 : mC} {r : Nat} (h_r : 8 ≤ r) {c : mC} (h_c : Kp sD c0 c) {x2 : Int32} {x3 : Int32} : pp (fun p : mC => Kp sD c0 p) (P_X0_crossOver r c x2 x3) :=
  (pp_if (fun _ => (kd_J_X0_crossOver_15 h_r h_c)) (fun _ => (kd_J_X0_crossOver_15 h_r h_c)))
theorem kd_P_X0_turnBack {c0 : mC} {r : Nat} (h_r : 8 ≤ r) {c : mC} (h_c : Kp sD c0 c) {x2 : Int32} : pp (fun p : mC => Kp sD c0 p) (P_X0_turnBack r c x2) :=
  (pp_bd (fun v1 => (pp_bd (fun v2 => (pp_if (fun _ => h_c) (fun _ => (pp_bo (P := Kp sD c0) (kd_P_X0_goTo h_r h_c) (fun v4 h3 => h3))))))))
theorem kd_J_X0_moveTogether_34 {c0 : mC} {c : mC} (h_c : Kp sD c0 c) {x1 : Int32} {s1 : Int32} : pp (fun p : mC => Kp sD c0 p) (J_X0_moveTogether_34 c x1 s1) :=
  (pp_bd (fun v1 => (pp_bd (fun v2 => (pp_if (fun _ => (pp_bd (fun v3 => (pp_bo (P := Kp sD c0) (kd_P_X0_turnBack (show 8 ≤ 8 by decide) h_c) (fun v5 h4 => (pp_bd (fun v6 => (pp_bo (P := Kp sD c0) (kd_P_X0_turnBack (show 8 ≤ 9 by decide) h4) (fun v8 h7 => h7))))))))) (fun _ => (pp_bd (fun v9 => (pp_bo (P := Kp sD c0) (kd_P_X0_crossOver (show 8 ≤ 8 by decide) h_c) (fun v11 h10 => (pp_bd (fun v12 => (pp_bo (P := Kp sD c0) (kd_P_X0_crossOver (show 8 ≤ 9 by decide) h10) (fun v14 h13 => h13))))))))))))))
theorem kd_P_X0_moveTogether {c0 : mC} {c : mC} (h_c : Kp sD c0 c) {x1 : Int32} : pp (fun p : mC => Kp sD c0 p) (P_X0_moveTogether c x1) :=
  (pp_bd (fun v1 => (pp_if (fun _ => (kd_J_X0_moveTogether_34 h_c)) (fun _ => (kd_J_X0_moveTogether_34 h_c)))))
theorem kd_J_X0_moveOn_122 {c0 : mC} {c : mC} (h_c : Kp sD c0 c) {x1 : Int32} : pp (fun p : mC => Kp sD c0 p) (J_X0_moveOn_122 c x1) :=
  (pp_bo (P := Kp sD c0) (kd_P_X0_moveTogether h_c) (fun v2 h1 => h1))
theorem kd_J_X0_moveOn_67 {c0 : mC} {c : mC} (h_c : Kp sD c0 c) {x1 : Int32} {x2 : Int32} {x3 : Int32} {x4 : Int32} {s0 : Int32} : pp (fun p : mC => Kp sD c0 p) (J_X0_moveOn_67 c x1 x2 x3 x4 s0) :=
  (pp_if (fun _ => (pp_if (fun _ => (pp_bd (fun v1 => (pp_if (fun _ => (pp_bd (fun v2 => (pp_if (fun _ => (pp_bd (fun v3 => (pp_if (fun _ => (pp_bd (fun v4 => (pp_if (fun _ => h_c) (fun _ => (kd_J_X0_moveOn_122 h_c)))))) (fun _ => (kd_J_X0_moveOn_122 h_c)))))) (fun _ => h_c))))) (fun _ => h_c))))) (fun _ => h_c))) (fun _ => h_c))
theorem kd_J_X0_moveOn_66 {c0 : mC} {c : mC} (h_c : Kp sD c0 c) {x1 : Int32} {x2 : Int32} {x3 : Int32} {x4 : Int32} : pp (fun p : mC => Kp sD c0 p) (J_X0_moveOn_66 c x1 x2 x3 x4) :=
  (kd_J_X0_moveOn_67 h_c)
theorem kd_J_X0_moveOn_44 {c0 : mC} {c : mC} (h_c : Kp sD c0 c) {x1 : Int32} {x2 : Int32} {x3 : Int32} {s0 : Int32} : pp (fun p : mC => Kp sD c0 p) (J_X0_moveOn_44 c x1 x2 x3 s0) :=
  (pp_if (fun _ => (kd_J_X0_moveOn_66 h_c)) (fun _ => (pp_bo (kd_P_X0_leaveToNext (show 8 ≤ 9 by decide) h_c) (fun v2 h1 => (pp_if (fun _ => (kd_J_X0_moveOn_66 h1)) (fun _ => (kd_J_X0_moveOn_67 h1)))))))
theorem kd_J_X0_moveOn_43 {c0 : mC} {c : mC} (h_c : Kp sD c0 c) {x1 : Int32} {x2 : Int32} {x3 : Int32} : pp (fun p : mC => Kp sD c0 p) (J_X0_moveOn_43 c x1 x2 x3) :=
  (kd_J_X0_moveOn_44 h_c)
theorem kd_P_X0_moveOn {c0 : mC} {c : mC} (h_c : Kp sD c0 c) : pp (fun p : mC => Kp sD c0 p) (P_X0_moveOn c) :=
  (pp_bd (fun v1 => (pp_bd (fun v2 => (pp_bd (fun v3 => (pp_if (fun _ => (kd_J_X0_moveOn_43 h_c)) (fun _ => (pp_bo (kd_P_X0_leaveToNext (show 8 ≤ 8 by decide) h_c) (fun v5 h4 => (pp_if (fun _ => (kd_J_X0_moveOn_43 h4)) (fun _ => (kd_J_X0_moveOn_44 h4)))))))))))))
theorem kd_J_X0_watch_22 {c0 : mC} {c : mC} (h_c : Kp sD c0 c) {s0 : Int32} : pp (fun p : mC => Kp sD c0 p) (J_X0_watch_22 c s0) :=
  (pp_if (fun _ => h_c) (fun _ => (pp_bo (P := Kp sD c0) (kd_P_X4_waitFor (show 8 ≤ 8 by decide) (Kp.w h_c rfl)) (fun v2 h1 => (pp_bo (P := Kp sD c0) (kd_P_X4_waitFor (show 8 ≤ 9 by decide) h1) (fun v4 h3 => (pp_bo (P := Kp sD c0) (kd_P_X0_dropBreak h3) (fun v6 h5 => (pp_bo (P := Kp sD c0) (kd_P_X1_note h5) (fun v8 h7 => h7))))))))))
theorem kd_P_X0_watch {c0 : mC} {c : mC} (h_c : Kp sD c0 c) : pp (fun p : mC => Kp sD c0 p) (P_X0_watch c) :=
  (pp_if (fun _ => (pp_bd (fun v1 => (pp_bd (fun v2 => (kd_J_X0_watch_22 h_c)))))) (fun _ => (kd_J_X0_watch_22 h_c)))
theorem kd_J_X0_passTick_82 {c0 : mC} {c : mC} (h_c : Kp sD c0 c) : pp (fun p : mC => Kp sD c0 p) (J_X0_passTick_82 c) :=
  (pp_bo (P := Kp sD c0) (kd_P_X0_watch h_c) (fun v2 h1 => (pp_bd (fun v3 => (Kp.w h1 rfl)))))
theorem kd_J_X0_passTick_58 {c0 : mC} {c : mC} (h_c : Kp sD c0 c) : pp (fun p : mC => Kp sD c0 p) (J_X0_passTick_58 c) :=
  (pp_bo (P := Kp sD c0) (kd_P_X0_turnGreen (show 8 ≤ 8 by decide) (show 8 ≤ 9 by decide) h_c) (fun v2 h1 => (pp_bo (P := Kp sD c0) (kd_P_X0_turnGreen (show 8 ≤ 9 by decide) (show 8 ≤ 8 by decide) h1) (fun v4 h3 => (kd_J_X0_passTick_82 h3)))))
theorem kd_J_X2_putMark_57 {c0 : mC} {c : mC} (h_c : Kp sD c0 c) {s1 : Int32} {s2 : Int32} {s3 : Int32} : pp (fun p : mC => Kp sD c0 p) (J_X2_putMark_57 c s1 s2 s3) :=
  (pp_bd (fun v1 => (Kp.w h_c rfl)))
theorem kd_J_X2_putMark_35 {c0 : mC} {c : mC} (h_c : Kp sD c0 c) {x1 : Int32} {x3 : Int32} {s1 : Int32} {s2 : Int32} {s3 : Int32} : pp (fun p : mC => Kp sD c0 p) (J_X2_putMark_35 c x1 x3 s1 s2 s3) :=
  (pp_bd (fun v1 => (pp_if (fun _ => (kd_J_X2_putMark_57 (Kp.w h_c rfl))) (fun _ => (kd_J_X2_putMark_57 (Kp.w h_c rfl))))))
theorem kd_J_X2_putMark_86 {c0 : mC} {c : mC} (h_c : Kp sD c0 c) {s1 : Int32} {s2 : Int32} {s3 : Int32} : pp (fun p : mC => Kp sD c0 p) (J_X2_putMark_86 c s1 s2 s3) :=
  (pp_bd (fun v1 => (Kp.w h_c rfl)))
theorem kd_P_X2_putMark {c0 : mC} {c : mC} (h_c : Kp sD c0 c) {x1 : Int32} {x2 : Int32} {x3 : Int32} : pp (fun p : mC => Kp sD c0 p) (P_X2_putMark c x1 x2 x3) :=
  (pp_bo (P := Kp sD c0) (Kp.pu h_c (fun _ => rfl)) (fun v2 h1 => (pp_if (fun _ => (pp_if (fun _ => (kd_J_X2_putMark_35 h1)) (fun _ => (kd_J_X2_putMark_35 h1)))) (fun _ => (pp_if (fun _ => (pp_if (fun _ => (kd_J_X2_putMark_86 h1)) (fun _ => (kd_J_X2_putMark_86 h1)))) (fun _ => h1))))))
theorem kd_B_X2_addPhase_137 {c0 : mC}  : ∀ s : Int32 × mC, (fun s : Int32 × mC => Kp sD c0 s.2) s → pp2 (fun s : Int32 × mC => Kp sD c0 s.2) (fun p : mC => Kp sD c0 p) (B_X2_addPhase_137 s) := by
  rintro ⟨x3, c⟩ h_s
  unfold B_X2_addPhase_137
  dsimp only
  exact (pp2_if (fun _ => (pp2_r (Kp.w h_s rfl))) (fun _ => (pp2_bd (fun v1 => (pp2_bo (P := Kp sD c0) (kd_P_X2_putMark h_s) (fun v3 h2 => (pp2_l h2)))))))
theorem kd_J_X2_addPhase_79 {c0 : mC} {c : mC} (h_c : Kp sD c0 c) {x1 : Int32} {x2 : Int32} {x3 : Int32} : pp2 (fun s : Int32 × mC => Kp sD c0 s.2) (fun p : mC => Kp sD c0 p) (J_X2_addPhase_79 c x1 x2 x3) :=
  (pp2_l h_c)
theorem kd_J_X2_addPhase_34 {c0 : mC} {c : mC} (h_c : Kp sD c0 c) {x1 : Int32} {x2 : Int32} {x3 : Int32} : pp2 (fun s : Int32 × mC => Kp sD c0 s.2) (fun p : mC => Kp sD c0 p) (J_X2_addPhase_34 c x1 x2 x3) :=
  (pp2_bd (fun v1 => (pp2_bd (fun v2 => (pp2_bo (P := Kp sD c0) (Kp.pu h_c (fun _ => rfl)) (fun v4 h3 => (pp2_bd (fun v5 => (pp2_bd (fun v6 => (pp2_bo (P := Kp sD c0) (Kp.pu h3 (fun _ => rfl)) (fun v8 h7 => (kd_J_X2_addPhase_79 h7)))))))))))))
theorem kd_B_X2_addPhase_2 {c0 : mC} {x1 : Int32} {x2 : Int32} : ∀ s : Int32 × mC, (fun s : Int32 × mC => Kp sD c0 s.2) s → pp2 (fun s : Int32 × mC => Kp sD c0 s.2) (fun p : mC => Kp sD c0 p) (B_X2_addPhase_2 x1 x2 s) := by
  rintro ⟨x3, c⟩ h_s
  unfold B_X2_addPhase_2
  dsimp only
  exact (pp2_if (fun _ => (pp2_r (pp_bo (P := Kp sD c0) (Kp.pu h_s (fun _ => rfl)) (fun v2 h1 => (pp_bo (P := Kp sD c0) (Kp.pu h1 (fun _ => rfl)) (fun v4 h3 => (pp_bd (fun v5 => (pp_bd (fun v6 => (pp_bo (P := Kp sD c0) (Kp.pu h3 (fun _ => rfl)) (fun v8 h7 => (pp_wh (fun s : Int32 × mC => Kp sD c0 s.2) tm_X2_addPhase_137 kd_B_X2_addPhase_137 h7))))))))))))) (fun _ => (pp2_bd (fun v9 => (pp2_if (fun _ => (kd_J_X2_addPhase_34 h_s)) (fun _ => (pp2_bd (fun v10 => (pp2_if (fun _ => (kd_J_X2_addPhase_79 h_s)) (fun _ => (kd_J_X2_addPhase_34 h_s)))))))))))
theorem kd_P_X2_addPhase {c0 : mC} {c : mC} (h_c : Kp sD c0 c) {x1 : Int32} {x2 : Int32} : pp (fun p : mC => Kp sD c0 p) (P_X2_addPhase c x1 x2) :=
  (pp_wh (fun s : Int32 × mC => Kp sD c0 s.2) tm_X2_addPhase_2 kd_B_X2_addPhase_2 h_c)
theorem kd_P_X2_putBreak {c0 : mC} {c : mC} (h_c : Kp sD c0 c) {x1 : Int32} {x2 : Int32} {x3 : Int32} : pp (fun p : mC => Kp sD c0 p) (P_X2_putBreak c x1 x2 x3) :=
  (pp_bo (P := Kp sD c0) (Kp.pu h_c (fun _ => rfl)) (fun v2 h1 => h1))
theorem kd_P_X5_mark {g0 : mG} {g : mG} (h_g : Md sD g0 g) {x1 : Int32} {x2 : Int32} {x3 : Int32} : pp (fun p : Int32 × mG => Md sD g0 p.2) (P_X5_mark g x1 x2 x3) :=
  (pp_if (fun _ => (kl_J_X5_mark_32 h_g)) (fun _ => (pp_if (fun _ => (kl_J_X5_mark_32 h_g)) (fun _ => (pp_bd (fun v1 => (pp_if (fun _ => (kl_J_X5_mark_32 h_g)) (fun _ => (pp_bd (fun v2 => (pp_if (fun _ => (pp_bd (fun v3 => (pp_if (fun _ => (pp_bo (kl_P_X5_refuse h_g) (fun v5 h4 => h4))) (fun _ => (pp_bd (fun v6 => (pp_bo (P := Md sD g0) (Md.u0 h_g (kd_P_X2_putMark (Md.k h_g))) (fun v8 h7 => (pp_bo (kl_P_X5_answer h7) (fun v10 h9 => h9))))))))))) (fun _ => (kl_J_X5_mark_32 h_g)))))))))))))
theorem kd_J_X5_call_79 {g0 : mG} {g : mG} (h_g : Md sD g0 g) {x1 : Int32} {x2 : Int32} : pp (fun p : Int32 × mG => Md sD g0 p.2) (J_X5_call_79 g x1 x2) :=
  (pp_if (fun _ => (pp_if (fun _ => (pp_bo (P := Md sD g0) (Md.u0 h_g (kd_P_X0_takeCall (Md.k h_g))) (fun v2 h1 => (kl_J_X5_call_127 h1)))) (fun _ => (pp_bd (fun v3 => (kl_J_X5_call_127 (Md.u0 h_g (Kp.w (Md.k h_g) rfl)))))))) (fun _ => (pp_bo (kl_P_X5_deny h_g) (fun v5 h4 => h4))))
theorem kd_J_X5_call_41 {g0 : mG} {g : mG} (h_g : Md sD g0 g) {x1 : Int32} {x2 : Int32} {s0 : Int32} : pp (fun p : Int32 × mG => Md sD g0 p.2) (J_X5_call_41 g x1 x2 s0) :=
  (pp_bd (fun v1 => (pp_if (fun _ => (pp_if (fun _ => (kd_J_X5_call_79 h_g)) (fun _ => (pp_bd (fun v2 => (pp_if (fun _ => (pp_bo (kl_P_X5_deny h_g) (fun v4 h3 => h3))) (fun _ => (kd_J_X5_call_79 h_g)))))))) (fun _ => (pp_bo (kl_P_X5_deny h_g) (fun v6 h5 => h5))))))
theorem kd_P_X5_call {g0 : mG} {g : mG} (h_g : Md sD g0 g) {x1 : Int32} {x2 : Int32} : pp (fun p : Int32 × mG => Md sD g0 p.2) (P_X5_call g x1 x2) :=
  (pp_bd (fun v1 => (pp_if (fun _ => (pp_bo (kl_P_X5_deny h_g) (fun v3 h2 => h2))) (fun _ => (pp_if (fun _ => (kd_J_X5_call_41 h_g)) (fun _ => (kd_J_X5_call_41 h_g)))))))
theorem kd_P_X5_come {g0 : mG} {g : mG} (h_g : Md sD g0 g) {x1 : Int32} {x2 : Int32} : pp (fun p : Int32 × mG => Md sD g0 p.2) (P_X5_come g x1 x2) :=
  (pp_if (fun _ => (kl_J_X5_come_11 h_g)) (fun _ => (pp_if (fun _ => (pp_bd (fun v1 => (pp_if (fun _ => (pp_bo (kl_P_X5_refuse h_g) (fun v3 h2 => h2))) (fun _ => (pp_bd (fun v4 => (pp_if (fun _ => (pp_bo (P := Md sD g0) (Md.u0 h_g (kd_P_X0_putQueue (Md.k h_g))) (fun v6 h5 => (pp_bo (kl_P_X5_answer h5) (fun v8 h7 => h7))))) (fun _ => (pp_bo (kl_P_X5_refuse h_g) (fun v10 h9 => h9))))))))))) (fun _ => (kl_J_X5_come_11 h_g)))))
theorem kd_P_X5_ask {g0 : mG} {g : mG} (h_g : Md sD g0 g) {x1 : Int32} : pp (fun p : Int32 × mG => Md sD g0 p.2) (P_X5_ask g x1) :=
  (pp_bd (fun v1 => (pp_if (fun _ => (pp_bo (kl_P_X5_deny h_g) (fun v3 h2 => h2))) (fun _ => (pp_bd (fun v4 => (pp_if (fun _ => (pp_bd (fun v5 => (pp_bo (kl_P_X5_grant (Md.u0 h_g (Kp.w (Md.k h_g) rfl))) (fun v7 h6 => h6))))) (fun _ => (pp_bo (kl_P_X5_deny h_g) (fun v9 h8 => h8))))))))))
theorem kd_P_X5_let {g0 : mG} {g : mG} (h_g : Md sD g0 g) {x1 : Int32} : pp (fun p : Int32 × mG => Md sD g0 p.2) (P_X5_let g x1) :=
  (pp_bd (fun v1 => (pp_if (fun _ => (pp_bo (kl_P_X5_deny h_g) (fun v3 h2 => h2))) (fun _ => (pp_bd (fun v4 => (pp_if (fun _ => (pp_bo (kl_P_X5_deny h_g) (fun v6 h5 => h5))) (fun _ => (pp_bd (fun v7 => (pp_bo (kl_P_X5_grant (Md.u0 h_g (Kp.w (Md.k h_g) rfl))) (fun v9 h8 => h8))))))))))))
theorem kd_P_X5_brakes {g0 : mG} {g : mG} (h_g : Md sD g0 g) {x1 : Int32} {x2 : Int32} {x3 : Int32} {x4 : Int32} {x5 : Int32} {x6 : Int32} : pp (fun p : Int32 × mG => Md sD g0 p.2) (P_X5_brakes g x1 x2 x3 x4 x5 x6) :=
  (pp_bd (fun v1 => (pp_if (fun _ => (kl_J_X5_brakes_56 h_g)) (fun _ => (pp_bd (fun v2 => (pp_if (fun _ => (kl_J_X5_brakes_56 h_g)) (fun _ => (pp_bd (fun v3 => (pp_if (fun _ => (kl_J_X5_brakes_56 h_g)) (fun _ => (pp_bd (fun v4 => (pp_if (fun _ => (kl_J_X5_brakes_56 h_g)) (fun _ => (pp_if (fun _ => (kl_J_X5_brakes_56 h_g)) (fun _ => (pp_if (fun _ => (pp_bd (fun v5 => (pp_if (fun _ => (pp_bo (kl_P_X5_deny h_g) (fun v7 h6 => h6))) (fun _ => (pp_if (fun _ => (pp_bo (kl_P_X5_deny h_g) (fun v9 h8 => h8))) (fun _ => (pp_bd (fun v10 => (pp_if (fun _ => (pp_bd (fun v11 => (pp_if (fun _ => (pp_bo (P := Md sD g0) (Md.u0 h_g (kd_P_X2_putBreak (Md.k h_g))) (fun v13 h12 => (pp_bo (P := Md sD g0) (Md.u0 h12 (kd_P_X2_putBreak (Md.k h12))) (fun v15 h14 => (pp_bo (P := Md sD g0) (Md.u0 h14 (kd_P_X2_putBreak (Md.k h14))) (fun v17 h16 => (pp_bo (P := Md sD g0) (Md.u0 h16 (kd_P_X2_putBreak (Md.k h16))) (fun v19 h18 => (pp_bo (P := Md sD g0) (Md.u0 h18 (kd_P_X2_putBreak (Md.k h18))) (fun v21 h20 => (pp_bo (kl_P_X5_grant h20) (fun v23 h22 => h22))))))))))))) (fun _ => (kl_J_X5_brakes_121 h_g)))))) (fun _ => (kl_J_X5_brakes_121 h_g)))))))))))) (fun _ => (kl_J_X5_brakes_56 h_g)))))))))))))))))))))
theorem kd_P_X5_stick {g0 : mG} {g : mG} (h_g : Md sD g0 g) {x1 : Int32} {x2 : Int32} : pp (fun p : Int32 × mG => Md sD g0 p.2) (P_X5_stick g x1 x2) :=
  (pp_bd (fun v1 => (pp_if (fun _ => (pp_bo (kl_P_X5_deny h_g) (fun v3 h2 => h2))) (fun _ => (pp_bd (fun v4 => (pp_if (fun _ => (pp_bo (kl_P_X5_deny h_g) (fun v6 h5 => h5))) (fun _ => (pp_bd (fun v7 => (pp_bo (kl_P_X5_grant (Md.u0 h_g (Kp.w (Md.k h_g) rfl))) (fun v9 h8 => h8))))))))))))
theorem kd_P_X5_reset {g0 : mG} {g : mG} (h_g : Md sD g0 g) : pp (fun p : Int32 × mG => Md sD g0 p.2) (P_X5_reset g) :=
  (pp_if (fun _ => (pp_bo (kl_P_X5_deny h_g) (fun v2 h1 => h1))) (fun _ => (pp_bo (P := Md sD g0) (Md.u0 (Md.u0 h_g (Kp.w (Md.k h_g) rfl)) (kd_P_X0_startRings (Md.k (Md.u0 h_g (Kp.w (Md.k h_g) rfl))))) (fun v4 h3 => (pp_bo (P := Md sD g0) (Md.u0 h3 (kd_P_X1_note (Md.k h3))) (fun v6 h5 => (pp_bo (kl_P_X5_grant h5) (fun v8 h7 => h7))))))))
/-- without a fault the CYCLE that is read is one -/
def CYr (c0 c : mC) : Prop := c 16 9 = 0 → P_X5_isCycle (c 1 1) = 1
def sY (j k : Nat) : Bool := (Nat.beq j 16 && Nat.beq k 9) || (Nat.beq j 1 && Nat.beq k 1)
theorem CY.w {c0 c : mC} {j k : Nat} {v : Int32} (h : CYr c0 c) (hj : sY j k = false) : CYr c0 (mP c j k v) := by
  have cell : ∀ i q, sY i q = true → mP c j k v i q = c i q := fun i q hq => by
    show (if i = j ∧ q = k then v else c i q) = _
    rw [if_neg (fun z => by rw [← z.1, ← z.2, hq] at hj; cases hj)]
  unfold CYr at h ⊢
  rw [cell 16 9 rfl, cell 1 1 rfl]
  exact h
theorem CY.a {c0 c : mC} {j : Nat} {f : Nat → Int32} (h : CYr c0 c) (hj : ∀ k, sY j k = false) : CYr c0 (mA c j f) := by
  have e : mA c j f 16 = c 16 := mA_other _ _ _ _ (fun z => by have := hj 9; rw [← z] at this; cases this)
  have e1 : mA c j f 1 = c 1 := mA_other _ _ _ _ (fun z => by have := hj 1; rw [← z] at this; cases this)
  unfold CYr at h ⊢
  rw [e, e1]
  exact h
theorem CY.pu {c0 c : mC} {n j : Nat} {k v : Int32} (h : CYr c0 c) (hj : ∀ k, sY j k = false) : CYr c0 (pt n c j k v) := by
  unfold pt
  split
  · exact h
  · exact CY.w h (hj _)
theorem cy_P_X3_fail {c0 c : mC} (h : CYr c0 c) {x1 : Int32} (hx : ¬ x1 = 0) : pp (fun p : mC => CYr c0 p) (P_X3_fail c x1) := by
  unfold P_X3_fail
  exact pp_if (fun _ z => absurd z hx) (fun _ => h)
theorem cy_J_X2_putMark_57 {c0 : mC} {c : mC} (h_c : CYr c0 c) {s1 : Int32} {s2 : Int32} {s3 : Int32} : pp (fun p : mC => CYr c0 p) (J_X2_putMark_57 c s1 s2 s3) :=
  (pp_bd (fun v1 => (CY.w h_c rfl)))
theorem cy_J_X2_putMark_35 {c0 : mC} {c : mC} (h_c : CYr c0 c) {x1 : Int32} {x3 : Int32} {s1 : Int32} {s2 : Int32} {s3 : Int32} : pp (fun p : mC => CYr c0 p) (J_X2_putMark_35 c x1 x3 s1 s2 s3) :=
  (pp_bd (fun v1 => (pp_if (fun _ => (cy_J_X2_putMark_57 (CY.w h_c rfl))) (fun _ => (cy_J_X2_putMark_57 (CY.w h_c rfl))))))
theorem cy_J_X2_putMark_86 {c0 : mC} {c : mC} (h_c : CYr c0 c) {s1 : Int32} {s2 : Int32} {s3 : Int32} : pp (fun p : mC => CYr c0 p) (J_X2_putMark_86 c s1 s2 s3) :=
  (pp_bd (fun v1 => (CY.w h_c rfl)))
theorem cy_P_X2_putMark {c0 : mC} {c : mC} (h_c : CYr c0 c) {x1 : Int32} {x2 : Int32} {x3 : Int32} : pp (fun p : mC => CYr c0 p) (P_X2_putMark c x1 x2 x3) :=
  (pp_bo (P := CYr c0) (CY.pu h_c (fun _ => rfl)) (fun v2 h1 => (pp_if (fun _ => (pp_if (fun _ => (cy_J_X2_putMark_35 h1)) (fun _ => (cy_J_X2_putMark_35 h1)))) (fun _ => (pp_if (fun _ => (pp_if (fun _ => (cy_J_X2_putMark_86 h1)) (fun _ => (cy_J_X2_putMark_86 h1)))) (fun _ => h1))))))
theorem cy_B_X2_addPhase_137 {c0 : mC}  : ∀ s : Int32 × mC, (fun s : Int32 × mC => CYr c0 s.2) s → pp2 (fun s : Int32 × mC => CYr c0 s.2) (fun p : mC => CYr c0 p) (B_X2_addPhase_137 s) := by
  rintro ⟨x3, c⟩ h_s
  unfold B_X2_addPhase_137
  dsimp only
  exact (pp2_if (fun _ => (pp2_r (CY.w h_s rfl))) (fun _ => (pp2_bd (fun v1 => (pp2_bo (P := CYr c0) (cy_P_X2_putMark h_s) (fun v3 h2 => (pp2_l h2)))))))
theorem cy_J_X2_addPhase_79 {c0 : mC} {c : mC} (h_c : CYr c0 c) {x1 : Int32} {x2 : Int32} {x3 : Int32} : pp2 (fun s : Int32 × mC => CYr c0 s.2) (fun p : mC => CYr c0 p) (J_X2_addPhase_79 c x1 x2 x3) :=
  (pp2_l h_c)
theorem cy_J_X2_addPhase_34 {c0 : mC} {c : mC} (h_c : CYr c0 c) {x1 : Int32} {x2 : Int32} {x3 : Int32} : pp2 (fun s : Int32 × mC => CYr c0 s.2) (fun p : mC => CYr c0 p) (J_X2_addPhase_34 c x1 x2 x3) :=
  (pp2_bd (fun v1 => (pp2_bd (fun v2 => (pp2_bo (P := CYr c0) (CY.pu h_c (fun _ => rfl)) (fun v4 h3 => (pp2_bd (fun v5 => (pp2_bd (fun v6 => (pp2_bo (P := CYr c0) (CY.pu h3 (fun _ => rfl)) (fun v8 h7 => (cy_J_X2_addPhase_79 h7)))))))))))))
theorem cy_B_X2_addPhase_2 {c0 : mC} {x1 : Int32} {x2 : Int32} : ∀ s : Int32 × mC, (fun s : Int32 × mC => CYr c0 s.2) s → pp2 (fun s : Int32 × mC => CYr c0 s.2) (fun p : mC => CYr c0 p) (B_X2_addPhase_2 x1 x2 s) := by
  rintro ⟨x3, c⟩ h_s
  unfold B_X2_addPhase_2
  dsimp only
  exact (pp2_if (fun _ => (pp2_r (pp_bo (P := CYr c0) (CY.pu h_s (fun _ => rfl)) (fun v2 h1 => (pp_bo (P := CYr c0) (CY.pu h1 (fun _ => rfl)) (fun v4 h3 => (pp_bd (fun v5 => (pp_bd (fun v6 => (pp_bo (P := CYr c0) (CY.pu h3 (fun _ => rfl)) (fun v8 h7 => (pp_wh (fun s : Int32 × mC => CYr c0 s.2) tm_X2_addPhase_137 cy_B_X2_addPhase_137 h7))))))))))))) (fun _ => (pp2_bd (fun v9 => (pp2_if (fun _ => (cy_J_X2_addPhase_34 h_s)) (fun _ => (pp2_bd (fun v10 => (pp2_if (fun _ => (cy_J_X2_addPhase_79 h_s)) (fun _ => (cy_J_X2_addPhase_34 h_s)))))))))))
theorem cy_P_X2_addPhase {c0 : mC} {c : mC} (h_c : CYr c0 c) {x1 : Int32} {x2 : Int32} : pp (fun p : mC => CYr c0 p) (P_X2_addPhase c x1 x2) :=
  (pp_wh (fun s : Int32 × mC => CYr c0 s.2) tm_X2_addPhase_2 cy_B_X2_addPhase_2 h_c)
theorem cy_P_X2_putBreak {c0 : mC} {c : mC} (h_c : CYr c0 c) {x1 : Int32} {x2 : Int32} {x3 : Int32} : pp (fun p : mC => CYr c0 p) (P_X2_putBreak c x1 x2 x3) :=
  (pp_bo (P := CYr c0) (CY.pu h_c (fun _ => rfl)) (fun v2 h1 => h1))
theorem cy_P_X3_putByte {c0 : mC} {c : mC} (h_c : CYr c0 c) {x1 : Int32} {x2 : Int32} : pp (fun p : mC => CYr c0 p) (P_X3_putByte c x1 x2) :=
  (pp_if (fun _ => h_c) (fun _ => (pp_if (fun _ => h_c) (fun _ => (CY.w h_c rfl)))))
theorem cy_B_X3_step_110 {c0 : mC}  : ∀ s : Int32 × mC, (fun s : Int32 × mC => CYr c0 s.2) s → pp2 (fun s : Int32 × mC => CYr c0 s.2) (fun p : mC => CYr c0 p) (B_X3_step_110 s) := by
  rintro ⟨x1, c⟩ h_s
  unfold B_X3_step_110
  dsimp only
  exact (pp2_if (fun _ => (pp2_if (fun _ => (pp2_r h_s)) (fun _ => (pp2_if (fun _ => (pp2_r h_s)) (fun _ => (pp2_bd (fun v1 => (pp2_l (CY.w h_s rfl))))))))) (fun _ => (pp2_r h_s)))
theorem cy_J_X3_step_100 {c0 : mC} {c : mC} (h_c : CYr c0 c) : pp (fun p : mC => CYr c0 p) (J_X3_step_100 c) :=
  (pp_wh (fun s : Int32 × mC => CYr c0 s.2) tm_X3_step_110 cy_B_X3_step_110 (CY.w h_c rfl))
theorem cy_J_X3_step_95 {c0 : mC} {c : mC} (h_c : CYr c0 c) : pp (fun p : mC => CYr c0 p) (J_X3_step_95 c) :=
  (pp_bo (P := CYr c0) (cy_P_X3_fail h_c (by decide)) (fun v2 h1 => (cy_J_X3_step_100 h1)))
theorem cy_J_X3_step_63 {c0 : mC} {c : mC} (h_c : CYr c0 c) {s1 : Int32} : pp (fun p : mC => CYr c0 p) (J_X3_step_63 c s1) :=
  (pp_if (fun _ => (cy_J_X3_step_95 (CY.w h_c rfl))) (fun _ => (pp_if (fun _ => (pp_if (fun _ => (cy_J_X3_step_100 (CY.w h_c rfl))) (fun _ => (cy_J_X3_step_95 (CY.w h_c rfl))))) (fun _ => (cy_J_X3_step_100 (CY.w h_c rfl))))))
theorem cy_J_X3_step_42 {c0 : mC} {c : mC} (h_c : CYr c0 c) : pp (fun p : mC => CYr c0 p) (J_X3_step_42 c) :=
  (pp_bd (fun v1 => (cy_J_X3_step_63 h_c)))
theorem cy_P_X3_step {c0 : mC} {c : mC} (h_c : CYr c0 c) : pp (fun p : mC => CYr c0 p) (P_X3_step c) :=
  (pp_bd (fun v1 => (pp_bd (fun v2 => (pp_if (fun _ => (cy_J_X3_step_42 (CY.w (CY.w h_c rfl) rfl))) (fun _ => (pp_if (fun _ => (cy_J_X3_step_42 (CY.w (CY.w h_c rfl) rfl))) (fun _ => (cy_J_X3_step_63 (CY.w (CY.w h_c rfl) rfl))))))))))
theorem cy_J_X3_takeNumber_39 {c0 : mC} {c : mC} (h_c : CYr c0 c) : pp (fun p : Int32 × mC => CYr c0 p.2) (J_X3_takeNumber_39 c) :=
  (pp_bo (P := CYr c0) (cy_P_X3_fail h_c (by decide)) (fun v2 h1 => h1))
theorem cy_P_X3_takeNumber {c0 : mC} {c : mC} (h_c : CYr c0 c) {x1 : Int32} {x2 : Int32} : pp (fun p : Int32 × mC => CYr c0 p.2) (P_X3_takeNumber c x1 x2) :=
  (pp_if (fun _ => (pp_if (fun _ => (pp_if (fun _ => (cy_J_X3_takeNumber_39 h_c)) (fun _ => (pp_if (fun _ => (pp_bo (P := CYr c0) (cy_P_X3_step h_c) (fun v2 h1 => h1))) (fun _ => (cy_J_X3_takeNumber_39 h_c)))))) (fun _ => (pp_bo (P := CYr c0) (cy_P_X3_fail h_c (by decide)) (fun v4 h3 => h3))))) (fun _ => h_c))
theorem cy_J_X3_readMarks_103 {c0 : mC} {c : mC} (h_c : CYr c0 c) {x1 : Int32} {x2 : Int32} {x3 : Int32} : pp2 (fun s : Int32 × Int32 × mC => CYr c0 s.2.2) (fun p : mC => CYr c0 p) (J_X3_readMarks_103 c x1 x2 x3) :=
  (pp2_l h_c)
theorem cy_B_X3_readMarks_4 {c0 : mC} {x1 : Int32} : ∀ s : Int32 × Int32 × mC, (fun s : Int32 × Int32 × mC => CYr c0 s.2.2) s → pp2 (fun s : Int32 × Int32 × mC => CYr c0 s.2.2) (fun p : mC => CYr c0 p) (B_X3_readMarks_4 x1 s) := by
  rintro ⟨x2, x3, c⟩ h_s
  unfold B_X3_readMarks_4
  dsimp only
  exact (pp2_if (fun _ => (pp2_r h_s)) (fun _ => (pp2_if (fun _ => (pp2_if (fun _ => (pp2_bd (fun v1 => (pp2_if (fun _ => (pp2_bo (P := CYr c0) (cy_P_X3_fail h_s (by decide)) (fun v3 h2 => (cy_J_X3_readMarks_103 h2)))) (fun _ => (pp2_if (fun _ => (pp2_bo (P := CYr c0) (cy_P_X3_step h_s) (fun v5 h4 => (pp2_bd (fun v6 => (pp2_bd (fun v7 => (pp2_bo (cy_P_X3_takeNumber h4) (fun v9 h8 => (pp2_bo (P := CYr c0) (cy_P_X2_putMark h8) (fun v11 h10 => (cy_J_X3_readMarks_103 h10)))))))))))) (fun _ => (pp2_bo (P := CYr c0) (cy_P_X3_fail h_s (by decide)) (fun v13 h12 => (cy_J_X3_readMarks_103 h12)))))))))) (fun _ => (pp2_r h_s)))) (fun _ => (pp2_r h_s)))))
theorem cy_P_X3_readMarks {c0 : mC} {c : mC} (h_c : CYr c0 c) {x1 : Int32} : pp (fun p : mC => CYr c0 p) (P_X3_readMarks c x1) :=
  (pp_wh (fun s : Int32 × Int32 × mC => CYr c0 s.2.2) tm_X3_readMarks_4 cy_B_X3_readMarks_4 h_c)
theorem cy_P_X3_endLine {c0 : mC} {c : mC} (h_c : CYr c0 c) : pp (fun p : mC => CYr c0 p) (P_X3_endLine c) :=
  (pp_if (fun _ => (pp_if (fun _ => (pp_bo (P := CYr c0) (cy_P_X3_step (CY.w h_c rfl)) (fun v2 h1 => h1))) (fun _ => (pp_bo (P := CYr c0) (cy_P_X3_fail h_c (by decide)) (fun v4 h3 => h3))))) (fun _ => h_c))
theorem cy_J_X3_readPhase_66 {c0 : mC} {c : mC} (h_c : CYr c0 c) : pp (fun p : mC => CYr c0 p) (J_X3_readPhase_66 c) :=
  (pp_bo (P := CYr c0) (cy_P_X3_endLine h_c) (fun v2 h1 => h1))
theorem cy_P_X3_readPhase {c0 : mC} {c : mC} (h_c : CYr c0 c) : pp (fun p : mC => CYr c0 p) (P_X3_readPhase c) :=
  (pp_if (fun _ => (pp_bo (P := CYr c0) (cy_P_X3_step h_c) (fun v2 h1 => (pp_bo (cy_P_X3_takeNumber h1) (fun v4 h3 => (pp_bo (cy_P_X3_takeNumber h3) (fun v6 h5 => (pp_if (fun _ => (pp_bo (P := CYr c0) (cy_P_X2_addPhase h5) (fun v8 h7 => (pp_bo (P := CYr c0) (cy_P_X3_readMarks h7) (fun v10 h9 => (cy_J_X3_readPhase_66 h9)))))) (fun _ => (cy_J_X3_readPhase_66 h5)))))))))) (fun _ => (pp_bo (P := CYr c0) (cy_P_X3_fail h_c (by decide)) (fun v12 h11 => h11))))
theorem cy_J_X3_tellOnce_21 {c0 : mC} {c : mC} (h_c : CYr c0 c) {x1 : Int32} : pp (fun p : mC => CYr c0 p) (J_X3_tellOnce_21 c x1) :=
  (CY.w h_c rfl)
theorem cy_P_X3_tellOnce {c0 : mC} {c : mC} (h_c : CYr c0 c) {x1 : Int32} : pp (fun p : mC => CYr c0 p) (P_X3_tellOnce c x1) :=
  (pp_if (fun _ => (pp_if (fun _ => (cy_J_X3_tellOnce_21 h_c)) (fun _ => (pp_bo (P := CYr c0) (cy_P_X3_fail h_c (by decide)) (fun v2 h1 => (cy_J_X3_tellOnce_21 h1)))))) (fun _ => (cy_J_X3_tellOnce_21 h_c)))
theorem cy_P_X3_takeWord {c0 : mC} {n : Nat} {c : mC} (h_c : CYr c0 c) : pp (fun p : mC => CYr c0 p) (P_X3_takeWord n c) :=
  (pp_if (fun _ => (pp_bd (fun v1 => (pp_if (fun _ => (pp_bo (P := CYr c0) (cy_P_X3_fail h_c (by decide)) (fun v3 h2 => h2))) (fun _ => (pp_bo (P := CYr c0) (cy_P_X3_step h_c) (fun v5 h4 => h4))))))) (fun _ => h_c))
theorem isCyc_01 (x : Int32) : P_X5_isCycle x = 0 ∨ P_X5_isCycle x = 1 := by
  unfold P_X5_isCycle J_X5_isCycle_17 J_X5_isCycle_21
  split
  · exact Or.inr rfl
  · split
    · exact Or.inl rfl
    · split
      · exact Or.inl rfl
      · exact Or.inr rfl
theorem cy_J41 {c0 c : mC} (hc : c 16 9 = 0 → c 16 5 = 2 → P_X5_isCycle (c 16 6) = 1) : pp (fun p : mC => CYr c0 p) (J_X3_readCycle_41 c) := by
  have e : J_X3_readCycle_41 c = P_X3_endLine (mP (P_X3_takeNumber c 0 240).2 1 1 (P_X3_takeNumber c 0 240).1) := by
    unfold J_X3_readCycle_41
    rw [mBd_eq, mBd_eq]
  rw [e]
  refine cy_P_X3_endLine ?_
  by_cases h0 : c 16 9 = 0
  · by_cases k : c 16 5 = 2
    · by_cases l : c 16 6 < 0
      · have e2 : P_X3_takeNumber c 0 240 = (0, P_X3_fail c 4) := by
          unfold P_X3_takeNumber J_X3_takeNumber_39
          rw [if_pos h0, if_pos k, if_pos l]
          rfl
        rw [e2]
        intro z
        exfalso
        have : (P_X3_fail c 4) 16 9 = 0 := z
        rw [fail_0 h0] at this
        exact absurd (show (4 : Int32) = 0 from this) (by decide)
      · by_cases l2 : c 16 6 ≤ 240
        · have e2 : P_X3_takeNumber c 0 240 = (c 16 6, P_X3_step c) := by
            unfold P_X3_takeNumber
            rw [if_pos h0, if_pos k, if_neg l, if_pos l2]
            rfl
          rw [e2]
          intro _
          exact hc h0 k
        · have e2 : P_X3_takeNumber c 0 240 = (0, P_X3_fail c 4) := by
            unfold P_X3_takeNumber J_X3_takeNumber_39
            rw [if_pos h0, if_pos k, if_neg l, if_neg l2]
            rfl
          rw [e2]
          intro z
          exfalso
          have : (P_X3_fail c 4) 16 9 = 0 := z
          rw [fail_0 h0] at this
          exact absurd (show (4 : Int32) = 0 from this) (by decide)
    · have e2 : P_X3_takeNumber c 0 240 = (0, P_X3_fail c 2) := by
        unfold P_X3_takeNumber
        rw [if_pos h0, if_neg k]
        rfl
      rw [e2]
      intro z
      exfalso
      have : (P_X3_fail c 2) 16 9 = 0 := z
      rw [fail_0 h0] at this
      exact absurd (show (2 : Int32) = 0 from this) (by decide)
  · have e2 : P_X3_takeNumber c 0 240 = (0, c) := by
      unfold P_X3_takeNumber
      rw [if_neg h0]
    rw [e2]
    intro z
    exact absurd z h0
theorem cy_P_X3_readCycle {c0 : mC} {c : mC} (h_c : CYr c0 c) : pp (fun p : mC => CYr c0 p) (P_X3_readCycle c) := by
  refine pp_bo (cy_P_X3_tellOnce h_c) (fun c1 h1 => pp_bo (cy_P_X3_takeWord h1) (fun c2 h2 => ?_))
  refine pp_if (fun h0 => pp_if (fun k => ?_) (fun k => cy_J41 (fun _ z => absurd z k))) (fun n => cy_J41 (fun z => absurd z n))
  rw [mBd_eq]
  refine pp_if (fun q => ?_) (fun q => cy_J41 (fun _ _ => (isCyc_01 _).resolve_left q))
  rw [mBd_eq]
  refine cy_J41 (fun z => ?_)
  exfalso
  rw [fail_0 h0] at z
  exact absurd (show (4 : Int32) = 0 from z) (by decide)
theorem cy_P_X3_readOffset {c0 : mC} {c : mC} (h_c : CYr c0 c) : pp (fun p : mC => CYr c0 p) (P_X3_readOffset c) :=
  (pp_bo (P := CYr c0) (cy_P_X3_tellOnce h_c) (fun v2 h1 => (pp_bo (P := CYr c0) (cy_P_X3_takeWord h1) (fun v4 h3 => (pp_bo (cy_P_X3_takeNumber h3) (fun v6 h5 => (pp_bo (P := CYr c0) (cy_P_X3_endLine (CY.w h5 rfl)) (fun v8 h7 => h7))))))))
theorem cy_J_X3_takeSet_56 {c0 : mC} {c : mC} (h_c : CYr c0 c) : pp (fun p : Int32 × mC => CYr c0 p.2) (J_X3_takeSet_56 c) :=
  (pp_bo (cy_P_X3_takeNumber h_c) (fun v2 h1 => h1))
theorem cy_P_X3_takeSet {c0 : mC} {c : mC} (h_c : CYr c0 c) : pp (fun p : Int32 × mC => CYr c0 p.2) (P_X3_takeSet c) :=
  (pp_if (fun _ => (pp_if (fun _ => (pp_bd (fun v1 => (pp_if (fun _ => (pp_bo (P := CYr c0) (cy_P_X3_fail h_c (by decide)) (fun v3 h2 => (cy_J_X3_takeSet_56 h2)))) (fun _ => (pp_bd (fun v4 => (pp_if (fun _ => (cy_J_X3_takeSet_56 h_c)) (fun _ => (pp_bo (P := CYr c0) (cy_P_X3_fail h_c (by decide)) (fun v6 h5 => (cy_J_X3_takeSet_56 h5)))))))))))) (fun _ => (cy_J_X3_takeSet_56 h_c)))) (fun _ => (cy_J_X3_takeSet_56 h_c)))
theorem cy_J_X3_readBreak_40 {c0 : mC} {c : mC} (h_c : CYr c0 c) : pp (fun p : mC => CYr c0 p) (J_X3_readBreak_40 c) :=
  (pp_bo (cy_P_X3_takeNumber h_c) (fun v2 h1 => (pp_bo (P := CYr c0) (cy_P_X3_takeWord h1) (fun v4 h3 => (pp_bo (cy_P_X3_takeSet h3) (fun v6 h5 => (pp_bo (P := CYr c0) (cy_P_X2_putBreak h5) (fun v8 h7 => (pp_bo (cy_P_X3_takeNumber h7) (fun v10 h9 => (pp_bo (P := CYr c0) (cy_P_X2_putBreak h9) (fun v12 h11 => (pp_bo (P := CYr c0) (cy_P_X3_takeWord h11) (fun v14 h13 => (pp_bo (cy_P_X3_takeSet h13) (fun v16 h15 => (pp_bo (P := CYr c0) (cy_P_X2_putBreak h15) (fun v18 h17 => (pp_bo (cy_P_X3_takeNumber h17) (fun v20 h19 => (pp_bo (P := CYr c0) (cy_P_X2_putBreak h19) (fun v22 h21 => (pp_bo (P := CYr c0) (cy_P_X3_takeWord h21) (fun v24 h23 => (pp_bo (cy_P_X3_takeNumber h23) (fun v26 h25 => (pp_bo (P := CYr c0) (cy_P_X2_putBreak h25) (fun v28 h27 => (pp_bo (P := CYr c0) (cy_P_X3_endLine h27) (fun v30 h29 => h29))))))))))))))))))))))))))))))
theorem cy_P_X3_readBreak {c0 : mC} {c : mC} (h_c : CYr c0 c) : pp (fun p : mC => CYr c0 p) (P_X3_readBreak c) :=
  (pp_bo (P := CYr c0) (cy_P_X3_step h_c) (fun v2 h1 => (pp_if (fun _ => (pp_if (fun _ => (pp_bd (fun v3 => (pp_if (fun _ => (cy_J_X3_readBreak_40 h1)) (fun _ => (pp_bd (fun v4 => (pp_bo (P := CYr c0) (cy_P_X3_tellOnce h1) (fun v6 h5 => (cy_J_X3_readBreak_40 h5)))))))))) (fun _ => (cy_J_X3_readBreak_40 h1)))) (fun _ => (cy_J_X3_readBreak_40 h1)))))
theorem cy_J_X3_readText_146 {c0 : mC} {c : mC} (h_c : CYr c0 c) {x2 : Int32} : pp2 (fun s : Int32 × mC => CYr c0 s.2) (fun p : mC => CYr c0 p) (J_X3_readText_146 c x2) :=
  (pp2_l h_c)
theorem cy_B_X3_readText_56 {c0 : mC}  : ∀ s : Int32 × mC, (fun s : Int32 × mC => CYr c0 s.2) s → pp2 (fun s : Int32 × mC => CYr c0 s.2) (fun p : mC => CYr c0 p) (B_X3_readText_56 s) := by
  rintro ⟨x2, c⟩ h_s
  unfold B_X3_readText_56
  dsimp only
  exact (pp2_if (fun _ => (pp2_r h_s)) (fun _ => (pp2_if (fun _ => (pp2_if (fun _ => (pp2_r h_s)) (fun _ => (pp2_bd (fun v1 => (pp2_if (fun _ => (pp2_bd (fun v2 => (pp2_if (fun _ => (pp2_bd (fun v3 => (pp2_if (fun _ => (pp2_bd (fun v4 => (pp2_if (fun _ => (pp2_bo (P := CYr c0) (cy_P_X3_fail h_s (by decide)) (fun v6 h5 => (cy_J_X3_readText_146 h5)))) (fun _ => (pp2_bo (P := CYr c0) (cy_P_X3_readBreak h_s) (fun v8 h7 => (cy_J_X3_readText_146 h7)))))))) (fun _ => (pp2_bo (P := CYr c0) (cy_P_X3_readOffset h_s) (fun v10 h9 => (cy_J_X3_readText_146 h9)))))))) (fun _ => (pp2_bo (P := CYr c0) (cy_P_X3_readCycle h_s) (fun v12 h11 => (cy_J_X3_readText_146 h11)))))))) (fun _ => (pp2_bo (P := CYr c0) (cy_P_X3_readPhase h_s) (fun v14 h13 => (cy_J_X3_readText_146 h13)))))))))) (fun _ => (pp2_r h_s)))))
