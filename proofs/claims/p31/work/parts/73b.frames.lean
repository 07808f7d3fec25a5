/-! The class's reader: what its rows leave -/
def sS (j k : Nat) : Bool := !(Nat.beq j 16 && (Nat.beq k 3 || Nat.beq k 4 || Nat.beq k 5 || Nat.beq k 6 || Nat.beq k 9 || Nat.beq k 10 || Nat.beq k 11))
def s6 (j k : Nat) : Bool := !(Nat.beq j 16)
def sF (j k : Nat) : Bool := Nat.beq j 16 && (Nat.beq k 9 || Nat.beq k 10 || Nat.beq k 11)
theorem ks_P_X3_fail {c0 : mC} {c : mC} (h_c : Kp sS c0 c) {x1 : Int32} : pp (fun p : mC => Kp sS c0 p) (P_X3_fail c x1) :=
  (pp_if (fun _ => (Kp.w (Kp.w (Kp.w h_c rfl) rfl) rfl)) (fun _ => h_c))
theorem ks_B_X3_step_110 {c0 : mC}  : ∀ s : Int32 × mC, (fun s : Int32 × mC => Kp sS c0 s.2) s → pp2 (fun s : Int32 × mC => Kp sS c0 s.2) (fun p : mC => Kp sS c0 p) (B_X3_step_110 s) := by
  rintro ⟨x1, c⟩ h_s
  unfold B_X3_step_110
  dsimp only
  exact (pp2_if (fun _ => (pp2_if (fun _ => (pp2_r h_s)) (fun _ => (pp2_if (fun _ => (pp2_r h_s)) (fun _ => (pp2_bd (fun v1 => (pp2_l (Kp.w h_s rfl))))))))) (fun _ => (pp2_r h_s)))
theorem ks_J_X3_step_100 {c0 : mC} {c : mC} (h_c : Kp sS c0 c) : pp (fun p : mC => Kp sS c0 p) (J_X3_step_100 c) :=
  (pp_wh (fun s : Int32 × mC => Kp sS c0 s.2) tm_X3_step_110 ks_B_X3_step_110 (Kp.w h_c rfl))
theorem ks_J_X3_step_95 {c0 : mC} {c : mC} (h_c : Kp sS c0 c) : pp (fun p : mC => Kp sS c0 p) (J_X3_step_95 c) :=
  (pp_bo (P := Kp sS c0) (ks_P_X3_fail h_c) (fun v2 h1 => (ks_J_X3_step_100 h1)))
theorem ks_J_X3_step_63 {c0 : mC} {c : mC} (h_c : Kp sS c0 c) {s1 : Int32} : pp (fun p : mC => Kp sS c0 p) (J_X3_step_63 c s1) :=
  (pp_if (fun _ => (ks_J_X3_step_95 (Kp.w h_c rfl))) (fun _ => (pp_if (fun _ => (pp_if (fun _ => (ks_J_X3_step_100 (Kp.w h_c rfl))) (fun _ => (ks_J_X3_step_95 (Kp.w h_c rfl))))) (fun _ => (ks_J_X3_step_100 (Kp.w h_c rfl))))))
theorem ks_J_X3_step_42 {c0 : mC} {c : mC} (h_c : Kp sS c0 c) : pp (fun p : mC => Kp sS c0 p) (J_X3_step_42 c) :=
  (pp_bd (fun v1 => (ks_J_X3_step_63 h_c)))
theorem ks_P_X3_step {c0 : mC} {c : mC} (h_c : Kp sS c0 c) : pp (fun p : mC => Kp sS c0 p) (P_X3_step c) :=
  (pp_bd (fun v1 => (pp_bd (fun v2 => (pp_if (fun _ => (ks_J_X3_step_42 (Kp.w (Kp.w h_c rfl) rfl))) (fun _ => (pp_if (fun _ => (ks_J_X3_step_42 (Kp.w (Kp.w h_c rfl) rfl))) (fun _ => (ks_J_X3_step_63 (Kp.w (Kp.w h_c rfl) rfl))))))))))
theorem k6_P_X3_fail {c0 : mC} {c : mC} (h_c : Kp s6 c0 c) {x1 : Int32} : pp (fun p : mC => Kp s6 c0 p) (P_X3_fail c x1) :=
  (pp_if (fun _ => (Kp.w (Kp.w (Kp.w h_c rfl) rfl) rfl)) (fun _ => h_c))
theorem k6_B_X3_step_110 {c0 : mC}  : ∀ s : Int32 × mC, (fun s : Int32 × mC => Kp s6 c0 s.2) s → pp2 (fun s : Int32 × mC => Kp s6 c0 s.2) (fun p : mC => Kp s6 c0 p) (B_X3_step_110 s) := by
  rintro ⟨x1, c⟩ h_s
  unfold B_X3_step_110
  dsimp only
  exact (pp2_if (fun _ => (pp2_if (fun _ => (pp2_r h_s)) (fun _ => (pp2_if (fun _ => (pp2_r h_s)) (fun _ => (pp2_bd (fun v1 => (pp2_l (Kp.w h_s rfl))))))))) (fun _ => (pp2_r h_s)))
theorem k6_J_X3_step_100 {c0 : mC} {c : mC} (h_c : Kp s6 c0 c) : pp (fun p : mC => Kp s6 c0 p) (J_X3_step_100 c) :=
  (pp_wh (fun s : Int32 × mC => Kp s6 c0 s.2) tm_X3_step_110 k6_B_X3_step_110 (Kp.w h_c rfl))
theorem k6_J_X3_step_95 {c0 : mC} {c : mC} (h_c : Kp s6 c0 c) : pp (fun p : mC => Kp s6 c0 p) (J_X3_step_95 c) :=
  (pp_bo (P := Kp s6 c0) (k6_P_X3_fail h_c) (fun v2 h1 => (k6_J_X3_step_100 h1)))
theorem k6_J_X3_step_63 {c0 : mC} {c : mC} (h_c : Kp s6 c0 c) {s1 : Int32} : pp (fun p : mC => Kp s6 c0 p) (J_X3_step_63 c s1) :=
  (pp_if (fun _ => (k6_J_X3_step_95 (Kp.w h_c rfl))) (fun _ => (pp_if (fun _ => (pp_if (fun _ => (k6_J_X3_step_100 (Kp.w h_c rfl))) (fun _ => (k6_J_X3_step_95 (Kp.w h_c rfl))))) (fun _ => (k6_J_X3_step_100 (Kp.w h_c rfl))))))
theorem k6_J_X3_step_42 {c0 : mC} {c : mC} (h_c : Kp s6 c0 c) : pp (fun p : mC => Kp s6 c0 p) (J_X3_step_42 c) :=
  (pp_bd (fun v1 => (k6_J_X3_step_63 h_c)))
theorem k6_P_X3_step {c0 : mC} {c : mC} (h_c : Kp s6 c0 c) : pp (fun p : mC => Kp s6 c0 p) (P_X3_step c) :=
  (pp_bd (fun v1 => (pp_bd (fun v2 => (pp_if (fun _ => (k6_J_X3_step_42 (Kp.w (Kp.w h_c rfl) rfl))) (fun _ => (pp_if (fun _ => (k6_J_X3_step_42 (Kp.w (Kp.w h_c rfl) rfl))) (fun _ => (k6_J_X3_step_63 (Kp.w (Kp.w h_c rfl) rfl))))))))))
theorem k6_J_X3_takeNumber_39 {c0 : mC} {c : mC} (h_c : Kp s6 c0 c) : pp (fun p : Int32 × mC => Kp s6 c0 p.2) (J_X3_takeNumber_39 c) :=
  (pp_bo (P := Kp s6 c0) (k6_P_X3_fail h_c) (fun v2 h1 => h1))
theorem k6_P_X3_takeNumber {c0 : mC} {c : mC} (h_c : Kp s6 c0 c) {x1 : Int32} {x2 : Int32} : pp (fun p : Int32 × mC => Kp s6 c0 p.2) (P_X3_takeNumber c x1 x2) :=
  (pp_if (fun _ => (pp_if (fun _ => (pp_if (fun _ => (k6_J_X3_takeNumber_39 h_c)) (fun _ => (pp_if (fun _ => (pp_bo (P := Kp s6 c0) (k6_P_X3_step h_c) (fun v2 h1 => h1))) (fun _ => (k6_J_X3_takeNumber_39 h_c)))))) (fun _ => (pp_bo (P := Kp s6 c0) (k6_P_X3_fail h_c) (fun v4 h3 => h3))))) (fun _ => h_c))
theorem k6_J_X3_readMarks_103 {c0 : mC} {c : mC} (h_c : Kp s6 c0 c) {x1 : Int32} {x2 : Int32} {x3 : Int32} : pp2 (fun s : Int32 × Int32 × mC => Kp s6 c0 s.2.2) (fun p : mC => Kp s6 c0 p) (J_X3_readMarks_103 c x1 x2 x3) :=
  (pp2_l h_c)
theorem k6_P_X3_endLine {c0 : mC} {c : mC} (h_c : Kp s6 c0 c) : pp (fun p : mC => Kp s6 c0 p) (P_X3_endLine c) :=
  (pp_if (fun _ => (pp_if (fun _ => (pp_bo (P := Kp s6 c0) (k6_P_X3_step (Kp.w h_c rfl)) (fun v2 h1 => h1))) (fun _ => (pp_bo (P := Kp s6 c0) (k6_P_X3_fail h_c) (fun v4 h3 => h3))))) (fun _ => h_c))
theorem k6_J_X3_readPhase_66 {c0 : mC} {c : mC} (h_c : Kp s6 c0 c) : pp (fun p : mC => Kp s6 c0 p) (J_X3_readPhase_66 c) :=
  (pp_bo (P := Kp s6 c0) (k6_P_X3_endLine h_c) (fun v2 h1 => h1))
theorem k6_J_X3_tellOnce_21 {c0 : mC} {c : mC} (h_c : Kp s6 c0 c) {x1 : Int32} : pp (fun p : mC => Kp s6 c0 p) (J_X3_tellOnce_21 c x1) :=
  (Kp.w h_c rfl)
theorem k6_P_X3_tellOnce {c0 : mC} {c : mC} (h_c : Kp s6 c0 c) {x1 : Int32} : pp (fun p : mC => Kp s6 c0 p) (P_X3_tellOnce c x1) :=
  (pp_if (fun _ => (pp_if (fun _ => (k6_J_X3_tellOnce_21 h_c)) (fun _ => (pp_bo (P := Kp s6 c0) (k6_P_X3_fail h_c) (fun v2 h1 => (k6_J_X3_tellOnce_21 h1)))))) (fun _ => (k6_J_X3_tellOnce_21 h_c)))
theorem k6_P_X3_takeWord {c0 : mC} {n : Nat} {c : mC} (h_c : Kp s6 c0 c) : pp (fun p : mC => Kp s6 c0 p) (P_X3_takeWord n c) :=
  (pp_if (fun _ => (pp_bd (fun v1 => (pp_if (fun _ => (pp_bo (P := Kp s6 c0) (k6_P_X3_fail h_c) (fun v3 h2 => h2))) (fun _ => (pp_bo (P := Kp s6 c0) (k6_P_X3_step h_c) (fun v5 h4 => h4))))))) (fun _ => h_c))
theorem k6_J_X3_takeSet_56 {c0 : mC} {c : mC} (h_c : Kp s6 c0 c) : pp (fun p : Int32 × mC => Kp s6 c0 p.2) (J_X3_takeSet_56 c) :=
  (pp_bo (k6_P_X3_takeNumber h_c) (fun v2 h1 => h1))
theorem k6_P_X3_takeSet {c0 : mC} {c : mC} (h_c : Kp s6 c0 c) : pp (fun p : Int32 × mC => Kp s6 c0 p.2) (P_X3_takeSet c) :=
  (pp_if (fun _ => (pp_if (fun _ => (pp_bd (fun v1 => (pp_if (fun _ => (pp_bo (P := Kp s6 c0) (k6_P_X3_fail h_c) (fun v3 h2 => (k6_J_X3_takeSet_56 h2)))) (fun _ => (pp_bd (fun v4 => (pp_if (fun _ => (k6_J_X3_takeSet_56 h_c)) (fun _ => (pp_bo (P := Kp s6 c0) (k6_P_X3_fail h_c) (fun v6 h5 => (k6_J_X3_takeSet_56 h5)))))))))))) (fun _ => (k6_J_X3_takeSet_56 h_c)))) (fun _ => (k6_J_X3_takeSet_56 h_c)))
theorem k6_J_X3_readText_146 {c0 : mC} {c : mC} (h_c : Kp s6 c0 c) {x2 : Int32} : pp2 (fun s : Int32 × mC => Kp s6 c0 s.2) (fun p : mC => Kp s6 c0 p) (J_X3_readText_146 c x2) :=
  (pp2_l h_c)
def sP (j k : Nat) : Bool := Nat.ble 8 j
def sV (j k : Nat) : Bool := !(Nat.beq j 1 && (Nat.beq k 9 || Nat.beq k 10 || Nat.beq k 11))
def sW (j k : Nat) : Bool := !(Nat.beq j 6)
theorem kq_J_X2_putMark_57 {c0 : mC} {c : mC} (h_c : Kp sP c0 c) {s1 : Int32} {s2 : Int32} {s3 : Int32} : pp (fun p : mC => Kp sP c0 p) (J_X2_putMark_57 c s1 s2 s3) :=
  (pp_bd (fun v1 => (Kp.w h_c rfl)))
theorem kq_J_X2_putMark_35 {c0 : mC} {c : mC} (h_c : Kp sP c0 c) {x1 : Int32} {x3 : Int32} {s1 : Int32} {s2 : Int32} {s3 : Int32} : pp (fun p : mC => Kp sP c0 p) (J_X2_putMark_35 c x1 x3 s1 s2 s3) :=
  (pp_bd (fun v1 => (pp_if (fun _ => (kq_J_X2_putMark_57 (Kp.w h_c rfl))) (fun _ => (kq_J_X2_putMark_57 (Kp.w h_c rfl))))))
theorem kq_J_X2_putMark_86 {c0 : mC} {c : mC} (h_c : Kp sP c0 c) {s1 : Int32} {s2 : Int32} {s3 : Int32} : pp (fun p : mC => Kp sP c0 p) (J_X2_putMark_86 c s1 s2 s3) :=
  (pp_bd (fun v1 => (Kp.w h_c rfl)))
theorem kq_P_X2_putMark {c0 : mC} {c : mC} (h_c : Kp sP c0 c) {x1 : Int32} {x2 : Int32} {x3 : Int32} : pp (fun p : mC => Kp sP c0 p) (P_X2_putMark c x1 x2 x3) :=
  (pp_bo (P := Kp sP c0) (Kp.pu h_c (fun _ => rfl)) (fun v2 h1 => (pp_if (fun _ => (pp_if (fun _ => (kq_J_X2_putMark_35 h1)) (fun _ => (kq_J_X2_putMark_35 h1)))) (fun _ => (pp_if (fun _ => (pp_if (fun _ => (kq_J_X2_putMark_86 h1)) (fun _ => (kq_J_X2_putMark_86 h1)))) (fun _ => h1))))))
theorem kq_B_X2_addPhase_137 {c0 : mC}  : ∀ s : Int32 × mC, (fun s : Int32 × mC => Kp sP c0 s.2) s → pp2 (fun s : Int32 × mC => Kp sP c0 s.2) (fun p : mC => Kp sP c0 p) (B_X2_addPhase_137 s) := by
  rintro ⟨x3, c⟩ h_s
  unfold B_X2_addPhase_137
  dsimp only
  exact (pp2_if (fun _ => (pp2_r (Kp.w h_s rfl))) (fun _ => (pp2_bd (fun v1 => (pp2_bo (P := Kp sP c0) (kq_P_X2_putMark h_s) (fun v3 h2 => (pp2_l h2)))))))
theorem kq_J_X2_addPhase_79 {c0 : mC} {c : mC} (h_c : Kp sP c0 c) {x1 : Int32} {x2 : Int32} {x3 : Int32} : pp2 (fun s : Int32 × mC => Kp sP c0 s.2) (fun p : mC => Kp sP c0 p) (J_X2_addPhase_79 c x1 x2 x3) :=
  (pp2_l h_c)
theorem kq_J_X2_addPhase_34 {c0 : mC} {c : mC} (h_c : Kp sP c0 c) {x1 : Int32} {x2 : Int32} {x3 : Int32} : pp2 (fun s : Int32 × mC => Kp sP c0 s.2) (fun p : mC => Kp sP c0 p) (J_X2_addPhase_34 c x1 x2 x3) :=
  (pp2_bd (fun v1 => (pp2_bd (fun v2 => (pp2_bo (P := Kp sP c0) (Kp.pu h_c (fun _ => rfl)) (fun v4 h3 => (pp2_bd (fun v5 => (pp2_bd (fun v6 => (pp2_bo (P := Kp sP c0) (Kp.pu h3 (fun _ => rfl)) (fun v8 h7 => (kq_J_X2_addPhase_79 h7)))))))))))))
theorem kq_B_X2_addPhase_2 {c0 : mC} {x1 : Int32} {x2 : Int32} : ∀ s : Int32 × mC, (fun s : Int32 × mC => Kp sP c0 s.2) s → pp2 (fun s : Int32 × mC => Kp sP c0 s.2) (fun p : mC => Kp sP c0 p) (B_X2_addPhase_2 x1 x2 s) := by
  rintro ⟨x3, c⟩ h_s
  unfold B_X2_addPhase_2
  dsimp only
  exact (pp2_if (fun _ => (pp2_r (pp_bo (P := Kp sP c0) (Kp.pu h_s (fun _ => rfl)) (fun v2 h1 => (pp_bo (P := Kp sP c0) (Kp.pu h1 (fun _ => rfl)) (fun v4 h3 => (pp_bd (fun v5 => (pp_bd (fun v6 => (pp_bo (P := Kp sP c0) (Kp.pu h3 (fun _ => rfl)) (fun v8 h7 => (pp_wh (fun s : Int32 × mC => Kp sP c0 s.2) tm_X2_addPhase_137 kq_B_X2_addPhase_137 h7))))))))))))) (fun _ => (pp2_bd (fun v9 => (pp2_if (fun _ => (kq_J_X2_addPhase_34 h_s)) (fun _ => (pp2_bd (fun v10 => (pp2_if (fun _ => (kq_J_X2_addPhase_79 h_s)) (fun _ => (kq_J_X2_addPhase_34 h_s)))))))))))
theorem kq_P_X2_addPhase {c0 : mC} {c : mC} (h_c : Kp sP c0 c) {x1 : Int32} {x2 : Int32} : pp (fun p : mC => Kp sP c0 p) (P_X2_addPhase c x1 x2) :=
  (pp_wh (fun s : Int32 × mC => Kp sP c0 s.2) tm_X2_addPhase_2 kq_B_X2_addPhase_2 h_c)
theorem kq_P_X2_putBreak {c0 : mC} {c : mC} (h_c : Kp sP c0 c) {x1 : Int32} {x2 : Int32} {x3 : Int32} : pp (fun p : mC => Kp sP c0 p) (P_X2_putBreak c x1 x2 x3) :=
  (pp_bo (P := Kp sP c0) (Kp.pu h_c (fun _ => rfl)) (fun v2 h1 => h1))
theorem kv_J_X2_putMark_57 {c0 : mC} {c : mC} (h_c : Kp sV c0 c) {s1 : Int32} {s2 : Int32} {s3 : Int32} : pp (fun p : mC => Kp sV c0 p) (J_X2_putMark_57 c s1 s2 s3) :=
  (pp_bd (fun v1 => (Kp.w h_c rfl)))
theorem kv_J_X2_putMark_35 {c0 : mC} {c : mC} (h_c : Kp sV c0 c) {x1 : Int32} {x3 : Int32} {s1 : Int32} {s2 : Int32} {s3 : Int32} : pp (fun p : mC => Kp sV c0 p) (J_X2_putMark_35 c x1 x3 s1 s2 s3) :=
  (pp_bd (fun v1 => (pp_if (fun _ => (kv_J_X2_putMark_57 (Kp.w h_c rfl))) (fun _ => (kv_J_X2_putMark_57 (Kp.w h_c rfl))))))
theorem kv_J_X2_putMark_86 {c0 : mC} {c : mC} (h_c : Kp sV c0 c) {s1 : Int32} {s2 : Int32} {s3 : Int32} : pp (fun p : mC => Kp sV c0 p) (J_X2_putMark_86 c s1 s2 s3) :=
  (pp_bd (fun v1 => (Kp.w h_c rfl)))
theorem kw_P_X2_putBreak {c0 : mC} {c : mC} (h_c : Kp sW c0 c) {x1 : Int32} {x2 : Int32} {x3 : Int32} : pp (fun p : mC => Kp sW c0 p) (P_X2_putBreak c x1 x2 x3) :=
  (pp_bo (P := Kp sW c0) (Kp.pu h_c (fun _ => rfl)) (fun v2 h1 => h1))
theorem kf_P_X3_fail {c0 : mC} (hn : ¬ c0 16 9 = 0) {c : mC} (h : Kp sF c0 c) {x1 : Int32} : pp (fun p : mC => Kp sF c0 p) (P_X3_fail c x1) := by
  unfold P_X3_fail
  rw [if_neg (show ¬ c 16 9 = 0 by rw [h 16 9 rfl]; exact hn)]
  exact h
theorem kf_P_X2_takeFrom {c0 : mC} (hn : ¬ c0 16 9 = 0) {c : mC} (h_c : Kp sF c0 c) {co : mC} : pp (fun p : mC => Kp sF c0 p) (P_X2_takeFrom c co) :=
  (pp_bo (P := Kp sF c0) (Kp.cp (Kp.w (Kp.w (Kp.w (Kp.w (Kp.w (Kp.w h_c rfl) rfl) rfl) rfl) rfl) rfl) (fun _ => rfl)) (fun v2 h1 => (pp_bo (P := Kp sF c0) (Kp.cp h1 (fun _ => rfl)) (fun v4 h3 => (pp_bo (P := Kp sF c0) (Kp.cp h3 (fun _ => rfl)) (fun v6 h5 => (pp_bo (P := Kp sF c0) (Kp.cp h5 (fun _ => rfl)) (fun v8 h7 => (pp_bo (P := Kp sF c0) (Kp.cp h7 (fun _ => rfl)) (fun v10 h9 => (pp_bo (P := Kp sF c0) (Kp.cp h9 (fun _ => rfl)) (fun v12 h11 => h11))))))))))))
theorem kf_P_X2_wipe {c0 : mC} (hn : ¬ c0 16 9 = 0) {c : mC} (h_c : Kp sF c0 c) : pp (fun p : mC => Kp sF c0 p) (P_X2_wipe c) :=
  (pp_bo (P := Kp sF c0) (Kp.fi (Kp.w (Kp.w (Kp.w (Kp.w (Kp.w (Kp.w h_c rfl) rfl) rfl) rfl) rfl) rfl) (fun _ => rfl)) (fun v2 h1 => (pp_bo (P := Kp sF c0) (Kp.fi h1 (fun _ => rfl)) (fun v4 h3 => (pp_bo (P := Kp sF c0) (Kp.fi h3 (fun _ => rfl)) (fun v6 h5 => (pp_bo (P := Kp sF c0) (Kp.fi h5 (fun _ => rfl)) (fun v8 h7 => (pp_bo (P := Kp sF c0) (Kp.fi h7 (fun _ => rfl)) (fun v10 h9 => (pp_bo (P := Kp sF c0) (Kp.fi h9 (fun _ => rfl)) (fun v12 h11 => h11))))))))))))
theorem kf_J_X2_putMark_57 {c0 : mC} (hn : ¬ c0 16 9 = 0) {c : mC} (h_c : Kp sF c0 c) {s1 : Int32} {s2 : Int32} {s3 : Int32} : pp (fun p : mC => Kp sF c0 p) (J_X2_putMark_57 c s1 s2 s3) :=
  (pp_bd (fun v1 => (Kp.w h_c rfl)))
theorem kf_J_X2_putMark_35 {c0 : mC} (hn : ¬ c0 16 9 = 0) {c : mC} (h_c : Kp sF c0 c) {x1 : Int32} {x3 : Int32} {s1 : Int32} {s2 : Int32} {s3 : Int32} : pp (fun p : mC => Kp sF c0 p) (J_X2_putMark_35 c x1 x3 s1 s2 s3) :=
  (pp_bd (fun v1 => (pp_if (fun _ => (kf_J_X2_putMark_57 hn (Kp.w h_c rfl))) (fun _ => (kf_J_X2_putMark_57 hn (Kp.w h_c rfl))))))
theorem kf_J_X2_putMark_86 {c0 : mC} (hn : ¬ c0 16 9 = 0) {c : mC} (h_c : Kp sF c0 c) {s1 : Int32} {s2 : Int32} {s3 : Int32} : pp (fun p : mC => Kp sF c0 p) (J_X2_putMark_86 c s1 s2 s3) :=
  (pp_bd (fun v1 => (Kp.w h_c rfl)))
theorem kf_P_X2_putMark {c0 : mC} (hn : ¬ c0 16 9 = 0) {c : mC} (h_c : Kp sF c0 c) {x1 : Int32} {x2 : Int32} {x3 : Int32} : pp (fun p : mC => Kp sF c0 p) (P_X2_putMark c x1 x2 x3) :=
  (pp_bo (P := Kp sF c0) (Kp.pu h_c (fun _ => rfl)) (fun v2 h1 => (pp_if (fun _ => (pp_if (fun _ => (kf_J_X2_putMark_35 hn h1)) (fun _ => (kf_J_X2_putMark_35 hn h1)))) (fun _ => (pp_if (fun _ => (pp_if (fun _ => (kf_J_X2_putMark_86 hn h1)) (fun _ => (kf_J_X2_putMark_86 hn h1)))) (fun _ => h1))))))
theorem kf_B_X2_addPhase_137 {c0 : mC} (hn : ¬ c0 16 9 = 0)  : ∀ s : Int32 × mC, (fun s : Int32 × mC => Kp sF c0 s.2) s → pp2 (fun s : Int32 × mC => Kp sF c0 s.2) (fun p : mC => Kp sF c0 p) (B_X2_addPhase_137 s) := by
  rintro ⟨x3, c⟩ h_s
  unfold B_X2_addPhase_137
  dsimp only
  exact (pp2_if (fun _ => (pp2_r (Kp.w h_s rfl))) (fun _ => (pp2_bd (fun v1 => (pp2_bo (P := Kp sF c0) (kf_P_X2_putMark hn h_s) (fun v3 h2 => (pp2_l h2)))))))
theorem kf_J_X2_addPhase_79 {c0 : mC} (hn : ¬ c0 16 9 = 0) {c : mC} (h_c : Kp sF c0 c) {x1 : Int32} {x2 : Int32} {x3 : Int32} : pp2 (fun s : Int32 × mC => Kp sF c0 s.2) (fun p : mC => Kp sF c0 p) (J_X2_addPhase_79 c x1 x2 x3) :=
  (pp2_l h_c)
theorem kf_J_X2_addPhase_34 {c0 : mC} (hn : ¬ c0 16 9 = 0) {c : mC} (h_c : Kp sF c0 c) {x1 : Int32} {x2 : Int32} {x3 : Int32} : pp2 (fun s : Int32 × mC => Kp sF c0 s.2) (fun p : mC => Kp sF c0 p) (J_X2_addPhase_34 c x1 x2 x3) :=
  (pp2_bd (fun v1 => (pp2_bd (fun v2 => (pp2_bo (P := Kp sF c0) (Kp.pu h_c (fun _ => rfl)) (fun v4 h3 => (pp2_bd (fun v5 => (pp2_bd (fun v6 => (pp2_bo (P := Kp sF c0) (Kp.pu h3 (fun _ => rfl)) (fun v8 h7 => (kf_J_X2_addPhase_79 hn h7)))))))))))))
theorem kf_B_X2_addPhase_2 {c0 : mC} (hn : ¬ c0 16 9 = 0) {x1 : Int32} {x2 : Int32} : ∀ s : Int32 × mC, (fun s : Int32 × mC => Kp sF c0 s.2) s → pp2 (fun s : Int32 × mC => Kp sF c0 s.2) (fun p : mC => Kp sF c0 p) (B_X2_addPhase_2 x1 x2 s) := by
  rintro ⟨x3, c⟩ h_s
  unfold B_X2_addPhase_2
  dsimp only
  exact (pp2_if (fun _ => (pp2_r (pp_bo (P := Kp sF c0) (Kp.pu h_s (fun _ => rfl)) (fun v2 h1 => (pp_bo (P := Kp sF c0) (Kp.pu h1 (fun _ => rfl)) (fun v4 h3 => (pp_bd (fun v5 => (pp_bd (fun v6 => (pp_bo (P := Kp sF c0) (Kp.pu h3 (fun _ => rfl)) (fun v8 h7 => (pp_wh (fun s : Int32 × mC => Kp sF c0 s.2) tm_X2_addPhase_137 (kf_B_X2_addPhase_137 hn) h7))))))))))))) (fun _ => (pp2_bd (fun v9 => (pp2_if (fun _ => (kf_J_X2_addPhase_34 hn h_s)) (fun _ => (pp2_bd (fun v10 => (pp2_if (fun _ => (kf_J_X2_addPhase_79 hn h_s)) (fun _ => (kf_J_X2_addPhase_34 hn h_s)))))))))))
theorem kf_P_X2_addPhase {c0 : mC} (hn : ¬ c0 16 9 = 0) {c : mC} (h_c : Kp sF c0 c) {x1 : Int32} {x2 : Int32} : pp (fun p : mC => Kp sF c0 p) (P_X2_addPhase c x1 x2) :=
  (pp_wh (fun s : Int32 × mC => Kp sF c0 s.2) tm_X2_addPhase_2 (kf_B_X2_addPhase_2 hn) h_c)
theorem kf_P_X2_putBreak {c0 : mC} (hn : ¬ c0 16 9 = 0) {c : mC} (h_c : Kp sF c0 c) {x1 : Int32} {x2 : Int32} {x3 : Int32} : pp (fun p : mC => Kp sF c0 p) (P_X2_putBreak c x1 x2 x3) :=
  (pp_bo (P := Kp sF c0) (Kp.pu h_c (fun _ => rfl)) (fun v2 h1 => h1))
theorem kf_P_X3_putByte {c0 : mC} (hn : ¬ c0 16 9 = 0) {c : mC} (h_c : Kp sF c0 c) {x1 : Int32} {x2 : Int32} : pp (fun p : mC => Kp sF c0 p) (P_X3_putByte c x1 x2) :=
  (pp_if (fun _ => h_c) (fun _ => (pp_if (fun _ => h_c) (fun _ => (Kp.w h_c rfl)))))
theorem kf_B_X3_step_110 {c0 : mC} (hn : ¬ c0 16 9 = 0)  : ∀ s : Int32 × mC, (fun s : Int32 × mC => Kp sF c0 s.2) s → pp2 (fun s : Int32 × mC => Kp sF c0 s.2) (fun p : mC => Kp sF c0 p) (B_X3_step_110 s) := by
  rintro ⟨x1, c⟩ h_s
  unfold B_X3_step_110
  dsimp only
  exact (pp2_if (fun _ => (pp2_if (fun _ => (pp2_r h_s)) (fun _ => (pp2_if (fun _ => (pp2_r h_s)) (fun _ => (pp2_bd (fun v1 => (pp2_l (Kp.w h_s rfl))))))))) (fun _ => (pp2_r h_s)))
theorem kf_J_X3_step_100 {c0 : mC} (hn : ¬ c0 16 9 = 0) {c : mC} (h_c : Kp sF c0 c) : pp (fun p : mC => Kp sF c0 p) (J_X3_step_100 c) :=
  (pp_wh (fun s : Int32 × mC => Kp sF c0 s.2) tm_X3_step_110 (kf_B_X3_step_110 hn) (Kp.w h_c rfl))
theorem kf_J_X3_step_95 {c0 : mC} (hn : ¬ c0 16 9 = 0) {c : mC} (h_c : Kp sF c0 c) : pp (fun p : mC => Kp sF c0 p) (J_X3_step_95 c) :=
  (pp_bo (P := Kp sF c0) (kf_P_X3_fail hn h_c) (fun v2 h1 => (kf_J_X3_step_100 hn h1)))
theorem kf_J_X3_step_63 {c0 : mC} (hn : ¬ c0 16 9 = 0) {c : mC} (h_c : Kp sF c0 c) {s1 : Int32} : pp (fun p : mC => Kp sF c0 p) (J_X3_step_63 c s1) :=
  (pp_if (fun _ => (kf_J_X3_step_95 hn (Kp.w h_c rfl))) (fun _ => (pp_if (fun _ => (pp_if (fun _ => (kf_J_X3_step_100 hn (Kp.w h_c rfl))) (fun _ => (kf_J_X3_step_95 hn (Kp.w h_c rfl))))) (fun _ => (kf_J_X3_step_100 hn (Kp.w h_c rfl))))))
theorem kf_J_X3_step_42 {c0 : mC} (hn : ¬ c0 16 9 = 0) {c : mC} (h_c : Kp sF c0 c) : pp (fun p : mC => Kp sF c0 p) (J_X3_step_42 c) :=
  (pp_bd (fun v1 => (kf_J_X3_step_63 hn h_c)))
theorem kf_P_X3_step {c0 : mC} (hn : ¬ c0 16 9 = 0) {c : mC} (h_c : Kp sF c0 c) : pp (fun p : mC => Kp sF c0 p) (P_X3_step c) :=
  (pp_bd (fun v1 => (pp_bd (fun v2 => (pp_if (fun _ => (kf_J_X3_step_42 hn (Kp.w (Kp.w h_c rfl) rfl))) (fun _ => (pp_if (fun _ => (kf_J_X3_step_42 hn (Kp.w (Kp.w h_c rfl) rfl))) (fun _ => (kf_J_X3_step_63 hn (Kp.w (Kp.w h_c rfl) rfl))))))))))
theorem kf_J_X3_takeNumber_39 {c0 : mC} (hn : ¬ c0 16 9 = 0) {c : mC} (h_c : Kp sF c0 c) : pp (fun p : Int32 × mC => Kp sF c0 p.2) (J_X3_takeNumber_39 c) :=
  (pp_bo (P := Kp sF c0) (kf_P_X3_fail hn h_c) (fun v2 h1 => h1))
theorem kf_P_X3_takeNumber {c0 : mC} (hn : ¬ c0 16 9 = 0) {c : mC} (h_c : Kp sF c0 c) {x1 : Int32} {x2 : Int32} : pp (fun p : Int32 × mC => Kp sF c0 p.2) (P_X3_takeNumber c x1 x2) :=
  (pp_if (fun _ => (pp_if (fun _ => (pp_if (fun _ => (kf_J_X3_takeNumber_39 hn h_c)) (fun _ => (pp_if (fun _ => (pp_bo (P := Kp sF c0) (kf_P_X3_step hn h_c) (fun v2 h1 => h1))) (fun _ => (kf_J_X3_takeNumber_39 hn h_c)))))) (fun _ => (pp_bo (P := Kp sF c0) (kf_P_X3_fail hn h_c) (fun v4 h3 => h3))))) (fun _ => h_c))
theorem kf_J_X3_readMarks_103 {c0 : mC} (hn : ¬ c0 16 9 = 0) {c : mC} (h_c : Kp sF c0 c) {x1 : Int32} {x2 : Int32} {x3 : Int32} : pp2 (fun s : Int32 × Int32 × mC => Kp sF c0 s.2.2) (fun p : mC => Kp sF c0 p) (J_X3_readMarks_103 c x1 x2 x3) :=
  (pp2_l h_c)
theorem kf_B_X3_readMarks_4 {c0 : mC} (hn : ¬ c0 16 9 = 0) {x1 : Int32} : ∀ s : Int32 × Int32 × mC, (fun s : Int32 × Int32 × mC => Kp sF c0 s.2.2) s → pp2 (fun s : Int32 × Int32 × mC => Kp sF c0 s.2.2) (fun p : mC => Kp sF c0 p) (B_X3_readMarks_4 x1 s) := by
  rintro ⟨x2, x3, c⟩ h_s
  unfold B_X3_readMarks_4
  dsimp only
  exact (pp2_if (fun _ => (pp2_r h_s)) (fun _ => (pp2_if (fun _ => (pp2_if (fun _ => (pp2_bd (fun v1 => (pp2_if (fun _ => (pp2_bo (P := Kp sF c0) (kf_P_X3_fail hn h_s) (fun v3 h2 => (kf_J_X3_readMarks_103 hn h2)))) (fun _ => (pp2_if (fun _ => (pp2_bo (P := Kp sF c0) (kf_P_X3_step hn h_s) (fun v5 h4 => (pp2_bd (fun v6 => (pp2_bd (fun v7 => (pp2_bo (kf_P_X3_takeNumber hn h4) (fun v9 h8 => (pp2_bo (P := Kp sF c0) (kf_P_X2_putMark hn h8) (fun v11 h10 => (kf_J_X3_readMarks_103 hn h10)))))))))))) (fun _ => (pp2_bo (P := Kp sF c0) (kf_P_X3_fail hn h_s) (fun v13 h12 => (kf_J_X3_readMarks_103 hn h12)))))))))) (fun _ => (pp2_r h_s)))) (fun _ => (pp2_r h_s)))))
theorem kf_P_X3_readMarks {c0 : mC} (hn : ¬ c0 16 9 = 0) {c : mC} (h_c : Kp sF c0 c) {x1 : Int32} : pp (fun p : mC => Kp sF c0 p) (P_X3_readMarks c x1) :=
  (pp_wh (fun s : Int32 × Int32 × mC => Kp sF c0 s.2.2) tm_X3_readMarks_4 (kf_B_X3_readMarks_4 hn) h_c)
theorem kf_P_X3_endLine {c0 : mC} (hn : ¬ c0 16 9 = 0) {c : mC} (h_c : Kp sF c0 c) : pp (fun p : mC => Kp sF c0 p) (P_X3_endLine c) :=
  (pp_if (fun _ => (pp_if (fun _ => (pp_bo (P := Kp sF c0) (kf_P_X3_step hn (Kp.w h_c rfl)) (fun v2 h1 => h1))) (fun _ => (pp_bo (P := Kp sF c0) (kf_P_X3_fail hn h_c) (fun v4 h3 => h3))))) (fun _ => h_c))
theorem kf_J_X3_readPhase_66 {c0 : mC} (hn : ¬ c0 16 9 = 0) {c : mC} (h_c : Kp sF c0 c) : pp (fun p : mC => Kp sF c0 p) (J_X3_readPhase_66 c) :=
  (pp_bo (P := Kp sF c0) (kf_P_X3_endLine hn h_c) (fun v2 h1 => h1))
theorem kf_P_X3_readPhase {c0 : mC} (hn : ¬ c0 16 9 = 0) {c : mC} (h_c : Kp sF c0 c) : pp (fun p : mC => Kp sF c0 p) (P_X3_readPhase c) :=
  (pp_if (fun _ => (pp_bo (P := Kp sF c0) (kf_P_X3_step hn h_c) (fun v2 h1 => (pp_bo (kf_P_X3_takeNumber hn h1) (fun v4 h3 => (pp_bo (kf_P_X3_takeNumber hn h3) (fun v6 h5 => (pp_if (fun _ => (pp_bo (P := Kp sF c0) (kf_P_X2_addPhase hn h5) (fun v8 h7 => (pp_bo (P := Kp sF c0) (kf_P_X3_readMarks hn h7) (fun v10 h9 => (kf_J_X3_readPhase_66 hn h9)))))) (fun _ => (kf_J_X3_readPhase_66 hn h5)))))))))) (fun _ => (pp_bo (P := Kp sF c0) (kf_P_X3_fail hn h_c) (fun v12 h11 => h11))))
theorem kf_J_X3_tellOnce_21 {c0 : mC} (hn : ¬ c0 16 9 = 0) {c : mC} (h_c : Kp sF c0 c) {x1 : Int32} : pp (fun p : mC => Kp sF c0 p) (J_X3_tellOnce_21 c x1) :=
  (Kp.w h_c rfl)
theorem kf_P_X3_tellOnce {c0 : mC} (hn : ¬ c0 16 9 = 0) {c : mC} (h_c : Kp sF c0 c) {x1 : Int32} : pp (fun p : mC => Kp sF c0 p) (P_X3_tellOnce c x1) :=
  (pp_if (fun _ => (pp_if (fun _ => (kf_J_X3_tellOnce_21 hn h_c)) (fun _ => (pp_bo (P := Kp sF c0) (kf_P_X3_fail hn h_c) (fun v2 h1 => (kf_J_X3_tellOnce_21 hn h1)))))) (fun _ => (kf_J_X3_tellOnce_21 hn h_c)))
theorem kf_P_X3_takeWord {c0 : mC} (hn : ¬ c0 16 9 = 0) {n : Nat} {c : mC} (h_c : Kp sF c0 c) : pp (fun p : mC => Kp sF c0 p) (P_X3_takeWord n c) :=
  (pp_if (fun _ => (pp_bd (fun v1 => (pp_if (fun _ => (pp_bo (P := Kp sF c0) (kf_P_X3_fail hn h_c) (fun v3 h2 => h2))) (fun _ => (pp_bo (P := Kp sF c0) (kf_P_X3_step hn h_c) (fun v5 h4 => h4))))))) (fun _ => h_c))
theorem kf_J_X3_readCycle_41 {c0 : mC} (hn : ¬ c0 16 9 = 0) {c : mC} (h_c : Kp sF c0 c) : pp (fun p : mC => Kp sF c0 p) (J_X3_readCycle_41 c) :=
  (pp_bo (kf_P_X3_takeNumber hn h_c) (fun v2 h1 => (pp_bo (P := Kp sF c0) (kf_P_X3_endLine hn (Kp.w h1 rfl)) (fun v4 h3 => h3))))
theorem kf_P_X3_readCycle {c0 : mC} (hn : ¬ c0 16 9 = 0) {c : mC} (h_c : Kp sF c0 c) : pp (fun p : mC => Kp sF c0 p) (P_X3_readCycle c) :=
  (pp_bo (P := Kp sF c0) (kf_P_X3_tellOnce hn h_c) (fun v2 h1 => (pp_bo (P := Kp sF c0) (kf_P_X3_takeWord hn h1) (fun v4 h3 => (pp_if (fun _ => (pp_if (fun _ => (pp_bd (fun v5 => (pp_if (fun _ => (pp_bo (P := Kp sF c0) (kf_P_X3_fail hn h3) (fun v7 h6 => (kf_J_X3_readCycle_41 hn h6)))) (fun _ => (kf_J_X3_readCycle_41 hn h3)))))) (fun _ => (kf_J_X3_readCycle_41 hn h3)))) (fun _ => (kf_J_X3_readCycle_41 hn h3)))))))
theorem kf_P_X3_readOffset {c0 : mC} (hn : ¬ c0 16 9 = 0) {c : mC} (h_c : Kp sF c0 c) : pp (fun p : mC => Kp sF c0 p) (P_X3_readOffset c) :=
  (pp_bo (P := Kp sF c0) (kf_P_X3_tellOnce hn h_c) (fun v2 h1 => (pp_bo (P := Kp sF c0) (kf_P_X3_takeWord hn h1) (fun v4 h3 => (pp_bo (kf_P_X3_takeNumber hn h3) (fun v6 h5 => (pp_bo (P := Kp sF c0) (kf_P_X3_endLine hn (Kp.w h5 rfl)) (fun v8 h7 => h7))))))))
theorem kf_J_X3_takeSet_56 {c0 : mC} (hn : ¬ c0 16 9 = 0) {c : mC} (h_c : Kp sF c0 c) : pp (fun p : Int32 × mC => Kp sF c0 p.2) (J_X3_takeSet_56 c) :=
  (pp_bo (kf_P_X3_takeNumber hn h_c) (fun v2 h1 => h1))
theorem kf_P_X3_takeSet {c0 : mC} (hn : ¬ c0 16 9 = 0) {c : mC} (h_c : Kp sF c0 c) : pp (fun p : Int32 × mC => Kp sF c0 p.2) (P_X3_takeSet c) :=
  (pp_if (fun _ => (pp_if (fun _ => (pp_bd (fun v1 => (pp_if (fun _ => (pp_bo (P := Kp sF c0) (kf_P_X3_fail hn h_c) (fun v3 h2 => (kf_J_X3_takeSet_56 hn h2)))) (fun _ => (pp_bd (fun v4 => (pp_if (fun _ => (kf_J_X3_takeSet_56 hn h_c)) (fun _ => (pp_bo (P := Kp sF c0) (kf_P_X3_fail hn h_c) (fun v6 h5 => (kf_J_X3_takeSet_56 hn h5)))))))))))) (fun _ => (kf_J_X3_takeSet_56 hn h_c)))) (fun _ => (kf_J_X3_takeSet_56 hn h_c)))
theorem kf_J_X3_readBreak_40 {c0 : mC} (hn : ¬ c0 16 9 = 0) {c : mC} (h_c : Kp sF c0 c) : pp (fun p : mC => Kp sF c0 p) (J_X3_readBreak_40 c) :=
  (pp_bo (kf_P_X3_takeNumber hn h_c) (fun v2 h1 => (pp_bo (P := Kp sF c0) (kf_P_X3_takeWord hn h1) (fun v4 h3 => (pp_bo (kf_P_X3_takeSet hn h3) (fun v6 h5 => (pp_bo (P := Kp sF c0) (kf_P_X2_putBreak hn h5) (fun v8 h7 => (pp_bo (kf_P_X3_takeNumber hn h7) (fun v10 h9 => (pp_bo (P := Kp sF c0) (kf_P_X2_putBreak hn h9) (fun v12 h11 => (pp_bo (P := Kp sF c0) (kf_P_X3_takeWord hn h11) (fun v14 h13 => (pp_bo (kf_P_X3_takeSet hn h13) (fun v16 h15 => (pp_bo (P := Kp sF c0) (kf_P_X2_putBreak hn h15) (fun v18 h17 => (pp_bo (kf_P_X3_takeNumber hn h17) (fun v20 h19 => (pp_bo (P := Kp sF c0) (kf_P_X2_putBreak hn h19) (fun v22 h21 => (pp_bo (P := Kp sF c0) (kf_P_X3_takeWord hn h21) (fun v24 h23 => (pp_bo (kf_P_X3_takeNumber hn h23) (fun v26 h25 => (pp_bo (P := Kp sF c0) (kf_P_X2_putBreak hn h25) (fun v28 h27 => (pp_bo (P := Kp sF c0) (kf_P_X3_endLine hn h27) (fun v30 h29 => h29))))))))))))))))))))))))))))))
theorem kf_P_X3_readBreak {c0 : mC} (hn : ¬ c0 16 9 = 0) {c : mC} (h_c : Kp sF c0 c) : pp (fun p : mC => Kp sF c0 p) (P_X3_readBreak c) :=
  (pp_bo (P := Kp sF c0) (kf_P_X3_step hn h_c) (fun v2 h1 => (pp_if (fun _ => (pp_if (fun _ => (pp_bd (fun v3 => (pp_if (fun _ => (kf_J_X3_readBreak_40 hn h1)) (fun _ => (pp_bd (fun v4 => (pp_bo (P := Kp sF c0) (kf_P_X3_tellOnce hn h1) (fun v6 h5 => (kf_J_X3_readBreak_40 hn h5)))))))))) (fun _ => (kf_J_X3_readBreak_40 hn h1)))) (fun _ => (kf_J_X3_readBreak_40 hn h1)))))
theorem kf_J_X3_readText_146 {c0 : mC} (hn : ¬ c0 16 9 = 0) {c : mC} (h_c : Kp sF c0 c) {x2 : Int32} : pp2 (fun s : Int32 × mC => Kp sF c0 s.2) (fun p : mC => Kp sF c0 p) (J_X3_readText_146 c x2) :=
  (pp2_l h_c)
theorem kf_B_X3_readText_56 {c0 : mC} (hn : ¬ c0 16 9 = 0)  : ∀ s : Int32 × mC, (fun s : Int32 × mC => Kp sF c0 s.2) s → pp2 (fun s : Int32 × mC => Kp sF c0 s.2) (fun p : mC => Kp sF c0 p) (B_X3_readText_56 s) := by
  rintro ⟨x2, c⟩ h_s
  unfold B_X3_readText_56
  dsimp only
  exact (pp2_if (fun _ => (pp2_r h_s)) (fun _ => (pp2_if (fun _ => (pp2_if (fun _ => (pp2_r h_s)) (fun _ => (pp2_bd (fun v1 => (pp2_if (fun _ => (pp2_bd (fun v2 => (pp2_if (fun _ => (pp2_bd (fun v3 => (pp2_if (fun _ => (pp2_bd (fun v4 => (pp2_if (fun _ => (pp2_bo (P := Kp sF c0) (kf_P_X3_fail hn h_s) (fun v6 h5 => (kf_J_X3_readText_146 hn h5)))) (fun _ => (pp2_bo (P := Kp sF c0) (kf_P_X3_readBreak hn h_s) (fun v8 h7 => (kf_J_X3_readText_146 hn h7)))))))) (fun _ => (pp2_bo (P := Kp sF c0) (kf_P_X3_readOffset hn h_s) (fun v10 h9 => (kf_J_X3_readText_146 hn h9)))))))) (fun _ => (pp2_bo (P := Kp sF c0) (kf_P_X3_readCycle hn h_s) (fun v12 h11 => (kf_J_X3_readText_146 hn h11)))))))) (fun _ => (pp2_bo (P := Kp sF c0) (kf_P_X3_readPhase hn h_s) (fun v14 h13 => (kf_J_X3_readText_146 hn h13)))))))))) (fun _ => (pp2_r h_s)))))
/-- without a fault there is no place, no line of one -/
def NF (c : mC) : Prop := c 16 9 = 0 → c 16 10 = -1 ∧ c 16 11 = -1
def NFr (c0 c : mC) : Prop := NF c
theorem NF.w {c0 c : mC} {j k : Nat} {v : Int32} (h : NFr c0 c) (hj : sF j k = false) : NFr c0 (mP c j k v) := by
  have cell : ∀ q, sF 16 q = true → mP c j k v 16 q = c 16 q := fun q hq => by
    show (if 16 = j ∧ q = k then v else c 16 q) = _
    rw [if_neg (fun z => by rw [← z.1, ← z.2, hq] at hj; cases hj)]
  unfold NFr NF at h ⊢
  rw [cell 9 rfl, cell 10 rfl, cell 11 rfl]
  exact h
theorem NF.a {c0 c : mC} {j : Nat} {f : Nat → Int32} (h : NFr c0 c) (hj : ∀ k, sF j k = false) : NFr c0 (mA c j f) := by
  have e : mA c j f 16 = c 16 := mA_other _ _ _ _ (fun z => by have := hj 9; rw [← z] at this; cases this)
  unfold NFr NF at h ⊢
  rw [e]
  exact h
theorem NF.pu {c0 c : mC} {n j : Nat} {k v : Int32} (h : NFr c0 c) (hj : ∀ k, sF j k = false) : NFr c0 (pt n c j k v) := by
  unfold pt
  split
  · exact h
  · exact NF.w h (hj _)
theorem nf_P_X3_fail {c0 c : mC} (h : NFr c0 c) {x1 : Int32} (hx : ¬ x1 = 0) : pp (fun p : mC => NFr c0 p) (P_X3_fail c x1) := by
  unfold P_X3_fail
  exact pp_if (fun _ z => absurd z hx) (fun _ => h)
theorem nf_P_X2_takeFrom {c0 : mC} {c : mC} (h_c : NFr c0 c) {co : mC} : pp (fun p : mC => NFr c0 p) (P_X2_takeFrom c co) :=
  (pp_bo (P := NFr c0) (NF.a (NF.w (NF.w (NF.w (NF.w (NF.w (NF.w h_c rfl) rfl) rfl) rfl) rfl) rfl) (fun _ => rfl)) (fun v2 h1 => (pp_bo (P := NFr c0) (NF.a h1 (fun _ => rfl)) (fun v4 h3 => (pp_bo (P := NFr c0) (NF.a h3 (fun _ => rfl)) (fun v6 h5 => (pp_bo (P := NFr c0) (NF.a h5 (fun _ => rfl)) (fun v8 h7 => (pp_bo (P := NFr c0) (NF.a h7 (fun _ => rfl)) (fun v10 h9 => (pp_bo (P := NFr c0) (NF.a h9 (fun _ => rfl)) (fun v12 h11 => h11))))))))))))
theorem nf_P_X2_wipe {c0 : mC} {c : mC} (h_c : NFr c0 c) : pp (fun p : mC => NFr c0 p) (P_X2_wipe c) :=
  (pp_bo (P := NFr c0) (NF.a (NF.w (NF.w (NF.w (NF.w (NF.w (NF.w h_c rfl) rfl) rfl) rfl) rfl) rfl) (fun _ => rfl)) (fun v2 h1 => (pp_bo (P := NFr c0) (NF.a h1 (fun _ => rfl)) (fun v4 h3 => (pp_bo (P := NFr c0) (NF.a h3 (fun _ => rfl)) (fun v6 h5 => (pp_bo (P := NFr c0) (NF.a h5 (fun _ => rfl)) (fun v8 h7 => (pp_bo (P := NFr c0) (NF.a h7 (fun _ => rfl)) (fun v10 h9 => (pp_bo (P := NFr c0) (NF.a h9 (fun _ => rfl)) (fun v12 h11 => h11))))))))))))
theorem nf_J_X2_putMark_57 {c0 : mC} {c : mC} (h_c : NFr c0 c) {s1 : Int32} {s2 : Int32} {s3 : Int32} : pp (fun p : mC => NFr c0 p) (J_X2_putMark_57 c s1 s2 s3) :=
  (pp_bd (fun v1 => (NF.w h_c rfl)))
theorem nf_J_X2_putMark_35 {c0 : mC} {c : mC} (h_c : NFr c0 c) {x1 : Int32} {x3 : Int32} {s1 : Int32} {s2 : Int32} {s3 : Int32} : pp (fun p : mC => NFr c0 p) (J_X2_putMark_35 c x1 x3 s1 s2 s3) :=
  (pp_bd (fun v1 => (pp_if (fun _ => (nf_J_X2_putMark_57 (NF.w h_c rfl))) (fun _ => (nf_J_X2_putMark_57 (NF.w h_c rfl))))))
theorem nf_J_X2_putMark_86 {c0 : mC} {c : mC} (h_c : NFr c0 c) {s1 : Int32} {s2 : Int32} {s3 : Int32} : pp (fun p : mC => NFr c0 p) (J_X2_putMark_86 c s1 s2 s3) :=
  (pp_bd (fun v1 => (NF.w h_c rfl)))
theorem nf_P_X2_putMark {c0 : mC} {c : mC} (h_c : NFr c0 c) {x1 : Int32} {x2 : Int32} {x3 : Int32} : pp (fun p : mC => NFr c0 p) (P_X2_putMark c x1 x2 x3) :=
  (pp_bo (P := NFr c0) (NF.pu h_c (fun _ => rfl)) (fun v2 h1 => (pp_if (fun _ => (pp_if (fun _ => (nf_J_X2_putMark_35 h1)) (fun _ => (nf_J_X2_putMark_35 h1)))) (fun _ => (pp_if (fun _ => (pp_if (fun _ => (nf_J_X2_putMark_86 h1)) (fun _ => (nf_J_X2_putMark_86 h1)))) (fun _ => h1))))))
theorem nf_B_X2_addPhase_137 {c0 : mC}  : ∀ s : Int32 × mC, (fun s : Int32 × mC => NFr c0 s.2) s → pp2 (fun s : Int32 × mC => NFr c0 s.2) (fun p : mC => NFr c0 p) (B_X2_addPhase_137 s) := by
  rintro ⟨x3, c⟩ h_s
  unfold B_X2_addPhase_137
  dsimp only
  exact (pp2_if (fun _ => (pp2_r (NF.w h_s rfl))) (fun _ => (pp2_bd (fun v1 => (pp2_bo (P := NFr c0) (nf_P_X2_putMark h_s) (fun v3 h2 => (pp2_l h2)))))))
theorem nf_J_X2_addPhase_79 {c0 : mC} {c : mC} (h_c : NFr c0 c) {x1 : Int32} {x2 : Int32} {x3 : Int32} : pp2 (fun s : Int32 × mC => NFr c0 s.2) (fun p : mC => NFr c0 p) (J_X2_addPhase_79 c x1 x2 x3) :=
  (pp2_l h_c)
theorem nf_J_X2_addPhase_34 {c0 : mC} {c : mC} (h_c : NFr c0 c) {x1 : Int32} {x2 : Int32} {x3 : Int32} : pp2 (fun s : Int32 × mC => NFr c0 s.2) (fun p : mC => NFr c0 p) (J_X2_addPhase_34 c x1 x2 x3) :=
  (pp2_bd (fun v1 => (pp2_bd (fun v2 => (pp2_bo (P := NFr c0) (NF.pu h_c (fun _ => rfl)) (fun v4 h3 => (pp2_bd (fun v5 => (pp2_bd (fun v6 => (pp2_bo (P := NFr c0) (NF.pu h3 (fun _ => rfl)) (fun v8 h7 => (nf_J_X2_addPhase_79 h7)))))))))))))
theorem nf_B_X2_addPhase_2 {c0 : mC} {x1 : Int32} {x2 : Int32} : ∀ s : Int32 × mC, (fun s : Int32 × mC => NFr c0 s.2) s → pp2 (fun s : Int32 × mC => NFr c0 s.2) (fun p : mC => NFr c0 p) (B_X2_addPhase_2 x1 x2 s) := by
  rintro ⟨x3, c⟩ h_s
  unfold B_X2_addPhase_2
  dsimp only
  exact (pp2_if (fun _ => (pp2_r (pp_bo (P := NFr c0) (NF.pu h_s (fun _ => rfl)) (fun v2 h1 => (pp_bo (P := NFr c0) (NF.pu h1 (fun _ => rfl)) (fun v4 h3 => (pp_bd (fun v5 => (pp_bd (fun v6 => (pp_bo (P := NFr c0) (NF.pu h3 (fun _ => rfl)) (fun v8 h7 => (pp_wh (fun s : Int32 × mC => NFr c0 s.2) tm_X2_addPhase_137 nf_B_X2_addPhase_137 h7))))))))))))) (fun _ => (pp2_bd (fun v9 => (pp2_if (fun _ => (nf_J_X2_addPhase_34 h_s)) (fun _ => (pp2_bd (fun v10 => (pp2_if (fun _ => (nf_J_X2_addPhase_79 h_s)) (fun _ => (nf_J_X2_addPhase_34 h_s)))))))))))
theorem nf_P_X2_addPhase {c0 : mC} {c : mC} (h_c : NFr c0 c) {x1 : Int32} {x2 : Int32} : pp (fun p : mC => NFr c0 p) (P_X2_addPhase c x1 x2) :=
  (pp_wh (fun s : Int32 × mC => NFr c0 s.2) tm_X2_addPhase_2 nf_B_X2_addPhase_2 h_c)
theorem nf_P_X2_putBreak {c0 : mC} {c : mC} (h_c : NFr c0 c) {x1 : Int32} {x2 : Int32} {x3 : Int32} : pp (fun p : mC => NFr c0 p) (P_X2_putBreak c x1 x2 x3) :=
  (pp_bo (P := NFr c0) (NF.pu h_c (fun _ => rfl)) (fun v2 h1 => h1))
theorem nf_P_X3_putByte {c0 : mC} {c : mC} (h_c : NFr c0 c) {x1 : Int32} {x2 : Int32} : pp (fun p : mC => NFr c0 p) (P_X3_putByte c x1 x2) :=
  (pp_if (fun _ => h_c) (fun _ => (pp_if (fun _ => h_c) (fun _ => (NF.w h_c rfl)))))
theorem nf_B_X3_step_110 {c0 : mC}  : ∀ s : Int32 × mC, (fun s : Int32 × mC => NFr c0 s.2) s → pp2 (fun s : Int32 × mC => NFr c0 s.2) (fun p : mC => NFr c0 p) (B_X3_step_110 s) := by
  rintro ⟨x1, c⟩ h_s
  unfold B_X3_step_110
  dsimp only
  exact (pp2_if (fun _ => (pp2_if (fun _ => (pp2_r h_s)) (fun _ => (pp2_if (fun _ => (pp2_r h_s)) (fun _ => (pp2_bd (fun v1 => (pp2_l (NF.w h_s rfl))))))))) (fun _ => (pp2_r h_s)))
theorem nf_J_X3_step_100 {c0 : mC} {c : mC} (h_c : NFr c0 c) : pp (fun p : mC => NFr c0 p) (J_X3_step_100 c) :=
  (pp_wh (fun s : Int32 × mC => NFr c0 s.2) tm_X3_step_110 nf_B_X3_step_110 (NF.w h_c rfl))
theorem nf_J_X3_step_95 {c0 : mC} {c : mC} (h_c : NFr c0 c) : pp (fun p : mC => NFr c0 p) (J_X3_step_95 c) :=
  (pp_bo (P := NFr c0) (nf_P_X3_fail h_c (by decide)) (fun v2 h1 => (nf_J_X3_step_100 h1)))
theorem nf_J_X3_step_63 {c0 : mC} {c : mC} (h_c : NFr c0 c) {s1 : Int32} : pp (fun p : mC => NFr c0 p) (J_X3_step_63 c s1) :=
  (pp_if (fun _ => (nf_J_X3_step_95 (NF.w h_c rfl))) (fun _ => (pp_if (fun _ => (pp_if (fun _ => (nf_J_X3_step_100 (NF.w h_c rfl))) (fun _ => (nf_J_X3_step_95 (NF.w h_c rfl))))) (fun _ => (nf_J_X3_step_100 (NF.w h_c rfl))))))
theorem nf_J_X3_step_42 {c0 : mC} {c : mC} (h_c : NFr c0 c) : pp (fun p : mC => NFr c0 p) (J_X3_step_42 c) :=
  (pp_bd (fun v1 => (nf_J_X3_step_63 h_c)))
theorem nf_P_X3_step {c0 : mC} {c : mC} (h_c : NFr c0 c) : pp (fun p : mC => NFr c0 p) (P_X3_step c) :=
  (pp_bd (fun v1 => (pp_bd (fun v2 => (pp_if (fun _ => (nf_J_X3_step_42 (NF.w (NF.w h_c rfl) rfl))) (fun _ => (pp_if (fun _ => (nf_J_X3_step_42 (NF.w (NF.w h_c rfl) rfl))) (fun _ => (nf_J_X3_step_63 (NF.w (NF.w h_c rfl) rfl))))))))))
theorem nf_J_X3_takeNumber_39 {c0 : mC} {c : mC} (h_c : NFr c0 c) : pp (fun p : Int32 × mC => NFr c0 p.2) (J_X3_takeNumber_39 c) :=
  (pp_bo (P := NFr c0) (nf_P_X3_fail h_c (by decide)) (fun v2 h1 => h1))
theorem nf_P_X3_takeNumber {c0 : mC} {c : mC} (h_c : NFr c0 c) {x1 : Int32} {x2 : Int32} : pp (fun p : Int32 × mC => NFr c0 p.2) (P_X3_takeNumber c x1 x2) :=
  (pp_if (fun _ => (pp_if (fun _ => (pp_if (fun _ => (nf_J_X3_takeNumber_39 h_c)) (fun _ => (pp_if (fun _ => (pp_bo (P := NFr c0) (nf_P_X3_step h_c) (fun v2 h1 => h1))) (fun _ => (nf_J_X3_takeNumber_39 h_c)))))) (fun _ => (pp_bo (P := NFr c0) (nf_P_X3_fail h_c (by decide)) (fun v4 h3 => h3))))) (fun _ => h_c))
theorem nf_J_X3_readMarks_103 {c0 : mC} {c : mC} (h_c : NFr c0 c) {x1 : Int32} {x2 : Int32} {x3 : Int32} : pp2 (fun s : Int32 × Int32 × mC => NFr c0 s.2.2) (fun p : mC => NFr c0 p) (J_X3_readMarks_103 c x1 x2 x3) :=
  (pp2_l h_c)
theorem nf_B_X3_readMarks_4 {c0 : mC} {x1 : Int32} : ∀ s : Int32 × Int32 × mC, (fun s : Int32 × Int32 × mC => NFr c0 s.2.2) s → pp2 (fun s : Int32 × Int32 × mC => NFr c0 s.2.2) (fun p : mC => NFr c0 p) (B_X3_readMarks_4 x1 s) := by
  rintro ⟨x2, x3, c⟩ h_s
  unfold B_X3_readMarks_4
  dsimp only
  exact (pp2_if (fun _ => (pp2_r h_s)) (fun _ => (pp2_if (fun _ => (pp2_if (fun _ => (pp2_bd (fun v1 => (pp2_if (fun _ => (pp2_bo (P := NFr c0) (nf_P_X3_fail h_s (by decide)) (fun v3 h2 => (nf_J_X3_readMarks_103 h2)))) (fun _ => (pp2_if (fun _ => (pp2_bo (P := NFr c0) (nf_P_X3_step h_s) (fun v5 h4 => (pp2_bd (fun v6 => (pp2_bd (fun v7 => (pp2_bo (nf_P_X3_takeNumber h4) (fun v9 h8 => (pp2_bo (P := NFr c0) (nf_P_X2_putMark h8) (fun v11 h10 => (nf_J_X3_readMarks_103 h10)))))))))))) (fun _ => (pp2_bo (P := NFr c0) (nf_P_X3_fail h_s (by decide)) (fun v13 h12 => (nf_J_X3_readMarks_103 h12)))))))))) (fun _ => (pp2_r h_s)))) (fun _ => (pp2_r h_s)))))
theorem nf_P_X3_readMarks {c0 : mC} {c : mC} (h_c : NFr c0 c) {x1 : Int32} : pp (fun p : mC => NFr c0 p) (P_X3_readMarks c x1) :=
  (pp_wh (fun s : Int32 × Int32 × mC => NFr c0 s.2.2) tm_X3_readMarks_4 nf_B_X3_readMarks_4 h_c)
theorem nf_P_X3_endLine {c0 : mC} {c : mC} (h_c : NFr c0 c) : pp (fun p : mC => NFr c0 p) (P_X3_endLine c) :=
  (pp_if (fun _ => (pp_if (fun _ => (pp_bo (P := NFr c0) (nf_P_X3_step (NF.w h_c rfl)) (fun v2 h1 => h1))) (fun _ => (pp_bo (P := NFr c0) (nf_P_X3_fail h_c (by decide)) (fun v4 h3 => h3))))) (fun _ => h_c))
theorem nf_J_X3_readPhase_66 {c0 : mC} {c : mC} (h_c : NFr c0 c) : pp (fun p : mC => NFr c0 p) (J_X3_readPhase_66 c) :=
  (pp_bo (P := NFr c0) (nf_P_X3_endLine h_c) (fun v2 h1 => h1))
theorem nf_P_X3_readPhase {c0 : mC} {c : mC} (h_c : NFr c0 c) : pp (fun p : mC => NFr c0 p) (P_X3_readPhase c) :=
  (pp_if (fun _ => (pp_bo (P := NFr c0) (nf_P_X3_step h_c) (fun v2 h1 => (pp_bo (nf_P_X3_takeNumber h1) (fun v4 h3 => (pp_bo (nf_P_X3_takeNumber h3) (fun v6 h5 => (pp_if (fun _ => (pp_bo (P := NFr c0) (nf_P_X2_addPhase h5) (fun v8 h7 => (pp_bo (P := NFr c0) (nf_P_X3_readMarks h7) (fun v10 h9 => (nf_J_X3_readPhase_66 h9)))))) (fun _ => (nf_J_X3_readPhase_66 h5)))))))))) (fun _ => (pp_bo (P := NFr c0) (nf_P_X3_fail h_c (by decide)) (fun v12 h11 => h11))))
theorem nf_J_X3_tellOnce_21 {c0 : mC} {c : mC} (h_c : NFr c0 c) {x1 : Int32} : pp (fun p : mC => NFr c0 p) (J_X3_tellOnce_21 c x1) :=
  (NF.w h_c rfl)
theorem nf_P_X3_tellOnce {c0 : mC} {c : mC} (h_c : NFr c0 c) {x1 : Int32} : pp (fun p : mC => NFr c0 p) (P_X3_tellOnce c x1) :=
  (pp_if (fun _ => (pp_if (fun _ => (nf_J_X3_tellOnce_21 h_c)) (fun _ => (pp_bo (P := NFr c0) (nf_P_X3_fail h_c (by decide)) (fun v2 h1 => (nf_J_X3_tellOnce_21 h1)))))) (fun _ => (nf_J_X3_tellOnce_21 h_c)))
theorem nf_P_X3_takeWord {c0 : mC} {n : Nat} {c : mC} (h_c : NFr c0 c) : pp (fun p : mC => NFr c0 p) (P_X3_takeWord n c) :=
  (pp_if (fun _ => (pp_bd (fun v1 => (pp_if (fun _ => (pp_bo (P := NFr c0) (nf_P_X3_fail h_c (by decide)) (fun v3 h2 => h2))) (fun _ => (pp_bo (P := NFr c0) (nf_P_X3_step h_c) (fun v5 h4 => h4))))))) (fun _ => h_c))
theorem nf_J_X3_readCycle_41 {c0 : mC} {c : mC} (h_c : NFr c0 c) : pp (fun p : mC => NFr c0 p) (J_X3_readCycle_41 c) :=
  (pp_bo (nf_P_X3_takeNumber h_c) (fun v2 h1 => (pp_bo (P := NFr c0) (nf_P_X3_endLine (NF.w h1 rfl)) (fun v4 h3 => h3))))
theorem nf_P_X3_readCycle {c0 : mC} {c : mC} (h_c : NFr c0 c) : pp (fun p : mC => NFr c0 p) (P_X3_readCycle c) :=
  (pp_bo (P := NFr c0) (nf_P_X3_tellOnce h_c) (fun v2 h1 => (pp_bo (P := NFr c0) (nf_P_X3_takeWord h1) (fun v4 h3 => (pp_if (fun _ => (pp_if (fun _ => (pp_bd (fun v5 => (pp_if (fun _ => (pp_bo (P := NFr c0) (nf_P_X3_fail h3 (by decide)) (fun v7 h6 => (nf_J_X3_readCycle_41 h6)))) (fun _ => (nf_J_X3_readCycle_41 h3)))))) (fun _ => (nf_J_X3_readCycle_41 h3)))) (fun _ => (nf_J_X3_readCycle_41 h3)))))))
theorem nf_P_X3_readOffset {c0 : mC} {c : mC} (h_c : NFr c0 c) : pp (fun p : mC => NFr c0 p) (P_X3_readOffset c) :=
  (pp_bo (P := NFr c0) (nf_P_X3_tellOnce h_c) (fun v2 h1 => (pp_bo (P := NFr c0) (nf_P_X3_takeWord h1) (fun v4 h3 => (pp_bo (nf_P_X3_takeNumber h3) (fun v6 h5 => (pp_bo (P := NFr c0) (nf_P_X3_endLine (NF.w h5 rfl)) (fun v8 h7 => h7))))))))
theorem nf_J_X3_takeSet_56 {c0 : mC} {c : mC} (h_c : NFr c0 c) : pp (fun p : Int32 × mC => NFr c0 p.2) (J_X3_takeSet_56 c) :=
  (pp_bo (nf_P_X3_takeNumber h_c) (fun v2 h1 => h1))
theorem nf_P_X3_takeSet {c0 : mC} {c : mC} (h_c : NFr c0 c) : pp (fun p : Int32 × mC => NFr c0 p.2) (P_X3_takeSet c) :=
  (pp_if (fun _ => (pp_if (fun _ => (pp_bd (fun v1 => (pp_if (fun _ => (pp_bo (P := NFr c0) (nf_P_X3_fail h_c (by decide)) (fun v3 h2 => (nf_J_X3_takeSet_56 h2)))) (fun _ => (pp_bd (fun v4 => (pp_if (fun _ => (nf_J_X3_takeSet_56 h_c)) (fun _ => (pp_bo (P := NFr c0) (nf_P_X3_fail h_c (by decide)) (fun v6 h5 => (nf_J_X3_takeSet_56 h5)))))))))))) (fun _ => (nf_J_X3_takeSet_56 h_c)))) (fun _ => (nf_J_X3_takeSet_56 h_c)))
theorem nf_J_X3_readBreak_40 {c0 : mC} {c : mC} (h_c : NFr c0 c) : pp (fun p : mC => NFr c0 p) (J_X3_readBreak_40 c) :=
  (pp_bo (nf_P_X3_takeNumber h_c) (fun v2 h1 => (pp_bo (P := NFr c0) (nf_P_X3_takeWord h1) (fun v4 h3 => (pp_bo (nf_P_X3_takeSet h3) (fun v6 h5 => (pp_bo (P := NFr c0) (nf_P_X2_putBreak h5) (fun v8 h7 => (pp_bo (nf_P_X3_takeNumber h7) (fun v10 h9 => (pp_bo (P := NFr c0) (nf_P_X2_putBreak h9) (fun v12 h11 => (pp_bo (P := NFr c0) (nf_P_X3_takeWord h11) (fun v14 h13 => (pp_bo (nf_P_X3_takeSet h13) (fun v16 h15 => (pp_bo (P := NFr c0) (nf_P_X2_putBreak h15) (fun v18 h17 => (pp_bo (nf_P_X3_takeNumber h17) (fun v20 h19 => (pp_bo (P := NFr c0) (nf_P_X2_putBreak h19) (fun v22 h21 => (pp_bo (P := NFr c0) (nf_P_X3_takeWord h21) (fun v24 h23 => (pp_bo (nf_P_X3_takeNumber h23) (fun v26 h25 => (pp_bo (P := NFr c0) (nf_P_X2_putBreak h25) (fun v28 h27 => (pp_bo (P := NFr c0) (nf_P_X3_endLine h27) (fun v30 h29 => h29))))))))))))))))))))))))))))))
theorem nf_P_X3_readBreak {c0 : mC} {c : mC} (h_c : NFr c0 c) : pp (fun p : mC => NFr c0 p) (P_X3_readBreak c) :=
  (pp_bo (P := NFr c0) (nf_P_X3_step h_c) (fun v2 h1 => (pp_if (fun _ => (pp_if (fun _ => (pp_bd (fun v3 => (pp_if (fun _ => (nf_J_X3_readBreak_40 h1)) (fun _ => (pp_bd (fun v4 => (pp_bo (P := NFr c0) (nf_P_X3_tellOnce h1) (fun v6 h5 => (nf_J_X3_readBreak_40 h5)))))))))) (fun _ => (nf_J_X3_readBreak_40 h1)))) (fun _ => (nf_J_X3_readBreak_40 h1)))))
theorem nf_J_X3_readText_146 {c0 : mC} {c : mC} (h_c : NFr c0 c) {x2 : Int32} : pp2 (fun s : Int32 × mC => NFr c0 s.2) (fun p : mC => NFr c0 p) (J_X3_readText_146 c x2) :=
  (pp2_l h_c)
theorem nf_B_X3_readText_56 {c0 : mC}  : ∀ s : Int32 × mC, (fun s : Int32 × mC => NFr c0 s.2) s → pp2 (fun s : Int32 × mC => NFr c0 s.2) (fun p : mC => NFr c0 p) (B_X3_readText_56 s) := by
  rintro ⟨x2, c⟩ h_s
  unfold B_X3_readText_56
  dsimp only
  exact (pp2_if (fun _ => (pp2_r h_s)) (fun _ => (pp2_if (fun _ => (pp2_if (fun _ => (pp2_r h_s)) (fun _ => (pp2_bd (fun v1 => (pp2_if (fun _ => (pp2_bd (fun v2 => (pp2_if (fun _ => (pp2_bd (fun v3 => (pp2_if (fun _ => (pp2_bd (fun v4 => (pp2_if (fun _ => (pp2_bo (P := NFr c0) (nf_P_X3_fail h_s (by decide)) (fun v6 h5 => (nf_J_X3_readText_146 h5)))) (fun _ => (pp2_bo (P := NFr c0) (nf_P_X3_readBreak h_s) (fun v8 h7 => (nf_J_X3_readText_146 h7)))))))) (fun _ => (pp2_bo (P := NFr c0) (nf_P_X3_readOffset h_s) (fun v10 h9 => (nf_J_X3_readText_146 h9)))))))) (fun _ => (pp2_bo (P := NFr c0) (nf_P_X3_readCycle h_s) (fun v12 h11 => (nf_J_X3_readText_146 h11)))))))) (fun _ => (pp2_bo (P := NFr c0) (nf_P_X3_readPhase h_s) (fun v14 h13 => (nf_J_X3_readText_146 h13)))))))))) (fun _ => (pp2_r h_s)))))
