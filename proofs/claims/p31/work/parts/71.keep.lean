/-! What RingedLights leaves -/
theorem kl_P_X5_refuse {S : Nat → Nat → Bool} {g0 : mG} {g : mG} (h_g : Md S g0 g) {x1 : Int32} : pp (fun p : Int32 × mG => Md S g0 p.2) (P_X5_refuse g x1) :=
  (Md.u6 h_g)
theorem kl_P_X5_answer {S : Nat → Nat → Bool} {g0 : mG} {g : mG} (h_g : Md S g0 g) {x1 : Int32} : pp (fun p : Int32 × mG => Md S g0 p.2) (P_X5_answer g x1) :=
  (Md.u6 h_g)
theorem kl_J_X5_load_12 {S : Nat → Nat → Bool} {g0 : mG} {g : mG} (h_g : Md S g0 g) : pp (fun p : Int32 × mG => Md S g0 p.2) (J_X5_load_12 g) :=
  (pp_bo (kl_P_X5_refuse h_g) (fun v2 h1 => h1))
theorem kl_J_X5_many_149 {S : Nat → Nat → Bool} {g0 : mG} {g : mG} (h_g : Md S g0 g) {s1 : Int32} : pp (fun p : Int32 × mG => Md S g0 p.2) (J_X5_many_149 g s1) :=
  (pp_bo (kl_P_X5_answer h_g) (fun v2 h1 => h1))
theorem kl_P_X5_many {S : Nat → Nat → Bool} {g0 : mG} {g : mG} (h_g : Md S g0 g) {x1 : Int32} : pp (fun p : Int32 × mG => Md S g0 p.2) (P_X5_many g x1) :=
  (pp_if (fun _ => (pp_bo (kl_P_X5_answer h_g) (fun v2 h1 => h1))) (fun _ => (pp_if (fun _ => (pp_bo (kl_P_X5_answer h_g) (fun v4 h3 => h3))) (fun _ => (pp_if (fun _ => (pp_bo (kl_P_X5_answer h_g) (fun v6 h5 => h5))) (fun _ => (pp_if (fun _ => (pp_bo (kl_P_X5_answer h_g) (fun v8 h7 => h7))) (fun _ => (pp_if (fun _ => (pp_bo (kl_P_X5_answer h_g) (fun v10 h9 => h9))) (fun _ => (pp_if (fun _ => (pp_if (fun _ => (kl_J_X5_many_149 h_g)) (fun _ => (kl_J_X5_many_149 h_g)))) (fun _ => (pp_if (fun _ => (pp_bo (kl_P_X5_answer h_g) (fun v12 h11 => h11))) (fun _ => (pp_if (fun _ => (pp_bo (kl_P_X5_answer h_g) (fun v14 h13 => h13))) (fun _ => (pp_if (fun _ => (pp_bo (kl_P_X5_answer h_g) (fun v16 h15 => h15))) (fun _ => (pp_if (fun _ => (pp_bo (kl_P_X5_answer h_g) (fun v18 h17 => h17))) (fun _ => (pp_if (fun _ => (pp_bo (kl_P_X5_answer h_g) (fun v20 h19 => h19))) (fun _ => (pp_if (fun _ => (pp_bo (kl_P_X5_answer h_g) (fun v22 h21 => h21))) (fun _ => (pp_bo (kl_P_X5_refuse h_g) (fun v24 h23 => h23))))))))))))))))))))))))))
theorem kl_J_X5_ring_10 {S : Nat → Nat → Bool} {g0 : mG} {g : mG} (h_g : Md S g0 g) : pp (fun p : Int32 × mG => Md S g0 p.2) (J_X5_ring_10 g) :=
  (pp_bo (kl_P_X5_refuse h_g) (fun v2 h1 => h1))
theorem kl_J_X5_ring_25 {S : Nat → Nat → Bool} {g0 : mG} {g : mG} (h_g : Md S g0 g) : pp (fun p : Int32 × mG => Md S g0 p.2) (J_X5_ring_25 g) :=
  (pp_bo (kl_P_X5_refuse h_g) (fun v2 h1 => h1))
theorem kl_J_X5_ring_57 {S : Nat → Nat → Bool} {g0 : mG} {q : Nat} {g : mG} (h_g : Md S g0 g) {x2 : Int32} : pp (fun p : Int32 × mG => Md S g0 p.2) (J_X5_ring_57 q g x2) :=
  (pp_bd (fun v1 => (pp_bo (kl_P_X5_answer h_g) (fun v3 h2 => h2))))
theorem kl_P_X5_ring {S : Nat → Nat → Bool} {g0 : mG} {g : mG} (h_g : Md S g0 g) {x1 : Int32} {x2 : Int32} : pp (fun p : Int32 × mG => Md S g0 p.2) (P_X5_ring g x1 x2) :=
  (pp_if (fun _ => (kl_J_X5_ring_10 h_g)) (fun _ => (pp_if (fun _ => (pp_if (fun _ => (kl_J_X5_ring_25 h_g)) (fun _ => (pp_if (fun _ => (pp_if (fun _ => (kl_J_X5_ring_57 h_g)) (fun _ => (kl_J_X5_ring_57 h_g)))) (fun _ => (kl_J_X5_ring_25 h_g)))))) (fun _ => (kl_J_X5_ring_10 h_g)))))
theorem kl_J_X5_phase_10 {S : Nat → Nat → Bool} {g0 : mG} {g : mG} (h_g : Md S g0 g) : pp (fun p : Int32 × mG => Md S g0 p.2) (J_X5_phase_10 g) :=
  (pp_bo (kl_P_X5_refuse h_g) (fun v2 h1 => h1))
theorem kl_P_X5_phase {S : Nat → Nat → Bool} {g0 : mG} {g : mG} (h_g : Md S g0 g) {x1 : Int32} {x2 : Int32} : pp (fun p : Int32 × mG => Md S g0 p.2) (P_X5_phase g x1 x2) :=
  (pp_if (fun _ => (kl_J_X5_phase_10 h_g)) (fun _ => (pp_if (fun _ => (pp_bd (fun v1 => (pp_if (fun _ => (pp_bo (kl_P_X5_refuse h_g) (fun v3 h2 => h2))) (fun _ => (pp_bd (fun v4 => (pp_bo (kl_P_X5_answer h_g) (fun v6 h5 => h5))))))))) (fun _ => (kl_J_X5_phase_10 h_g)))))
theorem kl_J_X5_marked_10 {S : Nat → Nat → Bool} {g0 : mG} {g : mG} (h_g : Md S g0 g) : pp (fun p : Int32 × mG => Md S g0 p.2) (J_X5_marked_10 g) :=
  (pp_bo (kl_P_X5_refuse h_g) (fun v2 h1 => h1))
theorem kl_P_X5_marked {S : Nat → Nat → Bool} {g0 : mG} {g : mG} (h_g : Md S g0 g) {x1 : Int32} {x2 : Int32} : pp (fun p : Int32 × mG => Md S g0 p.2) (P_X5_marked g x1 x2) :=
  (pp_if (fun _ => (kl_J_X5_marked_10 h_g)) (fun _ => (pp_if (fun _ => (pp_bd (fun v1 => (pp_if (fun _ => (pp_bo (kl_P_X5_refuse h_g) (fun v3 h2 => h2))) (fun _ => (pp_bd (fun v4 => (pp_bo (kl_P_X5_answer h_g) (fun v6 h5 => h5))))))))) (fun _ => (kl_J_X5_marked_10 h_g)))))
theorem kl_J_X5_brake_9 {S : Nat → Nat → Bool} {g0 : mG} {g : mG} (h_g : Md S g0 g) : pp (fun p : Int32 × mG => Md S g0 p.2) (J_X5_brake_9 g) :=
  (pp_bo (kl_P_X5_refuse h_g) (fun v2 h1 => h1))
theorem kl_J_X5_brake_53 {S : Nat → Nat → Bool} {g0 : mG} {g : mG} (h_g : Md S g0 g) {s1 : Int32} : pp (fun p : Int32 × mG => Md S g0 p.2) (J_X5_brake_53 g s1) :=
  (pp_bo (kl_P_X5_answer h_g) (fun v2 h1 => h1))
theorem kl_P_X5_brake {S : Nat → Nat → Bool} {g0 : mG} {g : mG} (h_g : Md S g0 g) {x1 : Int32} {x2 : Int32} : pp (fun p : Int32 × mG => Md S g0 p.2) (P_X5_brake g x1 x2) :=
  (pp_if (fun _ => (kl_J_X5_brake_9 h_g)) (fun _ => (pp_if (fun _ => (pp_bd (fun v1 => (pp_if (fun _ => (pp_bo (kl_P_X5_refuse h_g) (fun v3 h2 => h2))) (fun _ => (pp_if (fun _ => (pp_bd (fun v4 => (pp_if (fun _ => (kl_J_X5_brake_53 h_g)) (fun _ => (kl_J_X5_brake_53 h_g)))))) (fun _ => (pp_bd (fun v5 => (pp_bo (kl_P_X5_answer h_g) (fun v7 h6 => h6))))))))))) (fun _ => (kl_J_X5_brake_9 h_g)))))
theorem kl_P_X5_sum {S : Nat → Nat → Bool} {g0 : mG} {g : mG} (h_g : Md S g0 g) {x1 : Int32} : pp (fun p : Int32 × mG => Md S g0 p.2) (P_X5_sum g x1) :=
  (pp_if (fun _ => (pp_bd (fun v1 => (pp_bo (kl_P_X5_answer h_g) (fun v3 h2 => h2))))) (fun _ => (pp_if (fun _ => (pp_bo (kl_P_X5_answer h_g) (fun v5 h4 => h4))) (fun _ => (pp_if (fun _ => (pp_bd (fun v6 => (pp_bo (kl_P_X5_answer h_g) (fun v8 h7 => h7))))) (fun _ => (pp_if (fun _ => (pp_bd (fun v9 => (pp_bo (kl_P_X5_answer h_g) (fun v11 h10 => h10))))) (fun _ => (pp_if (fun _ => (pp_bd (fun v12 => (pp_bo (kl_P_X5_answer h_g) (fun v14 h13 => h13))))) (fun _ => (pp_if (fun _ => (pp_bd (fun v15 => (pp_bo (kl_P_X5_answer h_g) (fun v17 h16 => h16))))) (fun _ => (pp_bo (kl_P_X5_refuse h_g) (fun v19 h18 => h18))))))))))))))
theorem kl_J_X5_event_19 {S : Nat → Nat → Bool} {g0 : mG} {g : mG} (h_g : Md S g0 g) : pp (fun p : Int32 × mG => Md S g0 p.2) (J_X5_event_19 g) :=
  (pp_bo (kl_P_X5_refuse h_g) (fun v2 h1 => h1))
theorem kl_P_X5_event {S : Nat → Nat → Bool} {g0 : mG} {g : mG} (h_g : Md S g0 g) {x1 : Int32} {x2 : Int32} : pp (fun p : Int32 × mG => Md S g0 p.2) (P_X5_event g x1 x2) :=
  (pp_if (fun _ => (kl_J_X5_event_19 h_g)) (fun _ => (pp_if (fun _ => (kl_J_X5_event_19 h_g)) (fun _ => (pp_if (fun _ => (kl_J_X5_event_19 h_g)) (fun _ => (pp_if (fun _ => (pp_if (fun _ => (pp_bd (fun v1 => (pp_bo (kl_P_X5_answer h_g) (fun v3 h2 => h2))))) (fun _ => (pp_bo (kl_P_X5_refuse h_g) (fun v5 h4 => h4))))) (fun _ => (kl_J_X5_event_19 h_g)))))))))
theorem kl_J_X5_mark_32 {S : Nat → Nat → Bool} {g0 : mG} {g : mG} (h_g : Md S g0 g) : pp (fun p : Int32 × mG => Md S g0 p.2) (J_X5_mark_32 g) :=
  (pp_bo (kl_P_X5_refuse h_g) (fun v2 h1 => h1))
theorem kl_J_X5_clock_30 {S : Nat → Nat → Bool} {g0 : mG} {g : mG} (h_g : Md S g0 g) : pp (fun p : Int32 × mG => Md S g0 p.2) (J_X5_clock_30 g) :=
  (pp_bo (kl_P_X5_refuse h_g) (fun v2 h1 => h1))
theorem kl_J_X5_clock_101 {S : Nat → Nat → Bool} {g0 : mG} {g : mG} (h_g : Md S g0 g) {x3 : Int32} : pp (fun p : Int32 × mG => Md S g0 p.2) (J_X5_clock_101 g x3) :=
  (pp_bo (kl_P_X5_answer h_g) (fun v2 h1 => h1))
theorem kl_P_X5_deny {S : Nat → Nat → Bool} {g0 : mG} {g : mG} (h_g : Md S g0 g) {x1 : Int32} : pp (fun p : Int32 × mG => Md S g0 p.2) (P_X5_deny g x1) :=
  (Md.u6 h_g)
theorem kl_P_X5_grant {S : Nat → Nat → Bool} {g0 : mG} {g : mG} (h_g : Md S g0 g) : pp (fun p : Int32 × mG => Md S g0 p.2) (P_X5_grant g) :=
  (Md.u6 h_g)
theorem kl_J_X5_call_127 {S : Nat → Nat → Bool} {g0 : mG} {g : mG} (h_g : Md S g0 g) : pp (fun p : Int32 × mG => Md S g0 p.2) (J_X5_call_127 g) :=
  (pp_bo (kl_P_X5_grant h_g) (fun v2 h1 => h1))
theorem kl_J_X5_come_11 {S : Nat → Nat → Bool} {g0 : mG} {g : mG} (h_g : Md S g0 g) : pp (fun p : Int32 × mG => Md S g0 p.2) (J_X5_come_11 g) :=
  (pp_bo (kl_P_X5_refuse h_g) (fun v2 h1 => h1))
theorem kl_J_X5_brakes_56 {S : Nat → Nat → Bool} {g0 : mG} {g : mG} (h_g : Md S g0 g) : pp (fun p : Int32 × mG => Md S g0 p.2) (J_X5_brakes_56 g) :=
  (pp_bo (kl_P_X5_deny h_g) (fun v2 h1 => h1))
theorem kl_J_X5_brakes_121 {S : Nat → Nat → Bool} {g0 : mG} {g : mG} (h_g : Md S g0 g) : pp (fun p : Int32 × mG => Md S g0 p.2) (J_X5_brakes_121 g) :=
  (pp_bo (kl_P_X5_deny h_g) (fun v2 h1 => h1))
theorem kl_J_X5_tick_12 {S : Nat → Nat → Bool} {g0 : mG} {g : mG} (h_g : Md S g0 g) : pp (fun p : Int32 × mG => Md S g0 p.2) (J_X5_tick_12 g) :=
  (pp_bo (kl_P_X5_refuse h_g) (fun v2 h1 => h1))
theorem kl_J_X5_run_23 {S : Nat → Nat → Bool} {g0 : mG} {g : mG} (h_g : Md S g0 g) : pp (fun p : Int32 × mG => Md S g0 p.2) (J_X5_run_23 g) :=
  (pp_bo (kl_P_X5_refuse h_g) (fun v2 h1 => h1))
theorem kl_J_X5_foes_28 {S : Nat → Nat → Bool} {g0 : mG} {g : mG} (h_g : Md S g0 g) : pp (fun p : Int32 × mG => Md S g0 p.2) (J_X5_foes_28 g) :=
  (pp_bo (kl_P_X5_refuse h_g) (fun v2 h1 => h1))
theorem kl_J_X5_foes_58 {S : Nat → Nat → Bool} {g0 : mG} {g : mG} (h_g : Md S g0 g) {s1 : Int32} : pp (fun p : Int32 × mG => Md S g0 p.2) (J_X5_foes_58 g s1) :=
  (pp_bo (kl_P_X5_answer h_g) (fun v2 h1 => h1))
theorem kl_P_X5_foes {S : Nat → Nat → Bool} {g0 : mG} {g : mG} (h_g : Md S g0 g) {x1 : Int32} {x2 : Int32} : pp (fun p : Int32 × mG => Md S g0 p.2) (P_X5_foes g x1 x2) :=
  (pp_bd (fun v1 => (pp_if (fun _ => (kl_J_X5_foes_28 h_g)) (fun _ => (pp_bd (fun v2 => (pp_if (fun _ => (kl_J_X5_foes_28 h_g)) (fun _ => (pp_bd (fun v3 => (pp_bd (fun v4 => (pp_if (fun _ => (kl_J_X5_foes_58 h_g)) (fun _ => (kl_J_X5_foes_58 h_g)))))))))))))))
theorem kl_J_X5_sets_9 {S : Nat → Nat → Bool} {g0 : mG} {g : mG} (h_g : Md S g0 g) : pp (fun p : Int32 × mG => Md S g0 p.2) (J_X5_sets_9 g) :=
  (pp_bo (kl_P_X5_refuse h_g) (fun v2 h1 => h1))
theorem kl_J_X5_sets_99 {S : Nat → Nat → Bool} {g0 : mG} {g : mG} (h_g : Md S g0 g) {s1 : Int32} : pp (fun p : Int32 × mG => Md S g0 p.2) (J_X5_sets_99 g s1) :=
  (pp_bo (kl_P_X5_answer h_g) (fun v2 h1 => h1))
theorem kl_J_X5_ticksUntil_40 {S : Nat → Nat → Bool} {g0 : mG} {g : mG} (h_g : Md S g0 g) {x1 : Int32} {x2 : Int32} {x3 : Int32} : pp2 (fun s : Int32 × mG => Md S g0 s.2) (fun p : Int32 × mG => Md S g0 p.2) (J_X5_ticksUntil_40 g x1 x2 x3) :=
  (pp2_bo (P := Md S g0) (Md.u1 h_g) (fun v2 h1 => (pp2_l h1)))
theorem kl_B_X5_ticksUntil_2 {S : Nat → Nat → Bool} {g0 : mG} {x1 : Int32} {x2 : Int32} : ∀ s : Int32 × mG, (fun s : Int32 × mG => Md S g0 s.2) s → pp2 (fun s : Int32 × mG => Md S g0 s.2) (fun p : Int32 × mG => Md S g0 p.2) (B_X5_ticksUntil_2 x1 x2 s) := by
  rintro ⟨x3, g⟩ h_s
  unfold B_X5_ticksUntil_2
  dsimp only
  exact (pp2_if (fun _ => (pp2_r (pp_bo (kl_P_X5_refuse h_s) (fun v2 h1 => h1)))) (fun _ => (pp2_bd (fun v3 => (pp2_if (fun _ => (pp2_if (fun _ => (pp2_bo (P := Md S g0) (Md.u1 h_s) (fun v5 h4 => (kl_J_X5_ticksUntil_40 h4)))) (fun _ => (kl_J_X5_ticksUntil_40 h_s)))) (fun _ => (pp2_r (pp_bo (kl_P_X5_answer h_s) (fun v7 h6 => h6)))))))))
theorem kl_P_X5_ticksUntil {S : Nat → Nat → Bool} {g0 : mG} {g : mG} (h_g : Md S g0 g) {x1 : Int32} {x2 : Int32} : pp (fun p : Int32 × mG => Md S g0 p.2) (P_X5_ticksUntil g x1 x2) :=
  (pp_wh (fun s : Int32 × mG => Md S g0 s.2) tm_X5_ticksUntil_2 kl_B_X5_ticksUntil_2 h_g)
theorem kl_P_X5_when {S : Nat → Nat → Bool} {g0 : mG} {g : mG} (h_g : Md S g0 g) {x1 : Int32} : pp (fun p : Int32 × mG => Md S g0 p.2) (P_X5_when g x1) :=
  (pp_bd (fun v1 => (pp_if (fun _ => (pp_bo (kl_P_X5_refuse h_g) (fun v3 h2 => h2))) (fun _ => (pp_bo (P := Md S g0) (Md.u1 h_g) (fun v5 h4 => (pp_bo (kl_P_X5_ticksUntil h4) (fun v7 h6 => h6))))))))
theorem kl_P_X5_worst {S : Nat → Nat → Bool} {g0 : mG} {g : mG} (h_g : Md S g0 g) {x1 : Int32} : pp (fun p : Int32 × mG => Md S g0 p.2) (P_X5_worst g x1) :=
  (pp_bd (fun v1 => (pp_if (fun _ => (pp_bo (kl_P_X5_refuse h_g) (fun v3 h2 => h2))) (fun _ => (pp_bo (P := Md S g0) (Md.u1 h_g) (fun v5 h4 => (pp_bo (P := Md S g0) (Md.u1 h4) (fun v7 h6 => (pp_bo (kl_P_X5_ticksUntil h6) (fun v9 h8 => h8))))))))))
theorem kl_P_X5_cleared {S : Nat → Nat → Bool} {g0 : mG} {g : mG} (h_g : Md S g0 g) : pp (fun p : Int32 × mG => Md S g0 p.2) (P_X5_cleared g) :=
  (pp_bo (P := Md S g0) (Md.u1 h_g) (fun v2 h1 => (pp_bo (kl_P_X5_ticksUntil h1) (fun v4 h3 => h3))))
theorem kl_P_X5_instep {S : Nat → Nat → Bool} {g0 : mG} {g : mG} (h_g : Md S g0 g) : pp (fun p : Int32 × mG => Md S g0 p.2) (P_X5_instep g) :=
  (pp_if (fun _ => (pp_bo (kl_P_X5_refuse h_g) (fun v2 h1 => h1))) (fun _ => (pp_bo (P := Md S g0) (Md.u1 h_g) (fun v4 h3 => (pp_bo (kl_P_X5_ticksUntil h3) (fun v6 h5 => h5))))))
theorem kl_P_X5_broken {S : Nat → Nat → Bool} {g0 : mG} {g : mG} (h_g : Md S g0 g) {x1 : Int32} : pp (fun p : Int32 × mG => Md S g0 p.2) (P_X5_broken g x1) :=
  (pp_bd (fun v1 => (pp_if (fun _ => (pp_bo (kl_P_X5_refuse h_g) (fun v3 h2 => h2))) (fun _ => (pp_bo (P := Md S g0) (Md.u1 h_g) (fun v5 h4 => (pp_bd (fun v6 => (pp_bo (kl_P_X5_ticksUntil (Md.u1 h4)) (fun v8 h7 => h7))))))))))
theorem kl_J_X5_paper_21 {S : Nat → Nat → Bool} {g0 : mG} {g : mG} (h_g : Md S g0 g) : pp (fun p : Int32 × mG => Md S g0 p.2) (J_X5_paper_21 g) :=
  (pp_bo (kl_P_X5_refuse h_g) (fun v2 h1 => h1))
theorem kl_P_X5_paper {S : Nat → Nat → Bool} {g0 : mG} {g : mG} (h_g : Md S g0 g) {x1 : Int32} {x2 : Int32} : pp (fun p : Int32 × mG => Md S g0 p.2) (P_X5_paper g x1 x2) :=
  (pp_if (fun _ => (kl_J_X5_paper_21 h_g)) (fun _ => (pp_if (fun _ => (kl_J_X5_paper_21 h_g)) (fun _ => (pp_if (fun _ => (kl_J_X5_paper_21 h_g)) (fun _ => (pp_if (fun _ => (pp_bo (P := Md S g0) (Md.u1 h_g) (fun v2 h1 => (pp_bo (P := Md S g0) (Md.u1 h1) (fun v4 h3 => (pp_if (fun _ => (pp_bd (fun v5 => (pp_bd (fun v6 => (pp_bo (kl_P_X5_answer h3) (fun v8 h7 => h7))))))) (fun _ => (pp_bo (kl_P_X5_answer h3) (fun v10 h9 => h9))))))))) (fun _ => (kl_J_X5_paper_21 h_g)))))))))
theorem kl_J_X5_bestMax_11 {S : Nat → Nat → Bool} {g0 : mG} {g : mG} (h_g : Md S g0 g) : pp (fun p : Int32 × mG => Md S g0 p.2) (J_X5_bestMax_11 g) :=
  (pp_bo (kl_P_X5_refuse h_g) (fun v2 h1 => h1))
theorem kl_J_X5_bestMax_125 {S : Nat → Nat → Bool} {g0 : mG} {g : mG} (h_g : Md S g0 g) {x1 : Int32} {x2 : Int32} {x3 : Int32} {x4 : Int32} {x5 : Int32} : pp2 (fun s : Int32 × Int32 × Int32 × mG => Md S g0 s.2.2.2) (fun p : Int32 × mG => Md S g0 p.2) (J_X5_bestMax_125 g x1 x2 x3 x4 x5) :=
  (pp2_l h_g)
theorem kl_J_X5_bestMax_113 {S : Nat → Nat → Bool} {g0 : mG} {g : mG} (h_g : Md S g0 g) {x1 : Int32} {x2 : Int32} {x5 : Int32} : pp2 (fun s : Int32 × Int32 × Int32 × mG => Md S g0 s.2.2.2) (fun p : Int32 × mG => Md S g0 p.2) (J_X5_bestMax_113 g x1 x2 x5) :=
  (kl_J_X5_bestMax_125 h_g)
theorem kl_B_X5_bestMax_51 {S : Nat → Nat → Bool} {g0 : mG} {x1 : Int32} {x2 : Int32} : ∀ s : Int32 × Int32 × Int32 × mG, (fun s : Int32 × Int32 × Int32 × mG => Md S g0 s.2.2.2) s → pp2 (fun s : Int32 × Int32 × Int32 × mG => Md S g0 s.2.2.2) (fun p : Int32 × mG => Md S g0 p.2) (B_X5_bestMax_51 x1 x2 s) := by
  rintro ⟨x3, x4, x5, g⟩ h_s
  unfold B_X5_bestMax_51
  dsimp only
  exact (pp2_bd (fun v1 => (pp2_if (fun _ => (pp2_r (pp_bo (kl_P_X5_answer h_s) (fun v3 h2 => h2)))) (fun _ => (pp2_bo (P := Md S g0) (Md.u1 h_s) (fun v5 h4 => (pp2_bo (P := Md S g0) (Md.u1 h4) (fun v7 h6 => (pp2_bo (P := Md S g0) (Md.u1 h6) (fun v9 h8 => (pp2_if (fun _ => (kl_J_X5_bestMax_113 h8)) (fun _ => (pp2_if (fun _ => (kl_J_X5_bestMax_125 h8)) (fun _ => (kl_J_X5_bestMax_113 h8)))))))))))))))
theorem kl_P_X5_bestMax {S : Nat → Nat → Bool} {g0 : mG} {g : mG} (h_g : Md S g0 g) {x1 : Int32} {x2 : Int32} : pp (fun p : Int32 × mG => Md S g0 p.2) (P_X5_bestMax g x1 x2) :=
  (pp_if (fun _ => (kl_J_X5_bestMax_11 h_g)) (fun _ => (pp_if (fun _ => (pp_bd (fun v1 => (pp_if (fun _ => (pp_bo (kl_P_X5_refuse h_g) (fun v3 h2 => h2))) (fun _ => (pp_bd (fun v4 => (pp_wh (fun s : Int32 × Int32 × Int32 × mG => Md S g0 s.2.2.2) tm_X5_bestMax_51 kl_B_X5_bestMax_51 h_g)))))))) (fun _ => (kl_J_X5_bestMax_11 h_g)))))
theorem kl_J_X5_cheapest_11 {S : Nat → Nat → Bool} {g0 : mG} {g : mG} (h_g : Md S g0 g) : pp (fun p : Int32 × mG => Md S g0 p.2) (J_X5_cheapest_11 g) :=
  (pp_bo (kl_P_X5_refuse h_g) (fun v2 h1 => h1))
theorem kl_J_X5_cheapest_128 {S : Nat → Nat → Bool} {g0 : mG} {g : mG} (h_g : Md S g0 g) {x1 : Int32} {x2 : Int32} {x3 : Int32} {x4 : Int32} : pp2 (fun s : Int32 × Int32 × Int32 × mG => Md S g0 s.2.2.2) (fun p : Int32 × mG => Md S g0 p.2) (J_X5_cheapest_128 g x1 x2 x3 x4) :=
  (pp2_l h_g)
theorem kl_J_X5_cheapest_117 {S : Nat → Nat → Bool} {g0 : mG} {g : mG} (h_g : Md S g0 g) {x1 : Int32} {x4 : Int32} : pp2 (fun s : Int32 × Int32 × Int32 × mG => Md S g0 s.2.2.2) (fun p : Int32 × mG => Md S g0 p.2) (J_X5_cheapest_117 g x1 x4) :=
  (kl_J_X5_cheapest_128 h_g)
theorem kl_B_X5_cheapest_43 {S : Nat → Nat → Bool} {g0 : mG} {x1 : Int32} : ∀ s : Int32 × Int32 × Int32 × mG, (fun s : Int32 × Int32 × Int32 × mG => Md S g0 s.2.2.2) s → pp2 (fun s : Int32 × Int32 × Int32 × mG => Md S g0 s.2.2.2) (fun p : Int32 × mG => Md S g0 p.2) (B_X5_cheapest_43 x1 s) := by
  rintro ⟨x2, x3, x4, g⟩ h_s
  unfold B_X5_cheapest_43
  dsimp only
  exact (pp2_if (fun _ => (pp2_r (pp_bo (kl_P_X5_answer h_s) (fun v2 h1 => h1)))) (fun _ => (pp2_bo (P := Md S g0) (Md.u1 h_s) (fun v4 h3 => (pp2_bd (fun v5 => (pp2_bo (P := Md S g0) (Md.u1 h3) (fun v7 h6 => (pp2_bo (P := Md S g0) (Md.u1 h6) (fun v9 h8 => (pp2_if (fun _ => (kl_J_X5_cheapest_117 h8)) (fun _ => (pp2_if (fun _ => (kl_J_X5_cheapest_128 h8)) (fun _ => (kl_J_X5_cheapest_117 h8)))))))))))))))
theorem kl_P_X5_cheapest {S : Nat → Nat → Bool} {g0 : mG} {g : mG} (h_g : Md S g0 g) {x1 : Int32} : pp (fun p : Int32 × mG => Md S g0 p.2) (P_X5_cheapest g x1) :=
  (pp_if (fun _ => (kl_J_X5_cheapest_11 h_g)) (fun _ => (pp_if (fun _ => (pp_if (fun _ => (pp_bo (kl_P_X5_refuse h_g) (fun v2 h1 => h1))) (fun _ => (pp_wh (fun s : Int32 × Int32 × Int32 × mG => Md S g0 s.2.2.2) tm_X5_cheapest_43 kl_B_X5_cheapest_43 h_g)))) (fun _ => (kl_J_X5_cheapest_11 h_g)))))
theorem kn_P_X5_mark {g0 : mG} {g : mG} (h_g : Md sN g0 g) {x1 : Int32} {x2 : Int32} {x3 : Int32} : pp (fun p : Int32 × mG => Md sN g0 p.2) (P_X5_mark g x1 x2 x3) :=
  (pp_if (fun _ => (kl_J_X5_mark_32 h_g)) (fun _ => (pp_if (fun _ => (kl_J_X5_mark_32 h_g)) (fun _ => (pp_bd (fun v1 => (pp_if (fun _ => (kl_J_X5_mark_32 h_g)) (fun _ => (pp_bd (fun v2 => (pp_if (fun _ => (pp_bd (fun v3 => (pp_if (fun _ => (pp_bo (kl_P_X5_refuse h_g) (fun v5 h4 => h4))) (fun _ => (pp_bd (fun v6 => (pp_bo (P := Md sN g0) (Md.u0 h_g (kn_P_X2_putMark (Md.k h_g))) (fun v8 h7 => (pp_bo (kl_P_X5_answer h7) (fun v10 h9 => h9))))))))))) (fun _ => (kl_J_X5_mark_32 h_g)))))))))))))
theorem kn_J_X5_clock_63 {g0 : mG} {g : mG} (h_g : Md sN g0 g) {x1 : Int32} {x2 : Int32} {s0 : Int32} : pp (fun p : Int32 × mG => Md sN g0 p.2) (J_X5_clock_63 g x1 x2 s0) :=
  (pp_if (fun _ => (pp_bo (kl_P_X5_refuse h_g) (fun v2 h1 => h1))) (fun _ => (pp_if (fun _ => (pp_bo (P := Md sN g0) (Md.u0 h_g (kn_P_X0_takeCycle (Md.k h_g))) (fun v4 h3 => (kl_J_X5_clock_101 h3)))) (fun _ => (kl_J_X5_clock_101 (Md.u0 h_g (Kp.w (Md.k h_g) rfl)))))))
theorem kn_J_X5_clock_36 {g0 : mG} {g : mG} (h_g : Md sN g0 g) {x1 : Int32} {x2 : Int32} : pp (fun p : Int32 × mG => Md sN g0 p.2) (J_X5_clock_36 g x1 x2) :=
  (pp_if (fun _ => (kn_J_X5_clock_63 h_g)) (fun _ => (kn_J_X5_clock_63 h_g)))
theorem kn_P_X5_clock {g0 : mG} {g : mG} (h_g : Md sN g0 g) {x1 : Int32} {x2 : Int32} : pp (fun p : Int32 × mG => Md sN g0 p.2) (P_X5_clock g x1 x2) :=
  (pp_if (fun _ => (kl_J_X5_clock_30 h_g)) (fun _ => (pp_if (fun _ => (kl_J_X5_clock_30 h_g)) (fun _ => (pp_if (fun _ => (pp_bd (fun v1 => (pp_if (fun _ => (kl_J_X5_clock_30 h_g)) (fun _ => (kn_J_X5_clock_36 h_g)))))) (fun _ => (pp_bd (fun v2 => (pp_if (fun _ => (kl_J_X5_clock_30 h_g)) (fun _ => (kn_J_X5_clock_36 h_g)))))))))))
theorem kn_J_X5_call_79 {g0 : mG} {g : mG} (h_g : Md sN g0 g) {x1 : Int32} {x2 : Int32} : pp (fun p : Int32 × mG => Md sN g0 p.2) (J_X5_call_79 g x1 x2) :=
  (pp_if (fun _ => (pp_if (fun _ => (pp_bo (P := Md sN g0) (Md.u0 h_g (kn_P_X0_takeCall (Md.k h_g))) (fun v2 h1 => (kl_J_X5_call_127 h1)))) (fun _ => (pp_bd (fun v3 => (kl_J_X5_call_127 (Md.u0 h_g (Kp.w (Md.k h_g) rfl)))))))) (fun _ => (pp_bo (kl_P_X5_deny h_g) (fun v5 h4 => h4))))
theorem kn_J_X5_call_41 {g0 : mG} {g : mG} (h_g : Md sN g0 g) {x1 : Int32} {x2 : Int32} {s0 : Int32} : pp (fun p : Int32 × mG => Md sN g0 p.2) (J_X5_call_41 g x1 x2 s0) :=
  (pp_bd (fun v1 => (pp_if (fun _ => (pp_if (fun _ => (kn_J_X5_call_79 h_g)) (fun _ => (pp_bd (fun v2 => (pp_if (fun _ => (pp_bo (kl_P_X5_deny h_g) (fun v4 h3 => h3))) (fun _ => (kn_J_X5_call_79 h_g)))))))) (fun _ => (pp_bo (kl_P_X5_deny h_g) (fun v6 h5 => h5))))))
theorem kn_P_X5_call {g0 : mG} {g : mG} (h_g : Md sN g0 g) {x1 : Int32} {x2 : Int32} : pp (fun p : Int32 × mG => Md sN g0 p.2) (P_X5_call g x1 x2) :=
  (pp_bd (fun v1 => (pp_if (fun _ => (pp_bo (kl_P_X5_deny h_g) (fun v3 h2 => h2))) (fun _ => (pp_if (fun _ => (kn_J_X5_call_41 h_g)) (fun _ => (kn_J_X5_call_41 h_g)))))))
theorem kn_P_X5_come {g0 : mG} {g : mG} (h_g : Md sN g0 g) {x1 : Int32} {x2 : Int32} : pp (fun p : Int32 × mG => Md sN g0 p.2) (P_X5_come g x1 x2) :=
  (pp_if (fun _ => (kl_J_X5_come_11 h_g)) (fun _ => (pp_if (fun _ => (pp_bd (fun v1 => (pp_if (fun _ => (pp_bo (kl_P_X5_refuse h_g) (fun v3 h2 => h2))) (fun _ => (pp_bd (fun v4 => (pp_if (fun _ => (pp_bo (P := Md sN g0) (Md.u0 h_g (kn_P_X0_putQueue (Md.k h_g))) (fun v6 h5 => (pp_bo (kl_P_X5_answer h5) (fun v8 h7 => h7))))) (fun _ => (pp_bo (kl_P_X5_refuse h_g) (fun v10 h9 => h9))))))))))) (fun _ => (kl_J_X5_come_11 h_g)))))
theorem kn_P_X5_ask {g0 : mG} {g : mG} (h_g : Md sN g0 g) {x1 : Int32} : pp (fun p : Int32 × mG => Md sN g0 p.2) (P_X5_ask g x1) :=
  (pp_bd (fun v1 => (pp_if (fun _ => (pp_bo (kl_P_X5_deny h_g) (fun v3 h2 => h2))) (fun _ => (pp_bd (fun v4 => (pp_if (fun _ => (pp_bd (fun v5 => (pp_bo (kl_P_X5_grant (Md.u0 h_g (Kp.w (Md.k h_g) rfl))) (fun v7 h6 => h6))))) (fun _ => (pp_bo (kl_P_X5_deny h_g) (fun v9 h8 => h8))))))))))
theorem kn_P_X5_let {g0 : mG} {g : mG} (h_g : Md sN g0 g) {x1 : Int32} : pp (fun p : Int32 × mG => Md sN g0 p.2) (P_X5_let g x1) :=
  (pp_bd (fun v1 => (pp_if (fun _ => (pp_bo (kl_P_X5_deny h_g) (fun v3 h2 => h2))) (fun _ => (pp_bd (fun v4 => (pp_if (fun _ => (pp_bo (kl_P_X5_deny h_g) (fun v6 h5 => h5))) (fun _ => (pp_bd (fun v7 => (pp_bo (kl_P_X5_grant (Md.u0 h_g (Kp.w (Md.k h_g) rfl))) (fun v9 h8 => h8))))))))))))
theorem kn_P_X5_brakes {g0 : mG} {g : mG} (h_g : Md sN g0 g) {x1 : Int32} {x2 : Int32} {x3 : Int32} {x4 : Int32} {x5 : Int32} {x6 : Int32} : pp (fun p : Int32 × mG => Md sN g0 p.2) (P_X5_brakes g x1 x2 x3 x4 x5 x6) :=
  (pp_bd (fun v1 => (pp_if (fun _ => (kl_J_X5_brakes_56 h_g)) (fun _ => (pp_bd (fun v2 => (pp_if (fun _ => (kl_J_X5_brakes_56 h_g)) (fun _ => (pp_bd (fun v3 => (pp_if (fun _ => (kl_J_X5_brakes_56 h_g)) (fun _ => (pp_bd (fun v4 => (pp_if (fun _ => (kl_J_X5_brakes_56 h_g)) (fun _ => (pp_if (fun _ => (kl_J_X5_brakes_56 h_g)) (fun _ => (pp_if (fun _ => (pp_bd (fun v5 => (pp_if (fun _ => (pp_bo (kl_P_X5_deny h_g) (fun v7 h6 => h6))) (fun _ => (pp_if (fun _ => (pp_bo (kl_P_X5_deny h_g) (fun v9 h8 => h8))) (fun _ => (pp_bd (fun v10 => (pp_if (fun _ => (pp_bd (fun v11 => (pp_if (fun _ => (pp_bo (P := Md sN g0) (Md.u0 h_g (kn_P_X2_putBreak (Md.k h_g))) (fun v13 h12 => (pp_bo (P := Md sN g0) (Md.u0 h12 (kn_P_X2_putBreak (Md.k h12))) (fun v15 h14 => (pp_bo (P := Md sN g0) (Md.u0 h14 (kn_P_X2_putBreak (Md.k h14))) (fun v17 h16 => (pp_bo (P := Md sN g0) (Md.u0 h16 (kn_P_X2_putBreak (Md.k h16))) (fun v19 h18 => (pp_bo (P := Md sN g0) (Md.u0 h18 (kn_P_X2_putBreak (Md.k h18))) (fun v21 h20 => (pp_bo (kl_P_X5_grant h20) (fun v23 h22 => h22))))))))))))) (fun _ => (kl_J_X5_brakes_121 h_g)))))) (fun _ => (kl_J_X5_brakes_121 h_g)))))))))))) (fun _ => (kl_J_X5_brakes_56 h_g)))))))))))))))))))))
theorem kn_P_X5_stick {g0 : mG} {g : mG} (h_g : Md sN g0 g) {x1 : Int32} {x2 : Int32} : pp (fun p : Int32 × mG => Md sN g0 p.2) (P_X5_stick g x1 x2) :=
  (pp_bd (fun v1 => (pp_if (fun _ => (pp_bo (kl_P_X5_deny h_g) (fun v3 h2 => h2))) (fun _ => (pp_bd (fun v4 => (pp_if (fun _ => (pp_bo (kl_P_X5_deny h_g) (fun v6 h5 => h5))) (fun _ => (pp_bd (fun v7 => (pp_bo (kl_P_X5_grant (Md.u0 h_g (Kp.w (Md.k h_g) rfl))) (fun v9 h8 => h8))))))))))))
theorem kn_P_X5_reset {g0 : mG} {g : mG} (h_g : Md sN g0 g) : pp (fun p : Int32 × mG => Md sN g0 p.2) (P_X5_reset g) :=
  (pp_if (fun _ => (pp_bo (kl_P_X5_deny h_g) (fun v2 h1 => h1))) (fun _ => (pp_bo (P := Md sN g0) (Md.u0 (Md.u0 h_g (Kp.w (Md.k h_g) rfl)) (kn_P_X0_startRings (Md.k (Md.u0 h_g (Kp.w (Md.k h_g) rfl))))) (fun v4 h3 => (pp_bo (P := Md sN g0) (Md.u0 h3 (kn_P_X1_note (Md.k h3))) (fun v6 h5 => (pp_bo (kl_P_X5_grant h5) (fun v8 h7 => h7))))))))
theorem kn_P_X5_tick {g0 : mG} {g : mG} (h_g : Md sN g0 g) {x1 : Int32} : pp (fun p : Int32 × mG => Md sN g0 p.2) (P_X5_tick g x1) :=
  (pp_if (fun _ => (kl_J_X5_tick_12 h_g)) (fun _ => (pp_if (fun _ => (pp_bo (P := Md sN g0) (Md.u0 h_g (kn_P_X0_passTicks (Md.k h_g))) (fun v2 h1 => (pp_bo (kl_P_X5_answer h1) (fun v4 h3 => h3))))) (fun _ => (kl_J_X5_tick_12 h_g)))))
theorem kn_B_X5_run_46 {g0 : mG} {x1 : Int32} {x3 : Int32} : ∀ s : Int32 × Int32 × mG, (fun s : Int32 × Int32 × mG => Md sN g0 s.2.2) s → pp2 (fun s : Int32 × Int32 × mG => Md sN g0 s.2.2) (fun p : Int32 × mG => Md sN g0 p.2) (B_X5_run_46 x1 x3 s) := by
  rintro ⟨x4, x5, g⟩ h_s
  unfold B_X5_run_46
  dsimp only
  exact (pp2_if (fun _ => (pp2_r (pp_bd (fun v1 => (pp_bo (kl_P_X5_answer h_s) (fun v3 h2 => h2)))))) (fun _ => (pp2_bo (kn_P_X0_takeComers (Md.k h_s)) (fun v5 h4 => (pp2_bo (P := Md sN g0) (Md.u0 (Md.u0 h_s h4) (kn_P_X0_passTick (Md.k (Md.u0 h_s h4)))) (fun v7 h6 => (pp2_l h6)))))))
theorem kn_P_X5_run {g0 : mG} {g : mG} (h_g : Md sN g0 g) {x1 : Int32} {x2 : Int32} : pp (fun p : Int32 × mG => Md sN g0 p.2) (P_X5_run g x1 x2) :=
  (pp_if (fun _ => (kl_J_X5_run_23 h_g)) (fun _ => (pp_if (fun _ => (kl_J_X5_run_23 h_g)) (fun _ => (pp_if (fun _ => (kl_J_X5_run_23 h_g)) (fun _ => (pp_if (fun _ => (pp_bd (fun v1 => (pp_wh (fun s : Int32 × Int32 × mG => Md sN g0 s.2.2) tm_X5_run_46 kn_B_X5_run_46 h_g)))) (fun _ => (kl_J_X5_run_23 h_g)))))))))
