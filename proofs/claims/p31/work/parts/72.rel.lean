/-! What stands between calls -/
/-- the plan holds 0 to 8 phases -/
def r8 (c : mC) : Prop := r08 (c 1 0)
theorem r8.kn {c c' : mC} (h : r8 c) (k : Kp sN c c') : r8 c' := by
  unfold r8
  rw [k 1 0 rfl]; exact h
theorem r8_lt {c : mC} (h : r8 c) (hn : c 1 0 < 8) : rP (c 1 0) := by
  obtain ⟨p, hp, e⟩ := h
  refine ⟨p, ?_, e⟩
  have : ¬ p = 8 := fun z => absurd hn (by rw [e, z]; decide)
  omega
theorem kr_B137 {c0 : mC} : ∀ s : Int32 × mC, Kp sN c0 s.2 → pp2 (fun s : Int32 × mC => Kp sN c0 s.2) (fun p : mC => p 1 0 = c0 1 0 + 1) (B_X2_addPhase_137 s) := by
  rintro ⟨x3, c⟩ h
  have e : c 1 0 = c0 1 0 := h 1 0 rfl
  show pp2 _ _ (if 10 ≤ x3 then _ else _)
  exact pp2_if (fun _ => pp2_r (show c 1 0 + 1 = c0 1 0 + 1 by rw [e])) (fun _ => pp2_bd (fun v => pp2_bo (kn_P_X2_putMark h) (fun c2 h2 => pp2_l h2)))
theorem kr_J34 {c0 c : mC} {Q : mC → Prop} (h : Kp sN c0 c) {x1 x2 x3 : Int32} : pp2 (fun s : Int32 × mC => Kp sN c0 s.2) Q (J_X2_addPhase_34 c x1 x2 x3) := pp2_bd (fun _ => pp2_bd (fun _ => pp2_bo (P := Kp sN c0) (Kp.pu h (fun _ => rfl)) (fun _ h3 => pp2_bd (fun _ => pp2_bd (fun _ => pp2_bo (P := Kp sN c0) (Kp.pu h3 (fun _ => rfl)) (fun _ h6 => pp2_l h6))))))
theorem kr_addPhase {c0 c : mC} (h : Kp sN c0 c) {x1 x2 : Int32} : pp (fun p : mC => p 1 0 = c0 1 0 + 1) (P_X2_addPhase c x1 x2) := by
  refine pp_wh (fun s : Int32 × mC => Kp sN c0 s.2) tm_X2_addPhase_2 ?_ h
  rintro ⟨x3, c⟩ h
  show pp2 _ _ (if c 1 0 ≤ x3 then _ else _)
  refine pp2_if (fun _ => pp2_r ?_) (fun _ => ?_)
  · exact pp_bo (P := Kp sN c0) (Kp.pu h (fun _ => rfl)) (fun c1 h1 => pp_bo (P := Kp sN c0) (Kp.pu h1 (fun _ => rfl)) (fun c2 h2 => pp_bd (fun v3 => pp_bd (fun v4 => pp_bo (P := Kp sN c0) (Kp.pu h2 (fun _ => rfl)) (fun c5 h5 => pp_wh (fun s : Int32 × mC => Kp sN c0 s.2) tm_X2_addPhase_137 kr_B137 h5)))))
  · exact pp2_bd (fun v6 => pp2_if (fun _ => kr_J34 h) (fun _ => pp2_bd (fun v7 => pp2_if (fun _ => pp2_l h) (fun _ => kr_J34 h))))
theorem kr_readPhase {c : mC} (h : r8 c) : pp r8 (P_X3_readPhase c) := by
  unfold P_X3_readPhase
  refine pp_if (fun q => ?_) (fun _ => pp_bo (kn_P_X3_fail (c0 := c) Kp.rf) (fun c7 h7 => h.kn h7))
  refine pp_bo (kn_P_X3_step (c0 := c) Kp.rf) (fun c1 h1 => pp_bo (kn_P_X3_takeNumber h1) (fun p2 h2 => pp_bo (kn_P_X3_takeNumber h2) (fun p3 h3 => pp_if (fun _ => ?_) (fun _ => ?_))))
  · refine pp_bo (kr_addPhase h3) (fun c4 h4 => pp_bo (kn_P_X3_readMarks (c0 := c4) Kp.rf) (fun c5 h5 => ?_))
    have h6 : Kp sN c4 (J_X3_readPhase_66 c5) := kn_J_X3_readPhase_66 h5
    show r08 ((J_X3_readPhase_66 c5) 1 0)
    rw [h6 1 0 rfl, h4]
    exact rP_up (r8_lt h q)
  · exact h.kn (kn_J_X3_readPhase_66 h3)
theorem kr_readText {c : mC} {x1 : Int32} : pp r8 (P_X3_readText c x1) := by
  refine pp_bo (P := fun c1 : mC => c1 1 0 = 0) (show (P_X2_wipe c) 1 0 = 0 from rfl) (fun c1 h1 => pp_bd (fun v2 => pp_bo (kn_P_X3_step (c0 := c1) (((((((Kp.rf.w rfl).w rfl).w rfl).w rfl).w rfl).w rfl).w rfl)) (fun c3 h3 => ?_)))
  have h8 : r8 c3 := by
    unfold r8
    rw [h3 1 0 rfl, h1]; exact r08_0
  refine pp_wh (fun s : Int32 × mC => r8 s.2) tm_X3_readText_56 ?_ h8
  rintro ⟨x2, c⟩ h
  have h : r8 c := h
  show pp2 _ _ (if 700 < x2 then _ else _)
  exact pp2_if (fun _ => pp2_r h) (fun _ => pp2_if (fun _ => pp2_if (fun _ => pp2_r h) (fun _ => pp2_bd (fun v1 => pp2_if (fun _ => pp2_bd (fun v2 => pp2_if (fun _ => pp2_bd (fun v3 => pp2_if (fun _ => pp2_bd (fun v4 => pp2_if (fun _ => pp2_bo (kn_P_X3_fail (c0 := c) Kp.rf) (fun c5 h5 => pp2_l (h.kn h5))) (fun _ => pp2_bo (kn_P_X3_readBreak (c0 := c) Kp.rf) (fun c6 h6 => pp2_l (h.kn h6))))) (fun _ => pp2_bo (kn_P_X3_readOffset (c0 := c) Kp.rf) (fun c8 h8 => pp2_l (h.kn h8))))) (fun _ => pp2_bo (kn_P_X3_readCycle (c0 := c) Kp.rf) (fun c10 h10 => pp2_l (h.kn h10))))) (fun _ => pp2_bo (kr_readPhase h) (fun c12 h12 => pp2_l h12))))) (fun _ => pp2_r h))
theorem tf2_n (c co : mC) : P_X2_takeFrom c co 1 0 = co 1 0 := rfl
theorem tf0_n (c co : mC) : P_X0_takeFrom c co 1 0 = co 1 0 := rfl
theorem kt_sets {S : Nat → Nat → Bool} {g0 g : mG} (h : Md S g0 g) {x1 : Int32} : pp (fun p : Int32 × mG => Md S g0 p.2) (P_X5_sets g x1) := by
  refine pp_if (fun _ => kl_J_X5_sets_9 h) (fun _ => pp_if (fun _ => ?_) (fun _ => kl_J_X5_sets_9 h))
  refine pp_wd (Q := fun p : Int32 × mG => Md S g0 p.2) (fun _ => True) h ?_ trivial
  rintro ⟨x2, x3, x4, x5⟩ _
  unfold B_X5_sets_25
  dsimp only
  exact pp2_bd (fun v1 => pp2_if (fun _ => pp2_r (pp_if (fun _ => kl_J_X5_sets_99 h) (fun _ => kl_J_X5_sets_99 h))) (fun _ => pp2_bd (fun v3 => pp2_if (fun _ => pp2_l trivial) (fun _ => pp2_bd (fun v4 => pp2_if (fun _ => pp2_l trivial) (fun _ => pp2_l trivial))))))
/-- what stands between calls: k kept, t on the tape -/
def R0 (k t : Nat) (g : mG) : Prop := Inv k (g 7) ∧ t ≤ 700 ∧ g 7 20 8 = nI t ∧ g 6 18 7 = nI t ∧ g 6 18 6 = nI k ∧ r8 (g 0) ∧ ∀ i, i < k → r8 (g (2 + i))
theorem R0.up {k t : Nat} {g g1 : mG} {c : mC} (h : R0 k t g) (hm : Md sN g g1) (hp : H (g 7) c) : R0 k t (mU g1 7 c) := by
  obtain ⟨h1, h2, h3, h4, h5, h6, h7⟩ := h
  obtain ⟨m1, m2, m3⟩ := hm
  have hk := h1.2.2.1
  refine ⟨?_, h2, ?_, ?_, ?_, ?_, fun i hi => ?_⟩
  · rw [mU_same]; exact h1.h hp
  · rw [mU_same]; exact (hp.2.2.2.2 8 (by decide) (by decide) (by decide) (by decide)).trans h3
  · rw [mU_ne _ _ (by decide), m2 18 7 (by decide)]; exact h4
  · rw [mU_ne _ _ (by decide), m2 18 6 (by decide)]; exact h5
  · rw [mU_ne _ _ (by decide)]; exact h6.kn m3
  · rw [mU_ne _ _ (by omega), m1 _ (by omega) (by omega) (by omega)]; exact h7 i hi
theorem R0.st {k t : Nat} {g g1 : mG} {v : Int32} {o : Option (Int32 × mC)} (h : R0 k t g) (hm : Md sN g g1) (ho : ok (fun p : Int32 × mC => H (g 7) p.2) o) : ∃ w g2, mBo none o (fun q => some ((v, q.1), mU g1 7 q.2)) = some ((v, w), g2) ∧ R0 k t g2 := by
  obtain ⟨p, rfl, hp⟩ := ho
  exact ⟨p.1, mU g1 7 p.2, rfl, h.up hm hp⟩
-- feed
def FdC (n : Nat) (g0 g : mG) : Prop := (∀ i, i ≠ 5 → i ≠ 6 → g i = g0 i) ∧ (∀ j k, ¬ (j = 18 ∧ k = 7) → g 6 j k = g0 6 j k) ∧ g 6 18 7 = nI n
theorem FdC.s {n : Nat} {g0 g : mG} (h : FdC n g0 g) {x s : Int32} : FdC (n + 1) g0 (tp1 x s g) := by
  obtain ⟨h1, h2, h3⟩ := h
  refine ⟨fun i a b => ?_, fun j k hn => ?_, ?_⟩
  · unfold tp1
    rw [mU_ne _ _ b, mU_ne _ _ a]; exact h1 i a b
  · unfold tp1
    rw [mU_same]
    show (if j = 18 ∧ k = 7 then _ else g 6 j k) = _
    rw [if_neg hn]; exact h2 j k hn
  · unfold tp1
    rw [mU_same]
    show g 6 18 7 + 1 = _
    rw [h3]; exact nI_1 n
theorem FdC.four {n : Nat} {g0 g : mG} (h : FdC n g0 g) {x : Int32} : FdC (n + 4) g0 (P_X5_tapeFour g x) := h.s.s.s.s
theorem Inv.eq {k : Nat} {c c' : mC} (h : Inv k c) (e : c' 21 = c 21) (e2 : c' 20 2 = c 20 2) : Inv k c' := by
  obtain ⟨h1, h2, h3, h4, h5⟩ := h
  refine ⟨?_, ?_, h3, e2.trans h4, fun i hi => ?_⟩
  · show Sr (c' 21)
    rw [e]; exact h1
  · show Sr (fun k => c' 21 (288 + k))
    rw [e]; exact h2
  · rw [e]; exact h5 i hi
theorem fr4_o (x : Int32) (c : mC) : fr4 x c 21 = c 21 ∧ fr4 x c 20 2 = c 20 2 := ⟨rfl, rfl⟩
theorem fd5_o (c : mC) (x1 x2 x3 x4 x5 : Int32) : fd5 c x1 x2 x3 x4 x5 21 = c 21 ∧ fd5 c x1 x2 x3 x4 x5 20 2 = c 20 2 := by
  unfold fd5
  exact ⟨(fr4_o _ _).1.trans ((fr4_o _ _).1.trans ((fr4_o _ _).1.trans ((fr4_o _ _).1.trans (fr4_o _ _).1))), (fr4_o _ _).2.trans ((fr4_o _ _).2.trans ((fr4_o _ _).2.trans ((fr4_o _ _).2.trans (fr4_o _ _).2)))⟩
theorem sg_1 {k t : Nat} {g : mG} (h : R0 k t g) (a : Nat → Int32) : ∃ v w g2, lwR_1 g a = some ((v, w), g2) ∧ (∃ t, R0 k t g2) ∧ v = w := by
  have hk := h.1.2.2.1
  unfold lwR_1 P_X5_feed
  by_cases h6 : t ≤ 680
  · have hc : g 6 18 7 + 20 ≤ 700 := by
      rw [h.2.2.2.1]
      show nI t + nI 20 ≤ nI 700
      rw [nI_add]
      exact (nI_leI (by omega) (by decide)).mpr (by omega)
    rw [if_pos hc]
    have hf : FdC (t + 4 + 4 + 4 + 4 + 4) g (P_X5_tapeFour (P_X5_tapeFour (P_X5_tapeFour (P_X5_tapeFour (P_X5_tapeFour g (a 1)) (a 2)) (a 3)) (a 4)) (a 5)) := FdC.four (FdC.four (FdC.four (FdC.four (FdC.four ⟨fun _ _ _ => rfl, fun _ _ _ => rfl, h.2.2.2.1⟩))))
    generalize P_X5_tapeFour (P_X5_tapeFour (P_X5_tapeFour (P_X5_tapeFour (P_X5_tapeFour g (a 1)) (a 2)) (a 3)) (a 4)) (a 5) = g1 at hf ⊢
    obtain ⟨f1, f2, f3⟩ := hf
    dsimp only
    rw [f1 7 (by decide) (by decide), feed_eq h.2.2.1 h.2.1, if_pos h6]
    have o := fd5_o (g 7) (a 1) (a 2) (a 3) (a 4) (a 5)
    refine ⟨_, _, _, rfl, ⟨t + 20, ?_, by omega, ?_, ?_, ?_, ?_, fun i hi => ?_⟩, f3⟩
    · rw [mU_same]; exact h.1.eq o.1 o.2
    · rw [mU_same]
      exact fr4_t (fr4_t (fr4_t (fr4_t (fr4_t h.2.2.1))))
    · rw [mU_ne _ _ (by decide)]; exact f3
    · rw [mU_ne _ _ (by decide), f2 18 6 (by decide)]; exact h.2.2.2.2.1
    · rw [mU_ne _ _ (by decide), f1 0 (by decide) (by decide)]; exact h.2.2.2.2.2.1
    · rw [mU_ne _ _ (by omega), f1 _ (by omega) (by omega)]; exact h.2.2.2.2.2.2 i hi
  · have hc : ¬ g 6 18 7 + 20 ≤ 700 := by
      rw [h.2.2.2.1]
      show ¬ nI t + nI 20 ≤ nI 700
      rw [nI_add]
      have := h.2.1
      exact fun z => h6 (by have := (nI_leI (by omega) (by decide)).mp z; omega)
    rw [if_neg hc]
    dsimp only
    rw [feed_eq h.2.2.1 h.2.1, if_neg h6]
    refine ⟨_, _, _, rfl, ⟨t, ?_⟩, rfl⟩
    rw [mU_self]; exact h
-- load
def Lc (g0 g : mG) : Prop := (∀ i, i ≠ 0 → i ≠ 5 → i ≠ 6 → g i = g0 i) ∧ g 6 18 7 = 0 ∧ g 6 18 6 = g0 6 18 6 ∧ r8 (g 0)
theorem Lc.u0 {g0 g : mG} {c : mC} (h : Lc g0 g) (hc : r8 c) : Lc g0 (mU g 0 c) := by
  obtain ⟨h1, h2, h3, h4⟩ := h
  refine ⟨fun i a b d => ?_, ?_, ?_, ?_⟩
  · rw [mU_ne _ _ a]; exact h1 i a b d
  · rw [mU_ne _ _ (by decide)]; exact h2
  · rw [mU_ne _ _ (by decide)]; exact h3
  · rw [mU_same]; exact hc
theorem Lc.u6 {g0 g : mG} {v : Int32} (h : Lc g0 g) : Lc g0 (mU g 6 (mP (g 6) 18 9 v)) := by
  obtain ⟨h1, h2, h3, h4⟩ := h
  refine ⟨fun i a b d => ?_, ?_, ?_, ?_⟩
  · rw [mU_ne _ _ d]; exact h1 i a b d
  · rw [mU_same]; exact h2
  · rw [mU_same]; exact h3
  · rw [mU_ne _ _ (by decide)]; exact h4
theorem isF_t {x : Int32} {t : Nat} : P_X6_isFrom x 0 (nI t) = if x < 0 then 0 else if x ≤ nI t then 1 else 0 := by
  unfold P_X6_isFrom J_X6_isFrom_14
  by_cases q : x < 0
  · rw [if_pos q, if_pos q]
  · rw [if_neg q, if_neg q]
    by_cases q2 : nI t < x
    · rw [if_pos q2, if_neg (Int32.not_le.mpr q2)]
    · rw [if_neg q2, if_pos (Int32.not_lt.mp q2)]
theorem cl_load {t : Nat} {g : mG} (e : g 6 18 7 = nI t) (h8 : r8 (g 0)) {x : Int32} : (P_X6_isFrom x 0 (nI t) = 0 ∧ P_X5_load g x = J_X5_load_12 g) ∨ (¬ P_X6_isFrom x 0 (nI t) = 0 ∧ Lc g (P_X5_load g x).2) := by
  unfold P_X5_load
  rw [isF_t, e]
  by_cases q : x < 0
  · left
    rw [if_pos q, if_pos q]
    exact ⟨rfl, rfl⟩
  · rw [if_neg q, if_neg q]
    by_cases q2 : x ≤ nI t
    · right
      rw [if_pos q2, if_pos q2]
      refine ⟨by decide, ?_⟩
      show pp (fun p : Int32 × mG => Lc g p.2) _
      refine pp_bo (P := fun g1 : mG => Lc g g1 ∧ r8 (g1 5)) ?_ (fun g1 h1 => ?_)
      · refine ⟨⟨fun i a b d => ?_, ?_, ?_, ?_⟩, ?_⟩
        · rw [mU_ne _ _ b, mU_ne _ _ d, mU_ne _ _ d]
        · rw [mU_ne _ _ (by decide), mU_same, mU_same]; rfl
        · rw [mU_ne _ _ (by decide), mU_same, mU_same]; rfl
        · rw [mU_ne _ _ (by decide), mU_ne _ _ (by decide), mU_ne _ _ (by decide)]; exact h8
        · rw [mU_same]; exact kr_readText
      · obtain ⟨h1, h5⟩ := h1
        refine pp_if (fun _ => ?_) (fun _ => ?_)
        · refine pp_bo (P := fun g2 : mG => Lc g g2) (h1.u0 (show r08 _ by rw [tf2_n]; exact h5)) (fun g2 h2 => pp_bo (P := fun g3 : mG => Lc g g3) (h2.u0 (h2.2.2.2.kn (kn_P_X0_beginAnew (c0 := g2 0) Kp.rf))) (fun g3 h3 => ?_))
          exact h3.u6
        · exact h1.u6
    · left
      rw [if_neg q2, if_neg q2]
      exact ⟨rfl, rfl⟩
theorem Inv.ld {k : Nat} {c c' : mC} (h : Inv k c) (z : Ld c c') : Inv k c' := by
  obtain ⟨_, _, h3, h4, h5⟩ := h
  obtain ⟨z1, z2, z3, z4, _⟩ := z
  exact ⟨z1, z2, h3, z4.trans h4, fun i hi => (h5 i hi).congr (fun q _ => z3 _ (by omega))⟩
theorem sg_2 {k t : Nat} {g : mG} (h : R0 k t g) (a : Nat → Int32) : ∃ v w g2, lwR_2 g a = some ((v, w), g2) ∧ ∃ t, R0 k t g2 := by
  have hk := h.1.2.2.1
  obtain ⟨p, ep, hp⟩ := t_load h.1.1 h.2.1 h.2.2.1 (x := a 1)
  unfold lwR_2
  rcases cl_load h.2.2.2.1 h.2.2.2.2.2.1 (x := a 1) with ⟨q, e⟩ | ⟨q, l1, l2, l3, l4⟩
  · have hm : Md sN g (J_X5_load_12 g).2 := kl_J_X5_load_12 (S := sN) (Md.rf (g := g))
    rw [e, hm.1 7 (by decide) (by decide) (by decide), ep]
    refine ⟨_, _, _, rfl, t, h.up hm ?_⟩
    rcases hp with ⟨_, e2⟩ | ⟨n, _⟩
    · rw [e2]; exact h.1.hh.m (Or.inl rfl)
    · exact absurd q n
  · rw [l1 7 (by decide) (by decide) (by decide), ep]
    rcases hp with ⟨z, _⟩ | ⟨_, hl⟩
    · exact absurd z q
    · refine ⟨_, _, _, rfl, 0, ?_, by decide, ?_, ?_, ?_, ?_, fun i hi => ?_⟩
      · rw [mU_same]; exact h.1.ld hl
      · rw [mU_same]; exact hl.2.2.2.2
      · rw [mU_ne _ _ (by decide)]; exact l2
      · rw [mU_ne _ _ (by decide), l3]; exact h.2.2.2.2.1
      · rw [mU_ne _ _ (by decide)]; exact l4
      · rw [mU_ne _ _ (by omega), l1 _ (by omega) (by omega) (by omega)]; exact h.2.2.2.2.2.2 i hi
-- keep, back
theorem kat {i : Nat} (h : i < 3) : P_X5_keptAt (nI i) = 2 + i := by
  have : i = 0 ∨ i = 1 ∨ i = 2 := by omega
  rcases this with rfl | rfl | rfl <;> rfl
theorem sg_22 {k t : Nat} {g : mG} (h : R0 k t g) (a : Nat → Int32) : ∃ v w g2, lwR_22 g a = some ((v, w), g2) ∧ (∃ k, R0 k t g2) ∧ v = w := by
  have hk := h.1.2.2.1
  have e6 := h.2.2.2.2.1
  unfold lwR_22 P_X5_keep
  by_cases h3 : k = 3
  · subst h3
    rw [e6, if_neg (show ¬ nI 3 < 3 by decide)]
    have hm : Md sN g (P_X5_refuse g 3).2 := kl_P_X5_refuse (S := sN) (Md.rf (g := g))
    rw [hm.1 7 (by decide) (by decide) (by decide), keep_3 h.1.2.2.2.1]
    exact ⟨_, _, _, rfl, ⟨3, h.up hm (h.1.hh.m (Or.inl rfl))⟩, rfl⟩
  · have hl : k < 3 := by omega
    have hc : g 6 18 6 < 3 := by
      rw [e6]
      exact Int32.not_le.mp (fun z => absurd ((nI_leI (a := 3) (by decide) (by omega)).mp z) (by omega))
    rw [if_pos hc]
    have a6 : kp1 g 6 = g 6 := by
      unfold kp1
      rw [e6, kat hl, mU_ne _ _ (by omega)]
    have b6 : kp2 g 6 = mP (g 6) 18 6 (nI (k + 1)) := by
      unfold kp2
      rw [mU_same, a6, e6, show nI k + 1 = nI (k + 1) from nI_1 k]
    have bo : ∀ i, i ≠ 6 → i ≠ 2 + k → kp2 g i = g i := fun i hi hn => by
      unfold kp2 kp1
      rw [mU_ne _ _ hi, e6, kat hl, mU_ne _ _ hn]
    have bk : kp2 g (2 + k) = P_X0_takeFrom (g (2 + k)) (g 0) := by
      unfold kp2 kp1
      rw [mU_ne _ _ (by omega), e6, kat hl, mU_same]
    have ev : kp2 g 6 18 6 = nI (k + 1) := by rw [b6, mP_s]
    rw [ev]
    have hm : Md sN (kp2 g) (P_X5_answer (kp2 g) (nI (k + 1))).2 := kl_P_X5_answer (S := sN) (Md.rf (g := kp2 g))
    rw [hm.1 7 (by decide) (by decide) (by decide), bo 7 (by decide) (by omega), keep_n hl h.1.2.2.2.1]
    have hv := h.1.keep hl
    obtain ⟨m1, m2, m3⟩ := hm
    refine ⟨_, _, _, rfl, ⟨k + 1, ?_, h.2.1, ?_, ?_, ?_, ?_, fun i hi => ?_⟩, rfl⟩
    · rw [mU_same]; exact hv
    · rw [mU_same]; exact h.2.2.1
    · rw [mU_ne _ _ (by decide), m2 18 7 (by decide), b6, mP_n _ _ _ (by decide)]; exact h.2.2.2.1
    · rw [mU_ne _ _ (by decide), m2 18 6 (by decide)]; exact ev
    · rw [mU_ne _ _ (by decide)]
      refine r8.kn ?_ m3
      rw [bo 0 (by decide) (by omega)]; exact h.2.2.2.2.2.1
    · rw [mU_ne _ _ (by omega), m1 _ (by omega) (by omega) (by omega)]
      by_cases z : i = k
      · subst z
        rw [bk]
        show r08 _
        rw [tf0_n]; exact h.2.2.2.2.2.1
      · rw [bo _ (by omega) (by omega)]; exact h.2.2.2.2.2.2 i (by omega)
theorem sg_23 {k t : Nat} {g : mG} (h : R0 k t g) (a : Nat → Int32) : ∃ v w g2, lwR_23 g a = some ((v, w), g2) ∧ (∃ k, R0 k t g2) ∧ v = w := by
  have hk := h.1.2.2.1
  have e6 := h.2.2.2.2.1
  unfold lwR_23 P_X5_back
  cases k with
  | zero =>
    rw [e6, if_neg (show ¬ 1 ≤ nI 0 by decide)]
    have hm : Md sN g (P_X5_refuse g 5).2 := kl_P_X5_refuse (S := sN) (Md.rf (g := g))
    rw [hm.1 7 (by decide) (by decide) (by decide), back_0 h.1.2.2.2.1]
    exact ⟨_, _, _, rfl, ⟨0, h.up hm (h.1.hh.m (Or.inl rfl))⟩, rfl⟩
  | succ i =>
    have hl : i < 3 := by omega
    have hc : 1 ≤ g 6 18 6 := by
      rw [e6]
      exact (nI_leI (a := 1) (by decide) (by omega)).mpr (by omega)
    rw [if_pos hc]
    have a6 : bk1 g 6 = mP (g 6) 18 6 (nI i) := by
      unfold bk1
      rw [mU_same, e6, ← nI_1, Int32.add_sub_cancel]
    have ao : ∀ j, j ≠ 6 → bk1 g j = g j := fun j hj => by
      unfold bk1
      rw [mU_ne _ _ hj]
    have e1 : bk1 g 6 18 6 = nI i := by rw [a6, mP_s]
    have b6 : bk2 g 6 = mP (g 6) 18 6 (nI i) := by
      unfold bk2
      rw [mU_ne _ _ (by decide), a6]
    have b0 : bk2 g 0 = P_X0_takeFrom (g 0) (g (2 + i)) := by
      unfold bk2
      rw [mU_same, e1, kat hl, ao 0 (by decide), ao _ (by omega)]
    have bo : ∀ j, j ≠ 0 → j ≠ 6 → bk2 g j = g j := fun j h0 h6 => by
      unfold bk2
      rw [mU_ne _ _ h0, ao j h6]
    have ev : bk2 g 6 18 6 = nI i := by rw [b6, mP_s]
    rw [ev]
    have hm : Md sN (bk2 g) (P_X5_answer (bk2 g) (nI i)).2 := kl_P_X5_answer (S := sN) (Md.rf (g := bk2 g))
    rw [hm.1 7 (by decide) (by decide) (by decide), bo 7 (by decide) (by decide), back_n hl h.1.2.2.2.1]
    have hv := h.1.back
    obtain ⟨m1, m2, m3⟩ := hm
    refine ⟨_, _, _, rfl, ⟨i, ?_, h.2.1, ?_, ?_, ?_, ?_, fun j hj => ?_⟩, rfl⟩
    · rw [mU_same]; exact hv
    · rw [mU_same]; exact h.2.2.1
    · rw [mU_ne _ _ (by decide), m2 18 7 (by decide), b6, mP_n _ _ _ (by decide)]; exact h.2.2.2.1
    · rw [mU_ne _ _ (by decide), m2 18 6 (by decide)]; exact ev
    · rw [mU_ne _ _ (by decide)]
      refine r8.kn ?_ m3
      rw [b0]
      show r08 _
      rw [tf0_n]; exact h.2.2.2.2.2.2 i (by omega)
    · rw [mU_ne _ _ (by omega), m1 _ (by omega) (by omega) (by omega), bo _ (by omega) (by omega)]; exact h.2.2.2.2.2.2 j (by omega)
theorem t_status {c : mC} : ok (fun _ => True) (P_X6_status c) := ok_s trivial
theorem sg_0 {k t : Nat} {g : mG} (h : R0 k t g) (a : Nat → Int32) : ∃ v w g2, lwR_0 g a = some ((v, w), g2) ∧ R0 k t g2 := by
  obtain ⟨w, e, _⟩ := t_status (c := g 7)
  unfold lwR_0
  rw [e]
  exact ⟨_, _, _, rfl, h⟩
theorem sg_3 {k t : Nat} {g : mG} (h : R0 k t g) (a : Nat → Int32) : ∃ v w g2, lwR_3 g a = some ((v, w), g2) ∧ R0 k t g2 := by
  obtain ⟨w, e, _⟩ := hk_fault (c := g 7) (x := a 1)
  unfold lwR_3
  rw [e]
  exact ⟨_, _, _, rfl, h⟩
theorem sg_4 {k t : Nat} {g : mG} (h : R0 k t g) (a : Nat → Int32) : ∃ v w g2, lwR_4 g a = some ((v, w), g2) ∧ R0 k t g2 := by
  have hm : Md sN g (P_X5_many g (a 1)).2 := kl_P_X5_many (S := sN) (Md.rf (g := g))
  obtain ⟨w, g2, e1, e2⟩ := h.st (v := (P_X5_many g (a 1)).1) hm (show ok (fun p : Int32 × mC => H (g 7) p.2) (P_X6_many (g 7) (a 1)) from hk_P_X6_many h.1.hh)
  refine ⟨(P_X5_many g (a 1)).1, w, g2, ?_, e2⟩
  unfold lwR_4
  rw [hm.1 7 (by decide) (by decide) (by decide)]
  exact e1
theorem sg_5 {k t : Nat} {g : mG} (h : R0 k t g) (a : Nat → Int32) : ∃ v w g2, lwR_5 g a = some ((v, w), g2) ∧ R0 k t g2 := by
  have hm : Md sN g (P_X5_ring g (a 1) (a 2)).2 := kl_P_X5_ring (S := sN) (Md.rf (g := g))
  obtain ⟨w, g2, e1, e2⟩ := h.st (v := (P_X5_ring g (a 1) (a 2)).1) hm (show ok (fun p : Int32 × mC => H (g 7) p.2) (P_X6_ring_ (g 7) (a 1) (a 2)) from hk_P_X6_ring_ h.1.hh)
  refine ⟨(P_X5_ring g (a 1) (a 2)).1, w, g2, ?_, e2⟩
  unfold lwR_5
  rw [hm.1 7 (by decide) (by decide) (by decide)]
  exact e1
theorem sg_6 {k t : Nat} {g : mG} (h : R0 k t g) (a : Nat → Int32) : ∃ v w g2, lwR_6 g a = some ((v, w), g2) ∧ R0 k t g2 := by
  have hm : Md sN g (P_X5_phase g (a 1) (a 2)).2 := kl_P_X5_phase (S := sN) (Md.rf (g := g))
  obtain ⟨w, g2, e1, e2⟩ := h.st (v := (P_X5_phase g (a 1) (a 2)).1) hm (show ok (fun p : Int32 × mC => H (g 7) p.2) (P_X6_phase (g 7) (a 1) (a 2)) from hk_P_X6_phase h.1.hh)
  refine ⟨(P_X5_phase g (a 1) (a 2)).1, w, g2, ?_, e2⟩
  unfold lwR_6
  rw [hm.1 7 (by decide) (by decide) (by decide)]
  exact e1
theorem sg_7 {k t : Nat} {g : mG} (h : R0 k t g) (a : Nat → Int32) : ∃ v w g2, lwR_7 g a = some ((v, w), g2) ∧ R0 k t g2 := by
  have hm : Md sN g (P_X5_marked g (a 1) (a 2)).2 := kl_P_X5_marked (S := sN) (Md.rf (g := g))
  obtain ⟨w, g2, e1, e2⟩ := h.st (v := (P_X5_marked g (a 1) (a 2)).1) hm (show ok (fun p : Int32 × mC => H (g 7) p.2) (P_X6_marked (g 7) (a 1) (a 2)) from hk_P_X6_marked h.1.hh)
  refine ⟨(P_X5_marked g (a 1) (a 2)).1, w, g2, ?_, e2⟩
  unfold lwR_7
  rw [hm.1 7 (by decide) (by decide) (by decide)]
  exact e1
theorem sg_8 {k t : Nat} {g : mG} (h : R0 k t g) (a : Nat → Int32) : ∃ v w g2, lwR_8 g a = some ((v, w), g2) ∧ R0 k t g2 := by
  have hm : Md sN g (P_X5_brake g (a 1) (a 2)).2 := kl_P_X5_brake (S := sN) (Md.rf (g := g))
  obtain ⟨w, g2, e1, e2⟩ := h.st (v := (P_X5_brake g (a 1) (a 2)).1) hm (show ok (fun p : Int32 × mC => H (g 7) p.2) (P_X6_brake (g 7) (a 1) (a 2)) from hk_P_X6_brake h.1.hh)
  refine ⟨(P_X5_brake g (a 1) (a 2)).1, w, g2, ?_, e2⟩
  unfold lwR_8
  rw [hm.1 7 (by decide) (by decide) (by decide)]
  exact e1
theorem sg_9 {k t : Nat} {g : mG} (h : R0 k t g) (a : Nat → Int32) : ∃ v w g2, lwR_9 g a = some ((v, w), g2) ∧ R0 k t g2 := by
  have hm : Md sN g (P_X5_sum g (a 1)).2 := kl_P_X5_sum (S := sN) (Md.rf (g := g))
  obtain ⟨w, g2, e1, e2⟩ := h.st (v := (P_X5_sum g (a 1)).1) hm (show ok (fun p : Int32 × mC => H (g 7) p.2) (P_X6_sum (g 7) (a 1)) from hk_P_X6_sum h.1.hh)
  refine ⟨(P_X5_sum g (a 1)).1, w, g2, ?_, e2⟩
  unfold lwR_9
  rw [hm.1 7 (by decide) (by decide) (by decide)]
  exact e1
theorem sg_10 {k t : Nat} {g : mG} (h : R0 k t g) (a : Nat → Int32) : ∃ v w g2, lwR_10 g a = some ((v, w), g2) ∧ R0 k t g2 := by
  have hm : Md sN g (P_X5_event g (a 1) (a 2)).2 := kl_P_X5_event (S := sN) (Md.rf (g := g))
  obtain ⟨w, g2, e1, e2⟩ := h.st (v := (P_X5_event g (a 1) (a 2)).1) hm (show ok (fun p : Int32 × mC => H (g 7) p.2) (P_X6_event (g 7) (a 1) (a 2)) from hk_P_X6_event h.1.hh)
  refine ⟨(P_X5_event g (a 1) (a 2)).1, w, g2, ?_, e2⟩
  unfold lwR_10
  rw [hm.1 7 (by decide) (by decide) (by decide)]
  exact e1
theorem sg_11 {k t : Nat} {g : mG} (h : R0 k t g) (a : Nat → Int32) : ∃ v w g2, lwR_11 g a = some ((v, w), g2) ∧ R0 k t g2 := by
  have hm : Md sN g (P_X5_mark g (a 1) (a 2) (a 3)).2 := kn_P_X5_mark (Md.rf (g := g))
  obtain ⟨w, g2, e1, e2⟩ := h.st (v := (P_X5_mark g (a 1) (a 2) (a 3)).1) hm (show ok (fun p : Int32 × mC => H (g 7) p.2) (P_X6_mark_ (g 7) (a 1) (a 2) (a 3)) from hk_P_X6_mark_ h.1.hh)
  refine ⟨(P_X5_mark g (a 1) (a 2) (a 3)).1, w, g2, ?_, e2⟩
  unfold lwR_11
  rw [hm.1 7 (by decide) (by decide) (by decide)]
  exact e1
theorem sg_12 {k t : Nat} {g : mG} (h : R0 k t g) (a : Nat → Int32) : ∃ v w g2, lwR_12 g a = some ((v, w), g2) ∧ R0 k t g2 := by
  have hm : Md sN g (P_X5_clock g (a 1) (a 2)).2 := kn_P_X5_clock (Md.rf (g := g))
  obtain ⟨w, g2, e1, e2⟩ := h.st (v := (P_X5_clock g (a 1) (a 2)).1) hm (show ok (fun p : Int32 × mC => H (g 7) p.2) (P_X6_clock (g 7) (a 1) (a 2)) from hk_P_X6_clock h.1.hh)
  refine ⟨(P_X5_clock g (a 1) (a 2)).1, w, g2, ?_, e2⟩
  unfold lwR_12
  rw [hm.1 7 (by decide) (by decide) (by decide)]
  exact e1
theorem sg_13 {k t : Nat} {g : mG} (h : R0 k t g) (a : Nat → Int32) : ∃ v w g2, lwR_13 g a = some ((v, w), g2) ∧ R0 k t g2 := by
  have hm : Md sN g (P_X5_call g (a 1) (if a 2 = 0 then 0 else 1)).2 := kn_P_X5_call (Md.rf (g := g))
  obtain ⟨w, g2, e1, e2⟩ := h.st (v := (P_X5_call g (a 1) (if a 2 = 0 then 0 else 1)).1) hm (show ok (fun p : Int32 × mC => H (g 7) p.2) (P_X6_call (g 7) (a 1) (if a 2 = 0 then 0 else 1)) from hk_P_X6_call h.1.hh)
  refine ⟨(P_X5_call g (a 1) (if a 2 = 0 then 0 else 1)).1, w, g2, ?_, e2⟩
  unfold lwR_13
  rw [hm.1 7 (by decide) (by decide) (by decide)]
  exact e1
theorem sg_14 {k t : Nat} {g : mG} (h : R0 k t g) (a : Nat → Int32) : ∃ v w g2, lwR_14 g a = some ((v, w), g2) ∧ R0 k t g2 := by
  have hm : Md sN g (P_X5_come g (a 1) (a 2)).2 := kn_P_X5_come (Md.rf (g := g))
  obtain ⟨w, g2, e1, e2⟩ := h.st (v := (P_X5_come g (a 1) (a 2)).1) hm (show ok (fun p : Int32 × mC => H (g 7) p.2) (P_X6_come (g 7) (a 1) (a 2)) from hk_P_X6_come h.1.hh)
  refine ⟨(P_X5_come g (a 1) (a 2)).1, w, g2, ?_, e2⟩
  unfold lwR_14
  rw [hm.1 7 (by decide) (by decide) (by decide)]
  exact e1
theorem sg_15 {k t : Nat} {g : mG} (h : R0 k t g) (a : Nat → Int32) : ∃ v w g2, lwR_15 g a = some ((v, w), g2) ∧ R0 k t g2 := by
  have hm : Md sN g (P_X5_ask g (a 1)).2 := kn_P_X5_ask (Md.rf (g := g))
  obtain ⟨w, g2, e1, e2⟩ := h.st (v := (P_X5_ask g (a 1)).1) hm (show ok (fun p : Int32 × mC => H (g 7) p.2) (P_X6_ask (g 7) (a 1)) from hk_P_X6_ask h.1.hh)
  refine ⟨(P_X5_ask g (a 1)).1, w, g2, ?_, e2⟩
  unfold lwR_15
  rw [hm.1 7 (by decide) (by decide) (by decide)]
  exact e1
theorem sg_16 {k t : Nat} {g : mG} (h : R0 k t g) (a : Nat → Int32) : ∃ v w g2, lwR_16 g a = some ((v, w), g2) ∧ R0 k t g2 := by
  have hm : Md sN g (P_X5_let g (a 1)).2 := kn_P_X5_let (Md.rf (g := g))
  obtain ⟨w, g2, e1, e2⟩ := h.st (v := (P_X5_let g (a 1)).1) hm (show ok (fun p : Int32 × mC => H (g 7) p.2) (P_X6_let (g 7) (a 1)) from hk_P_X6_let h.1.hh)
  refine ⟨(P_X5_let g (a 1)).1, w, g2, ?_, e2⟩
  unfold lwR_16
  rw [hm.1 7 (by decide) (by decide) (by decide)]
  exact e1
theorem sg_17 {k t : Nat} {g : mG} (h : R0 k t g) (a : Nat → Int32) : ∃ v w g2, lwR_17 g a = some ((v, w), g2) ∧ R0 k t g2 := by
  have hm : Md sN g (P_X5_brakes g (a 1) (a 2) (a 3) (a 4) (a 5) (a 6)).2 := kn_P_X5_brakes (Md.rf (g := g))
  obtain ⟨w, g2, e1, e2⟩ := h.st (v := (P_X5_brakes g (a 1) (a 2) (a 3) (a 4) (a 5) (a 6)).1) hm (show ok (fun p : Int32 × mC => H (g 7) p.2) (P_X6_brakes (g 7) (a 1) (a 2) (a 3) (a 4) (a 5) (a 6)) from hk_P_X6_brakes h.1.hh)
  refine ⟨(P_X5_brakes g (a 1) (a 2) (a 3) (a 4) (a 5) (a 6)).1, w, g2, ?_, e2⟩
  unfold lwR_17
  rw [hm.1 7 (by decide) (by decide) (by decide)]
  exact e1
theorem sg_18 {k t : Nat} {g : mG} (h : R0 k t g) (a : Nat → Int32) : ∃ v w g2, lwR_18 g a = some ((v, w), g2) ∧ R0 k t g2 := by
  have hm : Md sN g (P_X5_stick g (a 1) (if a 2 = 0 then 0 else 1)).2 := kn_P_X5_stick (Md.rf (g := g))
  obtain ⟨w, g2, e1, e2⟩ := h.st (v := (P_X5_stick g (a 1) (if a 2 = 0 then 0 else 1)).1) hm (show ok (fun p : Int32 × mC => H (g 7) p.2) (P_X6_stick (g 7) (a 1) (if a 2 = 0 then 0 else 1)) from hk_P_X6_stick h.1.hh)
  refine ⟨(P_X5_stick g (a 1) (if a 2 = 0 then 0 else 1)).1, w, g2, ?_, e2⟩
  unfold lwR_18
  rw [hm.1 7 (by decide) (by decide) (by decide)]
  exact e1
theorem sg_19 {k t : Nat} {g : mG} (h : R0 k t g) (a : Nat → Int32) : ∃ v w g2, lwR_19 g a = some ((v, w), g2) ∧ R0 k t g2 := by
  have hm : Md sN g (P_X5_reset g).2 := kn_P_X5_reset (Md.rf (g := g))
  obtain ⟨w, g2, e1, e2⟩ := h.st (v := (P_X5_reset g).1) hm (show ok (fun p : Int32 × mC => H (g 7) p.2) (P_X6_reset (g 7)) from hk_P_X6_reset h.1.hh)
  refine ⟨(P_X5_reset g).1, w, g2, ?_, e2⟩
  unfold lwR_19
  rw [hm.1 7 (by decide) (by decide) (by decide)]
  exact e1
theorem sg_20 {k t : Nat} {g : mG} (h : R0 k t g) (a : Nat → Int32) : ∃ v w g2, lwR_20 g a = some ((v, w), g2) ∧ R0 k t g2 := by
  have hm : Md sN g (P_X5_tick g (a 1)).2 := kn_P_X5_tick (Md.rf (g := g))
  obtain ⟨w, g2, e1, e2⟩ := h.st (v := (P_X5_tick g (a 1)).1) hm (show ok (fun p : Int32 × mC => H (g 7) p.2) (P_X6_tick (g 7) (a 1)) from hk_P_X6_tick h.1.hh)
  refine ⟨(P_X5_tick g (a 1)).1, w, g2, ?_, e2⟩
  unfold lwR_20
  rw [hm.1 7 (by decide) (by decide) (by decide)]
  exact e1
theorem sg_21 {k t : Nat} {g : mG} (h : R0 k t g) (a : Nat → Int32) : ∃ v w g2, lwR_21 g a = some ((v, w), g2) ∧ R0 k t g2 := by
  have hm : Md sN g (P_X5_run g (a 1) (a 2)).2 := kn_P_X5_run (Md.rf (g := g))
  obtain ⟨w, g2, e1, e2⟩ := h.st (v := (P_X5_run g (a 1) (a 2)).1) hm (show ok (fun p : Int32 × mC => H (g 7) p.2) (P_X6_run (g 7) (a 1) (a 2)) from hk_P_X6_run h.1.hh)
  refine ⟨(P_X5_run g (a 1) (a 2)).1, w, g2, ?_, e2⟩
  unfold lwR_21
  rw [hm.1 7 (by decide) (by decide) (by decide)]
  exact e1
theorem sg_24 {k t : Nat} {g : mG} (h : R0 k t g) (a : Nat → Int32) : ∃ v w g2, lwR_24 g a = some ((v, w), g2) ∧ R0 k t g2 := by
  have hm : Md sN g (P_X5_foes g (a 1) (a 2)).2 := kl_P_X5_foes (S := sN) (Md.rf (g := g))
  obtain ⟨w, g2, e1, e2⟩ := h.st (v := (P_X5_foes g (a 1) (a 2)).1) hm (show ok (fun p : Int32 × mC => H (g 7) p.2) (P_X6_foes (g 7) (a 1) (a 2)) from hk_P_X6_foes h.1.hh)
  refine ⟨(P_X5_foes g (a 1) (a 2)).1, w, g2, ?_, e2⟩
  unfold lwR_24
  rw [hm.1 7 (by decide) (by decide) (by decide)]
  exact e1
theorem sg_25 {k t : Nat} {g : mG} (h : R0 k t g) (a : Nat → Int32) : ∃ v w g2, lwR_25 g a = some ((v, w), g2) ∧ R0 k t g2 := by
  have hm : Md sN g (P_X5_sets g (a 1)).2 := kt_sets (S := sN) (Md.rf (g := g))
  obtain ⟨w, g2, e1, e2⟩ := h.st (v := (P_X5_sets g (a 1)).1) hm (show ok (fun p : Int32 × mC => H (g 7) p.2) (P_X6_sets (g 7) (a 1)) from hk_P_X6_sets h.1.hh)
  refine ⟨(P_X5_sets g (a 1)).1, w, g2, ?_, e2⟩
  unfold lwR_25
  rw [hm.1 7 (by decide) (by decide) (by decide)]
  exact e1
theorem sg_26 {k t : Nat} {g : mG} (h : R0 k t g) (a : Nat → Int32) : ∃ v w g2, lwR_26 g a = some ((v, w), g2) ∧ R0 k t g2 := by
  have hm : Md sN g (P_X5_when g (a 1)).2 := kl_P_X5_when (S := sN) (Md.rf (g := g))
  obtain ⟨w, g2, e1, e2⟩ := h.st (v := (P_X5_when g (a 1)).1) hm (show ok (fun p : Int32 × mC => H (g 7) p.2) (P_X6_when (g 7) (a 1)) from hk_P_X6_when h.1.hh)
  refine ⟨(P_X5_when g (a 1)).1, w, g2, ?_, e2⟩
  unfold lwR_26
  rw [hm.1 7 (by decide) (by decide) (by decide)]
  exact e1
theorem sg_27 {k t : Nat} {g : mG} (h : R0 k t g) (a : Nat → Int32) : ∃ v w g2, lwR_27 g a = some ((v, w), g2) ∧ R0 k t g2 := by
  have hm : Md sN g (P_X5_worst g (a 1)).2 := kl_P_X5_worst (S := sN) (Md.rf (g := g))
  obtain ⟨w, g2, e1, e2⟩ := h.st (v := (P_X5_worst g (a 1)).1) hm (show ok (fun p : Int32 × mC => H (g 7) p.2) (P_X6_worst (g 7) (a 1)) from hk_P_X6_worst h.1.hh)
  refine ⟨(P_X5_worst g (a 1)).1, w, g2, ?_, e2⟩
  unfold lwR_27
  rw [hm.1 7 (by decide) (by decide) (by decide)]
  exact e1
theorem sg_28 {k t : Nat} {g : mG} (h : R0 k t g) (a : Nat → Int32) : ∃ v w g2, lwR_28 g a = some ((v, w), g2) ∧ R0 k t g2 := by
  have hm : Md sN g (P_X5_cleared g).2 := kl_P_X5_cleared (S := sN) (Md.rf (g := g))
  obtain ⟨w, g2, e1, e2⟩ := h.st (v := (P_X5_cleared g).1) hm (show ok (fun p : Int32 × mC => H (g 7) p.2) (P_X6_cleared (g 7)) from hk_P_X6_cleared h.1.hh)
  refine ⟨(P_X5_cleared g).1, w, g2, ?_, e2⟩
  unfold lwR_28
  rw [hm.1 7 (by decide) (by decide) (by decide)]
  exact e1
theorem sg_29 {k t : Nat} {g : mG} (h : R0 k t g) (a : Nat → Int32) : ∃ v w g2, lwR_29 g a = some ((v, w), g2) ∧ R0 k t g2 := by
  have hm : Md sN g (P_X5_instep g).2 := kl_P_X5_instep (S := sN) (Md.rf (g := g))
  obtain ⟨w, g2, e1, e2⟩ := h.st (v := (P_X5_instep g).1) hm (show ok (fun p : Int32 × mC => H (g 7) p.2) (P_X6_instep (g 7)) from hk_P_X6_instep h.1.hh)
  refine ⟨(P_X5_instep g).1, w, g2, ?_, e2⟩
  unfold lwR_29
  rw [hm.1 7 (by decide) (by decide) (by decide)]
  exact e1
theorem sg_30 {k t : Nat} {g : mG} (h : R0 k t g) (a : Nat → Int32) : ∃ v w g2, lwR_30 g a = some ((v, w), g2) ∧ R0 k t g2 := by
  have hm : Md sN g (P_X5_broken g (a 1)).2 := kl_P_X5_broken (S := sN) (Md.rf (g := g))
  obtain ⟨w, g2, e1, e2⟩ := h.st (v := (P_X5_broken g (a 1)).1) hm (show ok (fun p : Int32 × mC => H (g 7) p.2) (P_X6_broken (g 7) (a 1)) from hk_P_X6_broken h.1.hh)
  refine ⟨(P_X5_broken g (a 1)).1, w, g2, ?_, e2⟩
  unfold lwR_30
  rw [hm.1 7 (by decide) (by decide) (by decide)]
  exact e1
theorem sg_31 {k t : Nat} {g : mG} (h : R0 k t g) (a : Nat → Int32) : ∃ v w g2, lwR_31 g a = some ((v, w), g2) ∧ R0 k t g2 := by
  have hm : Md sN g (P_X5_paper g (a 1) (a 2)).2 := kl_P_X5_paper (S := sN) (Md.rf (g := g))
  obtain ⟨w, g2, e1, e2⟩ := h.st (v := (P_X5_paper g (a 1) (a 2)).1) hm (show ok (fun p : Int32 × mC => H (g 7) p.2) (P_X6_paper (g 7) (a 1) (a 2)) from hk_P_X6_paper h.1.hh)
  refine ⟨(P_X5_paper g (a 1) (a 2)).1, w, g2, ?_, e2⟩
  unfold lwR_31
  rw [hm.1 7 (by decide) (by decide) (by decide)]
  exact e1
theorem sg_32 {k t : Nat} {g : mG} (h : R0 k t g) (a : Nat → Int32) : ∃ v w g2, lwR_32 g a = some ((v, w), g2) ∧ R0 k t g2 := by
  have hm : Md sN g (P_X5_bestMax g (a 1) (a 2)).2 := kl_P_X5_bestMax (S := sN) (Md.rf (g := g))
  obtain ⟨w, g2, e1, e2⟩ := h.st (v := (P_X5_bestMax g (a 1) (a 2)).1) hm (show ok (fun p : Int32 × mC => H (g 7) p.2) (P_X6_bestMax (g 7) (a 1) (a 2)) from hk_P_X6_bestMax h.1.hh)
  refine ⟨(P_X5_bestMax g (a 1) (a 2)).1, w, g2, ?_, e2⟩
  unfold lwR_32
  rw [hm.1 7 (by decide) (by decide) (by decide)]
  exact e1
theorem sg_33 {k t : Nat} {g : mG} (h : R0 k t g) (a : Nat → Int32) : ∃ v w g2, lwR_33 g a = some ((v, w), g2) ∧ R0 k t g2 := by
  have hm : Md sN g (P_X5_cheapest g (a 1)).2 := kl_P_X5_cheapest (S := sN) (Md.rf (g := g))
  obtain ⟨w, g2, e1, e2⟩ := h.st (v := (P_X5_cheapest g (a 1)).1) hm (show ok (fun p : Int32 × mC => H (g 7) p.2) (P_X6_cheapest (g 7) (a 1)) from hk_P_X6_cheapest h.1.hh)
  refine ⟨(P_X5_cheapest g (a 1)).1, w, g2, ?_, e2⟩
  unfold lwR_33
  rw [hm.1 7 (by decide) (by decide) (by decide)]
  exact e1
