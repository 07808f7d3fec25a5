/-! The crossings alike: each call -/
theorem sh_0 {k t : Nat} {g : mG} (h : R2 k t g) (a : Nat → Int32) : ∃ v w g2, lwR_0 g a = some ((v, w), g2) ∧ R2 k t g2 := by
  obtain ⟨w, e, _⟩ := t_status (c := g 7)
  unfold lwR_0
  rw [e]
  exact ⟨_, _, _, rfl, h⟩
theorem sh_3 {k t : Nat} {g : mG} (h : R2 k t g) (a : Nat → Int32) : ∃ v w g2, lwR_3 g a = some ((v, w), g2) ∧ R2 k t g2 ∧ v = w := by
  unfold lwR_3
  rw [fault_v h.1.2.2 (a 1)]
  exact ⟨_, _, _, rfl, h, rfl⟩
theorem sh_4 {k t : Nat} {g : mG} (h : R2 k t g) (a : Nat → Int32) : ∃ v w g2, lwR_4 g a = some ((v, w), g2) ∧ R2 k t g2 := by
  have hm : Md sN g (P_X5_many g (a 1)).2 := kl_P_X5_many (S := sN) (Md.rf (g := g))
  have ho : ok (fun p : Int32 × mC => H (g 7) p.2) (P_X6_many (g 7) (a 1)) := hk_P_X6_many h.1.1.1.hh
  have hA : Md sA g (P_X5_many g (a 1)).2 := kl_P_X5_many (S := sA) (Md.rf (g := g))
  have hc := h.2.1.b hA.k (show ok (fun p : Int32 × mC => HB (g 7) p.2) (P_X6_many (g 7) (a 1)) from hB_P_X6_many (HB.rf h.1.1.1.hh))
  obtain ⟨w, g2, ⟨m, em⟩, e1, e2⟩ := h.st (v := (P_X5_many g (a 1)).1) hm ho hc
  refine ⟨(P_X5_many g (a 1)).1, w, g2, ?_, e2⟩
  unfold lwR_4
  rw [hm.1 7 (by decide) (by decide) (by decide)]
  exact e1
theorem sh_5 {k t : Nat} {g : mG} (h : R2 k t g) (a : Nat → Int32) : ∃ v w g2, lwR_5 g a = some ((v, w), g2) ∧ R2 k t g2 := by
  have hm : Md sN g (P_X5_ring g (a 1) (a 2)).2 := kl_P_X5_ring (S := sN) (Md.rf (g := g))
  have ho : ok (fun p : Int32 × mC => H (g 7) p.2) (P_X6_ring_ (g 7) (a 1) (a 2)) := hk_P_X6_ring_ h.1.1.1.hh
  have hA : Md sA g (P_X5_ring g (a 1) (a 2)).2 := kl_P_X5_ring (S := sA) (Md.rf (g := g))
  have hc := h.2.1.b hA.k (show ok (fun p : Int32 × mC => HB (g 7) p.2) (P_X6_ring_ (g 7) (a 1) (a 2)) from hB_P_X6_ring_ (HB.rf h.1.1.1.hh))
  obtain ⟨w, g2, ⟨m, em⟩, e1, e2⟩ := h.st (v := (P_X5_ring g (a 1) (a 2)).1) hm ho hc
  refine ⟨(P_X5_ring g (a 1) (a 2)).1, w, g2, ?_, e2⟩
  unfold lwR_5
  rw [hm.1 7 (by decide) (by decide) (by decide)]
  exact e1
theorem sh_6 {k t : Nat} {g : mG} (h : R2 k t g) (a : Nat → Int32) : ∃ v w g2, lwR_6 g a = some ((v, w), g2) ∧ R2 k t g2 := by
  have hm : Md sN g (P_X5_phase g (a 1) (a 2)).2 := kl_P_X5_phase (S := sN) (Md.rf (g := g))
  have ho : ok (fun p : Int32 × mC => H (g 7) p.2) (P_X6_phase (g 7) (a 1) (a 2)) := hk_P_X6_phase h.1.1.1.hh
  have hA : Md sA g (P_X5_phase g (a 1) (a 2)).2 := kl_P_X5_phase (S := sA) (Md.rf (g := g))
  have hc := h.2.1.b hA.k (show ok (fun p : Int32 × mC => HB (g 7) p.2) (P_X6_phase (g 7) (a 1) (a 2)) from hB_P_X6_phase (HB.rf h.1.1.1.hh))
  obtain ⟨w, g2, ⟨m, em⟩, e1, e2⟩ := h.st (v := (P_X5_phase g (a 1) (a 2)).1) hm ho hc
  refine ⟨(P_X5_phase g (a 1) (a 2)).1, w, g2, ?_, e2⟩
  unfold lwR_6
  rw [hm.1 7 (by decide) (by decide) (by decide)]
  exact e1
theorem sh_7 {k t : Nat} {g : mG} (h : R2 k t g) (a : Nat → Int32) : ∃ v w g2, lwR_7 g a = some ((v, w), g2) ∧ R2 k t g2 ∧ v = w := by
  have hm : Md sN g (P_X5_marked g (a 1) (a 2)).2 := kl_P_X5_marked (S := sN) (Md.rf (g := g))
  have ho : ok (fun p : Int32 × mC => H (g 7) p.2) (P_X6_marked (g 7) (a 1) (a 2)) := hk_P_X6_marked h.1.1.1.hh
  have hA : Md sA g (P_X5_marked g (a 1) (a 2)).2 := kl_P_X5_marked (S := sA) (Md.rf (g := g))
  have hc := h.2.1.b hA.k (show ok (fun p : Int32 × mC => HB (g 7) p.2) (P_X6_marked (g 7) (a 1) (a 2)) from hB_P_X6_marked (HB.rf h.1.1.1.hh))
  obtain ⟨w, g2, ⟨m, em⟩, e1, e2⟩ := h.st (v := (P_X5_marked g (a 1) (a 2)).1) hm ho hc
  refine ⟨(P_X5_marked g (a 1) (a 2)).1, w, g2, ?_, e2, ?_⟩
  · unfold lwR_7
    rw [hm.1 7 (by decide) (by decide) (by decide)]
    exact e1
  · obtain ⟨m0, e0⟩ := marked_v h.2.1 _ _
    exact congrArg Prod.fst (Option.some.inj (e0.symm.trans em))
theorem sh_8 {k t : Nat} {g : mG} (h : R2 k t g) (a : Nat → Int32) : ∃ v w g2, lwR_8 g a = some ((v, w), g2) ∧ R2 k t g2 := by
  have hm : Md sN g (P_X5_brake g (a 1) (a 2)).2 := kl_P_X5_brake (S := sN) (Md.rf (g := g))
  have ho : ok (fun p : Int32 × mC => H (g 7) p.2) (P_X6_brake (g 7) (a 1) (a 2)) := hk_P_X6_brake h.1.1.1.hh
  have hA : Md sA g (P_X5_brake g (a 1) (a 2)).2 := kl_P_X5_brake (S := sA) (Md.rf (g := g))
  have hc := h.2.1.b hA.k (show ok (fun p : Int32 × mC => HB (g 7) p.2) (P_X6_brake (g 7) (a 1) (a 2)) from hB_P_X6_brake (HB.rf h.1.1.1.hh))
  obtain ⟨w, g2, ⟨m, em⟩, e1, e2⟩ := h.st (v := (P_X5_brake g (a 1) (a 2)).1) hm ho hc
  refine ⟨(P_X5_brake g (a 1) (a 2)).1, w, g2, ?_, e2⟩
  unfold lwR_8
  rw [hm.1 7 (by decide) (by decide) (by decide)]
  exact e1
theorem sh_9 {k t : Nat} {g : mG} (h : R2 k t g) (a : Nat → Int32) : ∃ v w g2, lwR_9 g a = some ((v, w), g2) ∧ R2 k t g2 := by
  have hm : Md sN g (P_X5_sum g (a 1)).2 := kl_P_X5_sum (S := sN) (Md.rf (g := g))
  have ho : ok (fun p : Int32 × mC => H (g 7) p.2) (P_X6_sum (g 7) (a 1)) := hk_P_X6_sum h.1.1.1.hh
  have hA : Md sA g (P_X5_sum g (a 1)).2 := kl_P_X5_sum (S := sA) (Md.rf (g := g))
  have hc := h.2.1.b hA.k (show ok (fun p : Int32 × mC => HB (g 7) p.2) (P_X6_sum (g 7) (a 1)) from hB_P_X6_sum (HB.rf h.1.1.1.hh))
  obtain ⟨w, g2, ⟨m, em⟩, e1, e2⟩ := h.st (v := (P_X5_sum g (a 1)).1) hm ho hc
  refine ⟨(P_X5_sum g (a 1)).1, w, g2, ?_, e2⟩
  unfold lwR_9
  rw [hm.1 7 (by decide) (by decide) (by decide)]
  exact e1
theorem sh_10 {k t : Nat} {g : mG} (h : R2 k t g) (a : Nat → Int32) : ∃ v w g2, lwR_10 g a = some ((v, w), g2) ∧ R2 k t g2 := by
  have hm : Md sN g (P_X5_event g (a 1) (a 2)).2 := kl_P_X5_event (S := sN) (Md.rf (g := g))
  have ho : ok (fun p : Int32 × mC => H (g 7) p.2) (P_X6_event (g 7) (a 1) (a 2)) := hk_P_X6_event h.1.1.1.hh
  have hA : Md sA g (P_X5_event g (a 1) (a 2)).2 := kl_P_X5_event (S := sA) (Md.rf (g := g))
  have hc := h.2.1.b hA.k (show ok (fun p : Int32 × mC => HB (g 7) p.2) (P_X6_event (g 7) (a 1) (a 2)) from hB_P_X6_event (HB.rf h.1.1.1.hh))
  obtain ⟨w, g2, ⟨m, em⟩, e1, e2⟩ := h.st (v := (P_X5_event g (a 1) (a 2)).1) hm ho hc
  refine ⟨(P_X5_event g (a 1) (a 2)).1, w, g2, ?_, e2⟩
  unfold lwR_10
  rw [hm.1 7 (by decide) (by decide) (by decide)]
  exact e1
theorem sh_11 {k t : Nat} {g : mG} (h : R2 k t g) (a : Nat → Int32) : ∃ v w g2, lwR_11 g a = some ((v, w), g2) ∧ R2 k t g2 ∧ v = w := by
  have hm : Md sN g (P_X5_mark g (a 1) (a 2) (a 3)).2 := kn_P_X5_mark (Md.rf (g := g))
  have ho : ok (fun p : Int32 × mC => H (g 7) p.2) (P_X6_mark_ (g 7) (a 1) (a 2) (a 3)) := hk_P_X6_mark_ h.1.1.1.hh
  obtain ⟨m0, e0, c0⟩ := mark_v h.2.1 (a 1) (a 2) (a 3)
  have hc : ∀ p, (P_X6_mark_ (g 7) (a 1) (a 2) (a 3)) = some p → CR ((P_X5_mark g (a 1) (a 2) (a 3)).2 0) (p.2 21) := fun p ep => by
    rw [← Option.some.inj (e0.symm.trans ep)]
    exact c0
  obtain ⟨w, g2, ⟨m, em⟩, e1, e2⟩ := h.st (v := (P_X5_mark g (a 1) (a 2) (a 3)).1) hm ho hc
  refine ⟨(P_X5_mark g (a 1) (a 2) (a 3)).1, w, g2, ?_, e2, ?_⟩
  · unfold lwR_11
    rw [hm.1 7 (by decide) (by decide) (by decide)]
    exact e1
  · exact congrArg Prod.fst (Option.some.inj (e0.symm.trans em))
theorem sh_12 {k t : Nat} {g : mG} (h : R2 k t g) (a : Nat → Int32) : ∃ v w g2, lwR_12 g a = some ((v, w), g2) ∧ R2 k t g2 ∧ v = w := by
  have hm : Md sN g (P_X5_clock g (a 1) (a 2)).2 := kn_P_X5_clock (Md.rf (g := g))
  have ho : ok (fun p : Int32 × mC => H (g 7) p.2) (P_X6_clock (g 7) (a 1) (a 2)) := hk_P_X6_clock h.1.1.1.hh
  have hc : ∀ p, (P_X6_clock (g 7) (a 1) (a 2)) = some p → CR ((P_X5_clock g (a 1) (a 2)).2 0) (p.2 21) := fun p ep => (clock_v h.2.1 _ _ ep).2
  obtain ⟨w, g2, ⟨m, em⟩, e1, e2⟩ := h.st (v := (P_X5_clock g (a 1) (a 2)).1) hm ho hc
  refine ⟨(P_X5_clock g (a 1) (a 2)).1, w, g2, ?_, e2, ?_⟩
  · unfold lwR_12
    rw [hm.1 7 (by decide) (by decide) (by decide)]
    exact e1
  · exact (clock_v h.2.1 _ _ em).1
theorem sh_13 {k t : Nat} {g : mG} (h : R2 k t g) (a : Nat → Int32) : ∃ v w g2, lwR_13 g a = some ((v, w), g2) ∧ R2 k t g2 := by
  have hm : Md sN g (P_X5_call g (a 1) (if a 2 = 0 then 0 else 1)).2 := kn_P_X5_call (Md.rf (g := g))
  have ho : ok (fun p : Int32 × mC => H (g 7) p.2) (P_X6_call (g 7) (a 1) (if a 2 = 0 then 0 else 1)) := hk_P_X6_call h.1.1.1.hh
  have hA : Md sA g (P_X5_call g (a 1) (if a 2 = 0 then 0 else 1)).2 := ka_P_X5_call (Md.rf (g := g))
  have hc := h.2.1.b hA.k (show ok (fun p : Int32 × mC => HB (g 7) p.2) (P_X6_call (g 7) (a 1) (if a 2 = 0 then 0 else 1)) from hB_P_X6_call (HB.rf h.1.1.1.hh))
  obtain ⟨w, g2, ⟨m, em⟩, e1, e2⟩ := h.st (v := (P_X5_call g (a 1) (if a 2 = 0 then 0 else 1)).1) hm ho hc
  refine ⟨(P_X5_call g (a 1) (if a 2 = 0 then 0 else 1)).1, w, g2, ?_, e2⟩
  unfold lwR_13
  rw [hm.1 7 (by decide) (by decide) (by decide)]
  exact e1
theorem sh_14 {k t : Nat} {g : mG} (h : R2 k t g) (a : Nat → Int32) : ∃ v w g2, lwR_14 g a = some ((v, w), g2) ∧ R2 k t g2 := by
  have hm : Md sN g (P_X5_come g (a 1) (a 2)).2 := kn_P_X5_come (Md.rf (g := g))
  have ho : ok (fun p : Int32 × mC => H (g 7) p.2) (P_X6_come (g 7) (a 1) (a 2)) := hk_P_X6_come h.1.1.1.hh
  have hA : Md sA g (P_X5_come g (a 1) (a 2)).2 := ka_P_X5_come (Md.rf (g := g))
  have hc := h.2.1.b hA.k (show ok (fun p : Int32 × mC => HB (g 7) p.2) (P_X6_come (g 7) (a 1) (a 2)) from hB_P_X6_come (HB.rf h.1.1.1.hh))
  obtain ⟨w, g2, ⟨m, em⟩, e1, e2⟩ := h.st (v := (P_X5_come g (a 1) (a 2)).1) hm ho hc
  refine ⟨(P_X5_come g (a 1) (a 2)).1, w, g2, ?_, e2⟩
  unfold lwR_14
  rw [hm.1 7 (by decide) (by decide) (by decide)]
  exact e1
theorem sh_15 {k t : Nat} {g : mG} (h : R2 k t g) (a : Nat → Int32) : ∃ v w g2, lwR_15 g a = some ((v, w), g2) ∧ R2 k t g2 ∧ v = w := by
  have hm : Md sN g (P_X5_ask g (a 1)).2 := kn_P_X5_ask (Md.rf (g := g))
  have ho : ok (fun p : Int32 × mC => H (g 7) p.2) (P_X6_ask (g 7) (a 1)) := hk_P_X6_ask h.1.1.1.hh
  obtain ⟨m0, e0, c0⟩ := ask_v h.2.1 (a 1)
  have hc : ∀ p, (P_X6_ask (g 7) (a 1)) = some p → CR ((P_X5_ask g (a 1)).2 0) (p.2 21) := fun p ep => by
    rw [← Option.some.inj (e0.symm.trans ep)]
    exact c0
  obtain ⟨w, g2, ⟨m, em⟩, e1, e2⟩ := h.st (v := (P_X5_ask g (a 1)).1) hm ho hc
  refine ⟨(P_X5_ask g (a 1)).1, w, g2, ?_, e2, ?_⟩
  · unfold lwR_15
    rw [hm.1 7 (by decide) (by decide) (by decide)]
    exact e1
  · exact congrArg Prod.fst (Option.some.inj (e0.symm.trans em))
theorem sh_16 {k t : Nat} {g : mG} (h : R2 k t g) (a : Nat → Int32) : ∃ v w g2, lwR_16 g a = some ((v, w), g2) ∧ R2 k t g2 ∧ v = w := by
  have hm : Md sN g (P_X5_let g (a 1)).2 := kn_P_X5_let (Md.rf (g := g))
  have ho : ok (fun p : Int32 × mC => H (g 7) p.2) (P_X6_let (g 7) (a 1)) := hk_P_X6_let h.1.1.1.hh
  obtain ⟨m0, e0, c0⟩ := let_v h.2.1 (a 1)
  have hc : ∀ p, (P_X6_let (g 7) (a 1)) = some p → CR ((P_X5_let g (a 1)).2 0) (p.2 21) := fun p ep => by
    rw [← Option.some.inj (e0.symm.trans ep)]
    exact c0
  obtain ⟨w, g2, ⟨m, em⟩, e1, e2⟩ := h.st (v := (P_X5_let g (a 1)).1) hm ho hc
  refine ⟨(P_X5_let g (a 1)).1, w, g2, ?_, e2, ?_⟩
  · unfold lwR_16
    rw [hm.1 7 (by decide) (by decide) (by decide)]
    exact e1
  · exact congrArg Prod.fst (Option.some.inj (e0.symm.trans em))
theorem sh_17 {k t : Nat} {g : mG} (h : R2 k t g) (a : Nat → Int32) : ∃ v w g2, lwR_17 g a = some ((v, w), g2) ∧ R2 k t g2 := by
  have hm : Md sN g (P_X5_brakes g (a 1) (a 2) (a 3) (a 4) (a 5) (a 6)).2 := kn_P_X5_brakes (Md.rf (g := g))
  have ho : ok (fun p : Int32 × mC => H (g 7) p.2) (P_X6_brakes (g 7) (a 1) (a 2) (a 3) (a 4) (a 5) (a 6)) := hk_P_X6_brakes h.1.1.1.hh
  have hA : Md sA g (P_X5_brakes g (a 1) (a 2) (a 3) (a 4) (a 5) (a 6)).2 := ka_P_X5_brakes (Md.rf (g := g))
  have hc := h.2.1.b hA.k (show ok (fun p : Int32 × mC => HB (g 7) p.2) (P_X6_brakes (g 7) (a 1) (a 2) (a 3) (a 4) (a 5) (a 6)) from hB_P_X6_brakes (HB.rf h.1.1.1.hh))
  obtain ⟨w, g2, ⟨m, em⟩, e1, e2⟩ := h.st (v := (P_X5_brakes g (a 1) (a 2) (a 3) (a 4) (a 5) (a 6)).1) hm ho hc
  refine ⟨(P_X5_brakes g (a 1) (a 2) (a 3) (a 4) (a 5) (a 6)).1, w, g2, ?_, e2⟩
  unfold lwR_17
  rw [hm.1 7 (by decide) (by decide) (by decide)]
  exact e1
theorem sh_18 {k t : Nat} {g : mG} (h : R2 k t g) (a : Nat → Int32) : ∃ v w g2, lwR_18 g a = some ((v, w), g2) ∧ R2 k t g2 ∧ v = w := by
  have hm : Md sN g (P_X5_stick g (a 1) (if a 2 = 0 then 0 else 1)).2 := kn_P_X5_stick (Md.rf (g := g))
  have ho : ok (fun p : Int32 × mC => H (g 7) p.2) (P_X6_stick (g 7) (a 1) (if a 2 = 0 then 0 else 1)) := hk_P_X6_stick h.1.1.1.hh
  obtain ⟨m0, e0, c0⟩ := stick_v h.2.1 (a 1) (if a 2 = 0 then 0 else 1) (by split; exact Or.inl rfl; exact Or.inr rfl)
  have hc : ∀ p, (P_X6_stick (g 7) (a 1) (if a 2 = 0 then 0 else 1)) = some p → CR ((P_X5_stick g (a 1) (if a 2 = 0 then 0 else 1)).2 0) (p.2 21) := fun p ep => by
    rw [← Option.some.inj (e0.symm.trans ep)]
    exact c0
  obtain ⟨w, g2, ⟨m, em⟩, e1, e2⟩ := h.st (v := (P_X5_stick g (a 1) (if a 2 = 0 then 0 else 1)).1) hm ho hc
  refine ⟨(P_X5_stick g (a 1) (if a 2 = 0 then 0 else 1)).1, w, g2, ?_, e2, ?_⟩
  · unfold lwR_18
    rw [hm.1 7 (by decide) (by decide) (by decide)]
    exact e1
  · exact congrArg Prod.fst (Option.some.inj (e0.symm.trans em))
theorem sh_19 {k t : Nat} {g : mG} (h : R2 k t g) (a : Nat → Int32) : ∃ v w g2, lwR_19 g a = some ((v, w), g2) ∧ R2 k t g2 := by
  have hm : Md sN g (P_X5_reset g).2 := kn_P_X5_reset (Md.rf (g := g))
  have ho : ok (fun p : Int32 × mC => H (g 7) p.2) (P_X6_reset (g 7)) := hk_P_X6_reset h.1.1.1.hh
  have hA : Md sA g (P_X5_reset g).2 := ka_P_X5_reset (Md.rf (g := g))
  have hc := h.2.1.b hA.k (show ok (fun p : Int32 × mC => HB (g 7) p.2) (P_X6_reset (g 7)) from hB_P_X6_reset (HB.rf h.1.1.1.hh))
  obtain ⟨w, g2, ⟨m, em⟩, e1, e2⟩ := h.st (v := (P_X5_reset g).1) hm ho hc
  refine ⟨(P_X5_reset g).1, w, g2, ?_, e2⟩
  unfold lwR_19
  rw [hm.1 7 (by decide) (by decide) (by decide)]
  exact e1
theorem sh_20 {k t : Nat} {g : mG} (h : R2 k t g) (a : Nat → Int32) : ∃ v w g2, lwR_20 g a = some ((v, w), g2) ∧ R2 k t g2 ∧ v = w := by
  have hm : Md sN g (P_X5_tick g (a 1)).2 := kn_P_X5_tick (Md.rf (g := g))
  have ho : ok (fun p : Int32 × mC => H (g 7) p.2) (P_X6_tick (g 7) (a 1)) := hk_P_X6_tick h.1.1.1.hh
  obtain ⟨m0, e0, c0⟩ := tick_v h.1.1.1.1 h.2.1 (a 1)
  have hc : ∀ p, (P_X6_tick (g 7) (a 1)) = some p → CR ((P_X5_tick g (a 1)).2 0) (p.2 21) := fun p ep => by
    rw [← Option.some.inj (e0.symm.trans ep)]
    exact c0
  obtain ⟨w, g2, ⟨m, em⟩, e1, e2⟩ := h.st (v := (P_X5_tick g (a 1)).1) hm ho hc
  refine ⟨(P_X5_tick g (a 1)).1, w, g2, ?_, e2, ?_⟩
  · unfold lwR_20
    rw [hm.1 7 (by decide) (by decide) (by decide)]
    exact e1
  · exact congrArg Prod.fst (Option.some.inj (e0.symm.trans em))
theorem sh_21 {k t : Nat} {g : mG} (h : R2 k t g) (a : Nat → Int32) : ∃ v w g2, lwR_21 g a = some ((v, w), g2) ∧ R2 k t g2 := by
  have hm : Md sN g (P_X5_run g (a 1) (a 2)).2 := kn_P_X5_run (Md.rf (g := g))
  have ho : ok (fun p : Int32 × mC => H (g 7) p.2) (P_X6_run (g 7) (a 1) (a 2)) := hk_P_X6_run h.1.1.1.hh
  have hc : ∀ p, (P_X6_run (g 7) (a 1) (a 2)) = some p → CR ((P_X5_run g (a 1) (a 2)).2 0) (p.2 21) := fun p ep => run_v h.1.1.1.1 h.2.1 _ _ ep
  obtain ⟨w, g2, ⟨m, em⟩, e1, e2⟩ := h.st (v := (P_X5_run g (a 1) (a 2)).1) hm ho hc
  refine ⟨(P_X5_run g (a 1) (a 2)).1, w, g2, ?_, e2⟩
  unfold lwR_21
  rw [hm.1 7 (by decide) (by decide) (by decide)]
  exact e1
theorem sh_24 {k t : Nat} {g : mG} (h : R2 k t g) (a : Nat → Int32) : ∃ v w g2, lwR_24 g a = some ((v, w), g2) ∧ R2 k t g2 ∧ v = w := by
  have hm : Md sN g (P_X5_foes g (a 1) (a 2)).2 := kl_P_X5_foes (S := sN) (Md.rf (g := g))
  have ho : ok (fun p : Int32 × mC => H (g 7) p.2) (P_X6_foes (g 7) (a 1) (a 2)) := hk_P_X6_foes h.1.1.1.hh
  have hA : Md sA g (P_X5_foes g (a 1) (a 2)).2 := kl_P_X5_foes (S := sA) (Md.rf (g := g))
  have hc := h.2.1.b hA.k (show ok (fun p : Int32 × mC => HB (g 7) p.2) (P_X6_foes (g 7) (a 1) (a 2)) from hB_P_X6_foes (HB.rf h.1.1.1.hh))
  obtain ⟨w, g2, ⟨m, em⟩, e1, e2⟩ := h.st (v := (P_X5_foes g (a 1) (a 2)).1) hm ho hc
  refine ⟨(P_X5_foes g (a 1) (a 2)).1, w, g2, ?_, e2, ?_⟩
  · unfold lwR_24
    rw [hm.1 7 (by decide) (by decide) (by decide)]
    exact e1
  · obtain ⟨m0, e0⟩ := foes_v h.2.1 _ _
    exact congrArg Prod.fst (Option.some.inj (e0.symm.trans em))
theorem sh_25 {k t : Nat} {g : mG} (h : R2 k t g) (a : Nat → Int32) : ∃ v w g2, lwR_25 g a = some ((v, w), g2) ∧ R2 k t g2 := by
  have hm : Md sN g (P_X5_sets g (a 1)).2 := kt_sets (S := sN) (Md.rf (g := g))
  have ho : ok (fun p : Int32 × mC => H (g 7) p.2) (P_X6_sets (g 7) (a 1)) := hk_P_X6_sets h.1.1.1.hh
  have hA : Md sA g (P_X5_sets g (a 1)).2 := kt_sets (S := sA) (Md.rf (g := g))
  have hc := h.2.1.b hA.k (show ok (fun p : Int32 × mC => HB (g 7) p.2) (P_X6_sets (g 7) (a 1)) from hB_P_X6_sets (HB.rf h.1.1.1.hh))
  obtain ⟨w, g2, ⟨m, em⟩, e1, e2⟩ := h.st (v := (P_X5_sets g (a 1)).1) hm ho hc
  refine ⟨(P_X5_sets g (a 1)).1, w, g2, ?_, e2⟩
  unfold lwR_25
  rw [hm.1 7 (by decide) (by decide) (by decide)]
  exact e1
theorem sh_26 {k t : Nat} {g : mG} (h : R2 k t g) (a : Nat → Int32) : ∃ v w g2, lwR_26 g a = some ((v, w), g2) ∧ R2 k t g2 := by
  have hm : Md sN g (P_X5_when g (a 1)).2 := kl_P_X5_when (S := sN) (Md.rf (g := g))
  have ho : ok (fun p : Int32 × mC => H (g 7) p.2) (P_X6_when (g 7) (a 1)) := hk_P_X6_when h.1.1.1.hh
  have hA : Md sA g (P_X5_when g (a 1)).2 := kl_P_X5_when (S := sA) (Md.rf (g := g))
  have hc := h.2.1.v hA.k (show ok (RV (g 7 21)) (P_X6_when (g 7) (a 1)) from rv_P_X6_when h.1.1.1.1)
  obtain ⟨w, g2, ⟨m, em⟩, e1, e2⟩ := h.st (v := (P_X5_when g (a 1)).1) hm ho hc
  refine ⟨(P_X5_when g (a 1)).1, w, g2, ?_, e2⟩
  unfold lwR_26
  rw [hm.1 7 (by decide) (by decide) (by decide)]
  exact e1
theorem sh_27 {k t : Nat} {g : mG} (h : R2 k t g) (a : Nat → Int32) : ∃ v w g2, lwR_27 g a = some ((v, w), g2) ∧ R2 k t g2 := by
  have hm : Md sN g (P_X5_worst g (a 1)).2 := kl_P_X5_worst (S := sN) (Md.rf (g := g))
  have ho : ok (fun p : Int32 × mC => H (g 7) p.2) (P_X6_worst (g 7) (a 1)) := hk_P_X6_worst h.1.1.1.hh
  have hA : Md sA g (P_X5_worst g (a 1)).2 := kl_P_X5_worst (S := sA) (Md.rf (g := g))
  have hc := h.2.1.v hA.k (show ok (RV (g 7 21)) (P_X6_worst (g 7) (a 1)) from rv_P_X6_worst h.1.1.1.1)
  obtain ⟨w, g2, ⟨m, em⟩, e1, e2⟩ := h.st (v := (P_X5_worst g (a 1)).1) hm ho hc
  refine ⟨(P_X5_worst g (a 1)).1, w, g2, ?_, e2⟩
  unfold lwR_27
  rw [hm.1 7 (by decide) (by decide) (by decide)]
  exact e1
theorem sh_28 {k t : Nat} {g : mG} (h : R2 k t g) (a : Nat → Int32) : ∃ v w g2, lwR_28 g a = some ((v, w), g2) ∧ R2 k t g2 := by
  have hm : Md sN g (P_X5_cleared g).2 := kl_P_X5_cleared (S := sN) (Md.rf (g := g))
  have ho : ok (fun p : Int32 × mC => H (g 7) p.2) (P_X6_cleared (g 7)) := hk_P_X6_cleared h.1.1.1.hh
  have hA : Md sA g (P_X5_cleared g).2 := kl_P_X5_cleared (S := sA) (Md.rf (g := g))
  have hc := h.2.1.v hA.k (show ok (RV (g 7 21)) (P_X6_cleared (g 7)) from rv_P_X6_cleared h.1.1.1.1)
  obtain ⟨w, g2, ⟨m, em⟩, e1, e2⟩ := h.st (v := (P_X5_cleared g).1) hm ho hc
  refine ⟨(P_X5_cleared g).1, w, g2, ?_, e2⟩
  unfold lwR_28
  rw [hm.1 7 (by decide) (by decide) (by decide)]
  exact e1
theorem sh_29 {k t : Nat} {g : mG} (h : R2 k t g) (a : Nat → Int32) : ∃ v w g2, lwR_29 g a = some ((v, w), g2) ∧ R2 k t g2 := by
  have hm : Md sN g (P_X5_instep g).2 := kl_P_X5_instep (S := sN) (Md.rf (g := g))
  have ho : ok (fun p : Int32 × mC => H (g 7) p.2) (P_X6_instep (g 7)) := hk_P_X6_instep h.1.1.1.hh
  have hA : Md sA g (P_X5_instep g).2 := kl_P_X5_instep (S := sA) (Md.rf (g := g))
  have hc := h.2.1.v hA.k (show ok (RV (g 7 21)) (P_X6_instep (g 7)) from rv_P_X6_instep h.1.1.1.1)
  obtain ⟨w, g2, ⟨m, em⟩, e1, e2⟩ := h.st (v := (P_X5_instep g).1) hm ho hc
  refine ⟨(P_X5_instep g).1, w, g2, ?_, e2⟩
  unfold lwR_29
  rw [hm.1 7 (by decide) (by decide) (by decide)]
  exact e1
theorem sh_30 {k t : Nat} {g : mG} (h : R2 k t g) (a : Nat → Int32) : ∃ v w g2, lwR_30 g a = some ((v, w), g2) ∧ R2 k t g2 := by
  have hm : Md sN g (P_X5_broken g (a 1)).2 := kl_P_X5_broken (S := sN) (Md.rf (g := g))
  have ho : ok (fun p : Int32 × mC => H (g 7) p.2) (P_X6_broken (g 7) (a 1)) := hk_P_X6_broken h.1.1.1.hh
  have hA : Md sA g (P_X5_broken g (a 1)).2 := kl_P_X5_broken (S := sA) (Md.rf (g := g))
  have hc := h.2.1.v hA.k (show ok (RV (g 7 21)) (P_X6_broken (g 7) (a 1)) from rv_P_X6_broken h.1.1.1.1)
  obtain ⟨w, g2, ⟨m, em⟩, e1, e2⟩ := h.st (v := (P_X5_broken g (a 1)).1) hm ho hc
  refine ⟨(P_X5_broken g (a 1)).1, w, g2, ?_, e2⟩
  unfold lwR_30
  rw [hm.1 7 (by decide) (by decide) (by decide)]
  exact e1
theorem sh_31 {k t : Nat} {g : mG} (h : R2 k t g) (a : Nat → Int32) : ∃ v w g2, lwR_31 g a = some ((v, w), g2) ∧ R2 k t g2 := by
  have hm : Md sN g (P_X5_paper g (a 1) (a 2)).2 := kl_P_X5_paper (S := sN) (Md.rf (g := g))
  have ho : ok (fun p : Int32 × mC => H (g 7) p.2) (P_X6_paper (g 7) (a 1) (a 2)) := hk_P_X6_paper h.1.1.1.hh
  have hA : Md sA g (P_X5_paper g (a 1) (a 2)).2 := kl_P_X5_paper (S := sA) (Md.rf (g := g))
  have hc := h.2.1.v hA.k (show ok (RV (g 7 21)) (P_X6_paper (g 7) (a 1) (a 2)) from rv_P_X6_paper h.1.1.1.1)
  obtain ⟨w, g2, ⟨m, em⟩, e1, e2⟩ := h.st (v := (P_X5_paper g (a 1) (a 2)).1) hm ho hc
  refine ⟨(P_X5_paper g (a 1) (a 2)).1, w, g2, ?_, e2⟩
  unfold lwR_31
  rw [hm.1 7 (by decide) (by decide) (by decide)]
  exact e1
theorem sh_32 {k t : Nat} {g : mG} (h : R2 k t g) (a : Nat → Int32) : ∃ v w g2, lwR_32 g a = some ((v, w), g2) ∧ R2 k t g2 := by
  have hm : Md sN g (P_X5_bestMax g (a 1) (a 2)).2 := kl_P_X5_bestMax (S := sN) (Md.rf (g := g))
  have ho : ok (fun p : Int32 × mC => H (g 7) p.2) (P_X6_bestMax (g 7) (a 1) (a 2)) := hk_P_X6_bestMax h.1.1.1.hh
  have hA : Md sA g (P_X5_bestMax g (a 1) (a 2)).2 := kl_P_X5_bestMax (S := sA) (Md.rf (g := g))
  have hc := h.2.1.v hA.k (show ok (RV (g 7 21)) (P_X6_bestMax (g 7) (a 1) (a 2)) from rv_P_X6_bestMax h.1.1.1.1)
  obtain ⟨w, g2, ⟨m, em⟩, e1, e2⟩ := h.st (v := (P_X5_bestMax g (a 1) (a 2)).1) hm ho hc
  refine ⟨(P_X5_bestMax g (a 1) (a 2)).1, w, g2, ?_, e2⟩
  unfold lwR_32
  rw [hm.1 7 (by decide) (by decide) (by decide)]
  exact e1
theorem sh_33 {k t : Nat} {g : mG} (h : R2 k t g) (a : Nat → Int32) : ∃ v w g2, lwR_33 g a = some ((v, w), g2) ∧ R2 k t g2 := by
  have hm : Md sN g (P_X5_cheapest g (a 1)).2 := kl_P_X5_cheapest (S := sN) (Md.rf (g := g))
  have ho : ok (fun p : Int32 × mC => H (g 7) p.2) (P_X6_cheapest (g 7) (a 1)) := hk_P_X6_cheapest h.1.1.1.hh
  have hA : Md sA g (P_X5_cheapest g (a 1)).2 := kl_P_X5_cheapest (S := sA) (Md.rf (g := g))
  have hc := h.2.1.v hA.k (show ok (RV (g 7 21)) (P_X6_cheapest (g 7) (a 1)) from rv_P_X6_cheapest h.1.1.1.1)
  obtain ⟨w, g2, ⟨m, em⟩, e1, e2⟩ := h.st (v := (P_X5_cheapest g (a 1)).1) hm ho hc
  refine ⟨(P_X5_cheapest g (a 1)).1, w, g2, ?_, e2⟩
  unfold lwR_33
  rw [hm.1 7 (by decide) (by decide) (by decide)]
  exact e1
def RR (g : mG) : Prop := ∃ k t, R2 k t g
theorem step_all {g : mG} (h : RR g) (x : Int32) (a : Nat → Int32) : ∃ v w g2, lwS x g a = some ((v, w), g2) ∧ RR g2 ∧ ((x = 1 ∨ x = 2 ∨ x = 3 ∨ x = 7 ∨ x = 11 ∨ x = 12 ∨ x = 15 ∨ x = 16 ∨ x = 18 ∨ x = 20 ∨ x = 22 ∨ x = 23 ∨ x = 24) → v = w) := by
  obtain ⟨k, t, h⟩ := h
  unfold lwS
  by_cases h0 : x = 0
  · rw [if_pos h0]
    obtain ⟨v, w, g2, e, z⟩ := sh_0 h a
    exact ⟨v, w, g2, e, ⟨k, t, z⟩, fun q => absurd q (by subst h0; decide)⟩
  rw [if_neg h0]
  by_cases h1 : x = 1
  · rw [if_pos h1]
    obtain ⟨v, w, g2, e, ⟨u, z⟩, q⟩ := sh_1 h a
    exact ⟨v, w, g2, e, ⟨k, u, z⟩, fun _ => q⟩
  rw [if_neg h1]
  by_cases h2 : x = 2
  · rw [if_pos h2]
    obtain ⟨v, w, g2, e, ⟨u, z⟩, q⟩ := sh_2 h a
    exact ⟨v, w, g2, e, ⟨k, u, z⟩, fun _ => q⟩
  rw [if_neg h2]
  by_cases h3 : x = 3
  · rw [if_pos h3]
    obtain ⟨v, w, g2, e, z, q⟩ := sh_3 h a
    exact ⟨v, w, g2, e, ⟨k, t, z⟩, fun _ => q⟩
  rw [if_neg h3]
  by_cases h4 : x = 4
  · rw [if_pos h4]
    obtain ⟨v, w, g2, e, z⟩ := sh_4 h a
    exact ⟨v, w, g2, e, ⟨k, t, z⟩, fun q => absurd q (by subst h4; decide)⟩
  rw [if_neg h4]
  by_cases h5 : x = 5
  · rw [if_pos h5]
    obtain ⟨v, w, g2, e, z⟩ := sh_5 h a
    exact ⟨v, w, g2, e, ⟨k, t, z⟩, fun q => absurd q (by subst h5; decide)⟩
  rw [if_neg h5]
  by_cases h6 : x = 6
  · rw [if_pos h6]
    obtain ⟨v, w, g2, e, z⟩ := sh_6 h a
    exact ⟨v, w, g2, e, ⟨k, t, z⟩, fun q => absurd q (by subst h6; decide)⟩
  rw [if_neg h6]
  by_cases h7 : x = 7
  · rw [if_pos h7]
    obtain ⟨v, w, g2, e, z, q⟩ := sh_7 h a
    exact ⟨v, w, g2, e, ⟨k, t, z⟩, fun _ => q⟩
  rw [if_neg h7]
  by_cases h8 : x = 8
  · rw [if_pos h8]
    obtain ⟨v, w, g2, e, z⟩ := sh_8 h a
    exact ⟨v, w, g2, e, ⟨k, t, z⟩, fun q => absurd q (by subst h8; decide)⟩
  rw [if_neg h8]
  by_cases h9 : x = 9
  · rw [if_pos h9]
    obtain ⟨v, w, g2, e, z⟩ := sh_9 h a
    exact ⟨v, w, g2, e, ⟨k, t, z⟩, fun q => absurd q (by subst h9; decide)⟩
  rw [if_neg h9]
  by_cases h10 : x = 10
  · rw [if_pos h10]
    obtain ⟨v, w, g2, e, z⟩ := sh_10 h a
    exact ⟨v, w, g2, e, ⟨k, t, z⟩, fun q => absurd q (by subst h10; decide)⟩
  rw [if_neg h10]
  by_cases h11 : x = 11
  · rw [if_pos h11]
    obtain ⟨v, w, g2, e, z, q⟩ := sh_11 h a
    exact ⟨v, w, g2, e, ⟨k, t, z⟩, fun _ => q⟩
  rw [if_neg h11]
  by_cases h12 : x = 12
  · rw [if_pos h12]
    obtain ⟨v, w, g2, e, z, q⟩ := sh_12 h a
    exact ⟨v, w, g2, e, ⟨k, t, z⟩, fun _ => q⟩
  rw [if_neg h12]
  by_cases h13 : x = 13
  · rw [if_pos h13]
    obtain ⟨v, w, g2, e, z⟩ := sh_13 h a
    exact ⟨v, w, g2, e, ⟨k, t, z⟩, fun q => absurd q (by subst h13; decide)⟩
  rw [if_neg h13]
  by_cases h14 : x = 14
  · rw [if_pos h14]
    obtain ⟨v, w, g2, e, z⟩ := sh_14 h a
    exact ⟨v, w, g2, e, ⟨k, t, z⟩, fun q => absurd q (by subst h14; decide)⟩
  rw [if_neg h14]
  by_cases h15 : x = 15
  · rw [if_pos h15]
    obtain ⟨v, w, g2, e, z, q⟩ := sh_15 h a
    exact ⟨v, w, g2, e, ⟨k, t, z⟩, fun _ => q⟩
  rw [if_neg h15]
  by_cases h16 : x = 16
  · rw [if_pos h16]
    obtain ⟨v, w, g2, e, z, q⟩ := sh_16 h a
    exact ⟨v, w, g2, e, ⟨k, t, z⟩, fun _ => q⟩
  rw [if_neg h16]
  by_cases h17 : x = 17
  · rw [if_pos h17]
    obtain ⟨v, w, g2, e, z⟩ := sh_17 h a
    exact ⟨v, w, g2, e, ⟨k, t, z⟩, fun q => absurd q (by subst h17; decide)⟩
  rw [if_neg h17]
  by_cases h18 : x = 18
  · rw [if_pos h18]
    obtain ⟨v, w, g2, e, z, q⟩ := sh_18 h a
    exact ⟨v, w, g2, e, ⟨k, t, z⟩, fun _ => q⟩
  rw [if_neg h18]
  by_cases h19 : x = 19
  · rw [if_pos h19]
    obtain ⟨v, w, g2, e, z⟩ := sh_19 h a
    exact ⟨v, w, g2, e, ⟨k, t, z⟩, fun q => absurd q (by subst h19; decide)⟩
  rw [if_neg h19]
  by_cases h20 : x = 20
  · rw [if_pos h20]
    obtain ⟨v, w, g2, e, z, q⟩ := sh_20 h a
    exact ⟨v, w, g2, e, ⟨k, t, z⟩, fun _ => q⟩
  rw [if_neg h20]
  by_cases h21 : x = 21
  · rw [if_pos h21]
    obtain ⟨v, w, g2, e, z⟩ := sh_21 h a
    exact ⟨v, w, g2, e, ⟨k, t, z⟩, fun q => absurd q (by subst h21; decide)⟩
  rw [if_neg h21]
  by_cases h22 : x = 22
  · rw [if_pos h22]
    obtain ⟨v, w, g2, e, ⟨u, z⟩, q⟩ := sh_22 h a
    exact ⟨v, w, g2, e, ⟨u, t, z⟩, fun _ => q⟩
  rw [if_neg h22]
  by_cases h23 : x = 23
  · rw [if_pos h23]
    obtain ⟨v, w, g2, e, ⟨u, z⟩, q⟩ := sh_23 h a
    exact ⟨v, w, g2, e, ⟨u, t, z⟩, fun _ => q⟩
  rw [if_neg h23]
  by_cases h24 : x = 24
  · rw [if_pos h24]
    obtain ⟨v, w, g2, e, z, q⟩ := sh_24 h a
    exact ⟨v, w, g2, e, ⟨k, t, z⟩, fun _ => q⟩
  rw [if_neg h24]
  by_cases h25 : x = 25
  · rw [if_pos h25]
    obtain ⟨v, w, g2, e, z⟩ := sh_25 h a
    exact ⟨v, w, g2, e, ⟨k, t, z⟩, fun q => absurd q (by subst h25; decide)⟩
  rw [if_neg h25]
  by_cases h26 : x = 26
  · rw [if_pos h26]
    obtain ⟨v, w, g2, e, z⟩ := sh_26 h a
    exact ⟨v, w, g2, e, ⟨k, t, z⟩, fun q => absurd q (by subst h26; decide)⟩
  rw [if_neg h26]
  by_cases h27 : x = 27
  · rw [if_pos h27]
    obtain ⟨v, w, g2, e, z⟩ := sh_27 h a
    exact ⟨v, w, g2, e, ⟨k, t, z⟩, fun q => absurd q (by subst h27; decide)⟩
  rw [if_neg h27]
  by_cases h28 : x = 28
  · rw [if_pos h28]
    obtain ⟨v, w, g2, e, z⟩ := sh_28 h a
    exact ⟨v, w, g2, e, ⟨k, t, z⟩, fun q => absurd q (by subst h28; decide)⟩
  rw [if_neg h28]
  by_cases h29 : x = 29
  · rw [if_pos h29]
    obtain ⟨v, w, g2, e, z⟩ := sh_29 h a
    exact ⟨v, w, g2, e, ⟨k, t, z⟩, fun q => absurd q (by subst h29; decide)⟩
  rw [if_neg h29]
  by_cases h30 : x = 30
  · rw [if_pos h30]
    obtain ⟨v, w, g2, e, z⟩ := sh_30 h a
    exact ⟨v, w, g2, e, ⟨k, t, z⟩, fun q => absurd q (by subst h30; decide)⟩
  rw [if_neg h30]
  by_cases h31 : x = 31
  · rw [if_pos h31]
    obtain ⟨v, w, g2, e, z⟩ := sh_31 h a
    exact ⟨v, w, g2, e, ⟨k, t, z⟩, fun q => absurd q (by subst h31; decide)⟩
  rw [if_neg h31]
  by_cases h32 : x = 32
  · rw [if_pos h32]
    obtain ⟨v, w, g2, e, z⟩ := sh_32 h a
    exact ⟨v, w, g2, e, ⟨k, t, z⟩, fun q => absurd q (by subst h32; decide)⟩
  rw [if_neg h32]
  by_cases h33 : x = 33
  · rw [if_pos h33]
    obtain ⟨v, w, g2, e, z⟩ := sh_33 h a
    exact ⟨v, w, g2, e, ⟨k, t, z⟩, fun q => absurd q (by subst h33; decide)⟩
  rw [if_neg h33]
  exact ⟨0, 0, g, rfl, ⟨k, t, h⟩, fun _ => rfl⟩
