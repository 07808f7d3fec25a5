/-! The crossings alike: each call -/
theorem sh_0 {k t : Nat} {g : mG} (h : R2 k t g) (a : Nat → Int32) : ∃ v w g2, lwR_0 g a = some ((v, w), g2) ∧ R2 k t g2 := by
  obtain ⟨w, e, _⟩ := t_status (c := g 7)
  unfold lwR_0
  rw [e]
  exact ⟨_, _, _, rfl, h⟩
theorem sh_3 {k t : Nat} {g : mG} (h : R2 k t g) (a : Nat → Int32) : ∃ v w g2, lwR_3 g a = some ((v, w), g2) ∧ R2 k t g2 ∧ v = w := by
  unfold lwR_3
  rw [fault_v h.1.2.2 (a 1)]
  exact ⟨_, _, _, rfl, h, rfl⟩
theorem sh_4 {k t : Nat} {g : mG} (h : R2 k t g) (a : Nat → Int32) : ∃ v w g2, lwR_4 g a = some ((v, w), g2) ∧ R2 k t g2 := by
  have hm : Md sN g (P_X5_many g (a 1)).2 := kl_P_X5_many (S := sN) (Md.rf (g := g))
  have ho : ok (fun p : Int32 × mC => H (g 7) p.2) (P_X6_many (g 7) (a 1)) := hk_P_X6_many h.1.1.1.hh
  have hA : Md sA g (P_X5_many g (a 1)).2 := kl_P_X5_many (S := sA) (Md.rf (g := g))
  have hc := h.2.1.b hA.k (show ok (fun p : Int32 × mC => HB (g 7) p.2) (P_X6_many (g 7) (a 1)) from hB_P_X6_many (HB.rf h.1.1.1.hh))
  obtain ⟨w, g2, ⟨m, em⟩, e1, e2⟩ := h.st (v := (P_X5_many g (a 1)).1) hm ho hc
  refine ⟨(P_X5_many g (a 1)).1, w, g2, ?_, e2⟩
  unfold lwR_4
  rw [hm.1 7 (by decide) (by decide) (by decide)]
  exact e1
theorem sh_5 {k t : Nat} {g : mG} (h : R2 k t g) (a : Nat → Int32) : ∃ v w g2, lwR_5 g a = some ((v, w), g2) ∧ R2 k t g2 := by
  have hm : Md sN g (P_X5_ring g (a 1) (a 2)).2 := kl_P_X5_ring (S := sN) (Md.rf (g := g))
  have ho : ok (fun p : Int32 × mC => H (g 7) p.2) (P_X6_ring_ (g 7) (a 1) (a 2)) := hk_P_X6_ring_ h.1.1.1.hh
  have hA : Md sA g (P_X5_ring g (a 1) (a 2)).2 := kl_P_X5_ring (S := sA) (Md.rf (g := g))
  have hc := h.2.1.b hA.k (show ok (fun p : Int32 × mC => HB (g 7) p.2) (P_X6_ring_ (g 7) (a 1) (a 2)) from hB_P_X6_ring_ (HB.rf h.1.1.1.hh))
  obtain ⟨w, g2, ⟨m, em⟩, e1, e2⟩ := h.st (v := (P_X5_ring g (a 1) (a 2)).1) hm ho hc
  refine ⟨(P_X5_ring g (a 1) (a 2)).1, w, g2, ?_, e2⟩
  unfold lwR_5
  rw [hm.1 7 (by decide) (by decide) (by decide)]
  exact e1
theorem sh_6 {k t : Nat} {g : mG} (h : R2 k t g) (a : Nat → Int32) : ∃ v w g2, lwR_6 g a = some ((v, w), g2) ∧ R2 k t g2 := by
  have hm : Md sN g (P_X5_phase g (a 1) (a 2)).2 := kl_P_X5_phase (S := sN) (Md.rf (g := g))
  have ho : ok (fun p : Int32 × mC => H (g 7) p.2) (P_X6_phase (g 7) (a 1) (a 2)) := hk_P_X6_phase h.1.1.1.hh
  have hA : Md sA g (P_X5_phase g (a 1) (a 2)).2 := kl_P_X5_phase (S := sA) (Md.rf (g := g))
  have hc := h.2.1.b hA.k (show ok (fun p : Int32 × mC => HB (g 7) p.2) (P_X6_phase (g 7) (a 1) (a 2)) from hB_P_X6_phase (HB.rf h.1.1.1.hh))
  obtain ⟨w, g2, ⟨m, em⟩, e1, e2⟩ := h.st (v := (P_X5_phase g (a 1) (a 2)).1) hm ho hc
  refine ⟨(P_X5_phase g (a 1) (a 2)).1, w, g2, ?_, e2⟩
  unfold lwR_6
  rw [hm.1 7 (by decide) (by decide) (by decide)]
  exact e1
theorem sh_7 {k t : Nat} {g : mG} (h : R2 k t g) (a : Nat → Int32) : ∃ v w g2, lwR_7 g a = some ((v, w), g2) ∧ R2 k t g2 ∧ v = w := by
  have hm : Md sN g (P_X5_marked g (a 1) (a 2)).2 := kl_P_X5_marked (S := sN) (Md.rf (g := g))
  have ho : ok (fun p : Int32 × mC => H (g 7) p.2) (P_X6_marked (g 7) (a 1) (a 2)) := hk_P_X6_marked h.1.1.1.hh
  have hA : Md sA g (P_X5_marked g (a 1) (a 2)).2 := kl_P_X5_marked (S := sA) (Md.rf (g := g))
  have hc := h.2.1.b hA.k (show ok (fun p : Int32 × mC => HB (g 7) p.2) (P_X6_marked (g 7) (a 1) (a 2)) from hB_P_X6_marked (HB.rf h.1.1.1.hh))
  obtain ⟨w, g2, ⟨m, em⟩, e1, e2⟩ := h.st (v := (P_X5_marked g (a 1) (a 2)).1) hm ho hc
  refine ⟨(P_X5_marked g (a 1) (a 2)).1, w, g2, ?_, e2, ?_⟩
  · unfold lwR_7
    rw [hm.1 7 (by decide) (by decide) (by decide)]
    exact e1
  · obtain ⟨m0, e0⟩ := marked_v h.2.1 _ _
    exact congrArg Prod.fst (Option.some.inj (e0.symm.trans em))
theorem sh_8 {k t : Nat} {g : mG} (h : R2 k t g) (a : Nat → Int32) : ∃ v w g2, lwR_8 g a = some ((v, w), g2) ∧ R2 k t g2 := by
  have hm : Md sN g (P_X5_brake g (a 1) (a 2)).2 := kl_P_X5_brake (S := sN) (Md.rf (g := g))
  have ho : ok (fun p : Int32 × mC => H (g 7) p.2) (P_X6_brake (g 7) (a 1) (a 2)) := hk_P_X6_brake h.1.1.1.hh
  have hA : Md sA g (P_X5_brake g (a 1) (a 2)).2 := kl_P_X5_brake (S := sA) (Md.rf (g := g))
  have hc := h.2.1.b hA.k (show ok (fun p : Int32 × mC => HB (g 7) p.2) (P_X6_brake (g 7) (a 1) (a 2)) from hB_P_X6_brake (HB.rf h.1.1.1.hh))
  obtain ⟨w, g2, ⟨m, em⟩, e1, e2⟩ := h.st (v := (P_X5_brake g (a 1) (a 2)).1) hm ho hc
  refine ⟨(P_X5_brake g (a 1) (a 2)).1, w, g2, ?_, e2⟩
  unfold lwR_8
  rw [hm.1 7 (by decide) (by decide) (by decide)]
  exact e1
theorem sh_9 {k t : Nat} {g : mG} (h : R2 k t g) (a : Nat → Int32) : ∃ v w g2, lwR_9 g a = some ((v, w), g2) ∧ R2 k t g2 := by
  have hm : Md sN g (P_X5_sum g (a 1)).2 := kl_P_X5_sum (S := sN) (Md.rf (g := g))
  have ho : ok (fun p : Int32 × mC => H (g 7) p.2) (P_X6_sum (g 7) (a 1)) := hk_P_X6_sum h.1.1.1.hh
  have hA : Md sA g (P_X5_sum g (a 1)).2 := kl_P_X5_sum (S := sA) (Md.rf (g := g))
  have hc := h.2.1.b hA.k (show ok (fun p : Int32 × mC => HB (g 7) p.2) (P_X6_sum (g 7) (a 1)) from hB_P_X6_sum (HB.rf h.1.1.1.hh))
  obtain ⟨w, g2, ⟨m, em⟩, e1, e2⟩ := h.st (v := (P_X5_sum g (a 1)).1) hm ho hc
  refine ⟨(P_X5_sum g (a 1)).1, w, g2, ?_, e2⟩
  unfold lwR_9
  rw [hm.1 7 (by decide) (by decide) (by decide)]
  exact e1
theorem sh_10 {k t : Nat} {g : mG} (h : R2 k t g) (a : Nat → Int32) : ∃ v w g2, lwR_10 g a = some ((v, w), g2) ∧ R2 k t g2 := by
  have hm : Md sN g (P_X5_event g (a 1) (a 2)).2 := kl_P_X5_event (S := sN) (Md.rf (g := g))
  have ho : ok (fun p : Int32 × mC => H (g 7) p.2) (P_X6_event (g 7) (a 1) (a 2)) := hk_P_X6_event h.1.1.1.hh
  have hA : Md sA g (P_X5_event g (a 1) (a 2)).2 := kl_P_X5_event (S := sA) (Md.rf (g := g))
  have hc := h.2.1.b hA.k (show ok (fun p : Int32 × mC => HB (g 7) p.2) (P_X6_event (g 7) (a 1) (a 2)) from hB_P_X6_event (HB.rf h.1.1.1.hh))
  obtain ⟨w, g2, ⟨m, em⟩, e1, e2⟩ := h.st (v := (P_X5_event g (a 1) (a 2)).1) hm ho hc
  refine ⟨(P_X5_event g (a 1) (a 2)).1, w, g2, ?_, e2⟩
  unfold lwR_10
  rw [hm.1 7 (by decide) (by decide) (by decide)]
  exact e1
theorem sh_11 {k t : Nat} {g : mG} (h : R2 k t g) (a : Nat → Int32) : ∃ v w g2, lwR_11 g a = some ((v, w), g2) ∧ R2 k t g2 ∧ v = w := by
  have hm : Md sN g (P_X5_mark g (a 1) (a 2) (a 3)).2 := kn_P_X5_mark (Md.rf (g := g))
  have ho : ok (fun p : Int32 × mC => H (g 7) p.2) (P_X6_mark_ (g 7) (a 1) (a 2) (a 3)) := hk_P_X6_mark_ h.1.1.1.hh
  obtain ⟨m0, e0, c0⟩ := mark_v h.2.1 (a 1) (a 2) (a 3)
  have hc : ∀ p, (P_X6_mark_ (g 7) (a 1) (a 2) (a 3)) = some p → CR ((P_X5_mark g (a 1) (a 2) (a 3)).2 0) (p.2 21) := fun p ep => by
    rw [← Option.some.inj (e0.symm.trans ep)]
    exact c0
  obtain ⟨w, g2, ⟨m, em⟩, e1, e2⟩ := h.st (v := (P_X5_mark g (a 1) (a 2) (a 3)).1) hm ho hc
  refine ⟨(P_X5_mark g (a 1) (a 2) (a 3)).1, w, g2, ?_, e2, ?_⟩
  · unfold lwR_11
    rw [hm.1 7 (by decide) (by decide) (by decide)]
    exact e1
  · exact congrArg Prod.fst (Option.some.inj (e0.symm.trans em))
theorem sh_12 {k t : Nat} {g : mG} (h : R2 k t g) (a : Nat → Int32) : ∃ v w g2, lwR_12 g a = some ((v, w), g2) ∧ R2 k t g2 ∧ v = w := by
  have hm : Md sN g (P_X5_clock g (a 1) (a 2)).2 := kn_P_X5_clock (Md.rf (g := g))
  have ho : ok (fun p : Int32 × mC => H (g 7) p.2) (P_X6_clock (g 7) (a 1) (a 2)) := hk_P_X6_clock h.1.1.1.hh
  have hc : ∀ p, (P_X6_clock (g 7) (a 1) (a 2)) = some p → CR ((P_X5_clock g (a 1) (a 2)).2 0) (p.2 21) := fun p ep => (clock_v h.2.1 _ _ ep).2
  obtain ⟨w, g2, ⟨m, em⟩, e1, e2⟩ := h.st (v := (P_X5_clock g (a 1) (a 2)).1) hm ho hc
  refine ⟨(P_X5_clock g (a 1) (a 2)).1, w, g2, ?_, e2, ?_⟩
  · unfold lwR_12
    rw [hm.1 7 (by decide) (by decide) (by decide)]
    exact e1
  · exact (clock_v h.2.1 _ _ em).1
theorem sh_13 {k t : Nat} {g : mG} (h : R2 k t g) (a : Nat → Int32) : ∃ v w g2, lwR_13 g a = some ((v, w), g2) ∧ R2 k t g2 := by
  have hm : Md sN g (P_X5_call g (a 1) (if a 2 = 0 then 0 else 1)).2 := kn_P_X5_call (Md.rf (g := g))
  have ho : ok (fun p : Int32 × mC => H (g 7) p.2) (P_X6_call (g 7) (a 1) (if a 2 = 0 then 0 else 1)) := hk_P_X6_call h.1.1.1.hh
  have hA : Md sA g (P_X5_call g (a 1) (if a 2 = 0 then 0 else 1)).2 := ka_P_X5_call (Md.rf (g := g))
  have hc := h.2.1.b hA.k (show ok (fun p : Int32 × mC => HB (g 7) p.2) (P_X6_call (g 7) (a 1) (if a 2 = 0 then 0 else 1)) from hB_P_X6_call (HB.rf h.1.1.1.hh))
  obtain ⟨w, g2, ⟨m, em⟩, e1, e2⟩ := h.st (v := (P_X5_call g (a 1) (if a 2 = 0 then 0 else 1)).1) hm ho hc
  refine ⟨(P_X5_call g (a 1) (if a 2 = 0 then 0 else 1)).1, w, g2, ?_, e2⟩
  unfold lwR_13
  rw [hm.1 7 (by decide) (by decide) (by decide)]
  exact e1
theorem sh_14 {k t : Nat} {g : mG} (h : R2 k t g) (a : Nat → Int32) : ∃ v w g2, lwR_14 g a = some ((v, w), g2) ∧ R2 k t g2 := by
  have hm : Md sN g (P_X5_come g (a 1) (a 2)).2 := kn_P_X5_come (Md.rf (g := g))
  have ho : ok (fun p : Int32 × mC => H (g 7) p.2) (P_X6_come (g 7) (a 1) (a 2)) := hk_P_X6_come h.1.1.1.hh
  have hA : Md sA g (P_X5_come g (a 1) (a 2)).2 := ka_P_X5_come (Md.rf (g := g))
  have hc := h.2.1.b hA.k (show ok (fun p : Int32 × mC => HB (g 7) p.2) (P_X6_come (g 7) (a 1) (a 2)) from hB_P_X6_come (HB.rf h.1.1.1.hh))
  obtain ⟨w, g2, ⟨m, em⟩, e1, e2⟩ := h.st (v := (P_X5_come g (a 1) (a 2)).1) hm ho hc
  refine ⟨(P_X5_come g (a 1) (a 2)).1, w, g2, ?_, e2⟩
  unfold lwR_14
  rw [hm.1 7 (by decide) (by decide) (by decide)]
  exact e1
theorem sh_15 {k t : Nat} {g : mG} (h : R2 k t g) (a : Nat → Int32) : ∃ v w g2, lwR_15 g a = some ((v, w), g2) ∧ R2 k t g2 ∧ v = w := by
  have hm : Md sN g (P_X5_ask g (a 1)).2 := kn_P_X5_ask (Md.rf (g := g))
  have ho : ok (fun p : Int32 × mC => H (g 7) p.2) (P_X6_ask (g 7) (a 1)) := hk_P_X6_ask h.1.1.1.hh
  obtain ⟨m0, e0, c0⟩ := ask_v h.2.1 (a 1)
  have hc : ∀ p, (P_X6_ask (g 7) (a 1)) = some p → CR ((P_X5_ask g (a 1)).2 0) (p.2 21) := fun p ep => by
    rw [← Option.some.inj (e0.symm.trans ep)]
    exact c0
  obtain ⟨w, g2, ⟨m, em⟩, e1, e2⟩ := h.st (v := (P_X5_ask g (a 1)).1) hm ho hc
  refine ⟨(P_X5_ask g (a 1)).1, w, g2, ?_, e2, ?_⟩
  · unfold lwR_15
    rw [hm.1 7 (by decide) (by decide) (by decide)]
    exact e1
  · exact congrArg Prod.fst (Option.some.inj (e0.symm.trans em))
theorem sh_16 {k t : Nat} {g : mG} (h : R2 k t g) (a : Nat → Int32) : ∃ v w g2, lwR_16 g a = some ((v, w), g2) ∧ R2 k t g2 ∧ v = w := by
  have hm : Md sN g (P_X5_let g (a 1)).2 := kn_P_X5_let (Md.rf (g := g))
  have ho : ok (fun p : Int32 × mC => H (g 7) p.2) (P_X6_let (g 7) (a 1)) := hk_P_X6_let h.1.1.1.hh
  obtain ⟨m0, e0, c0⟩ := let_v h.2.1 (a 1)
  have hc : ∀ p, (P_X6_let (g 7) (a 1)) = some p → CR ((P_X5_let g (a 1)).2 0) (p.2 21) := fun p ep => by
    rw [← Option.some.inj (e0.symm.trans ep)]
    exact c0
  obtain ⟨w, g2, ⟨m, em⟩, e1, e2⟩ := h.st (v := (P_X5_let g (a 1)).1) hm ho hc
  refine ⟨(P_X5_let g (a 1)).1, w, g2, ?_, e2, ?_⟩
  · unfold lwR_16
    rw [hm.1 7 (by decide) (by decide) (by decide)]
    exact e1
  · exact congrArg Prod.fst (Option.some.inj (e0.symm.trans em))
theorem sh_17 {k t : Nat} {g : mG} (h : R2 k t g) (a : Nat → Int32) : ∃ v w g2, lwR_17 g a = some ((v, w), g2) ∧ R2 k t g2 := by
  have hm : Md sN g (P_X5_brakes g (a 1) (a 2) (a 3) (a 4) (a 5) (a 6)).2 := kn_P_X5_brakes (Md.rf (g := g))
  have ho : ok (fun p : Int32 × mC => H (g 7) p.2) (P_X6_brakes (g 7) (a 1) (a 2) (a 3) (a 4) (a 5) (a 6)) := hk_P_X6_brakes h.1.1.1.hh
  have hA : Md sA g (P_X5_brakes g (a 1) (a 2) (a 3) (a 4) (a 5) (a 6)).2 := ka_P_X5_brakes (Md.rf (g := g))
  have hc := h.2.1.b hA.k (show ok (fun p : Int32 × mC => HB (g 7) p.2) (P_X6_brakes (g 7) (a 1) (a 2) (a 3) (a 4) (a 5) (a 6)) from hB_P_X6_brakes (HB.rf h.1.1.1.hh))
  obtain ⟨w, g2, ⟨m, em⟩, e1, e2⟩ := h.st (v := (P_X5_brakes g (a 1) (a 2) (a 3) (a 4) (a 5) (a 6)).1) hm ho hc
  refine ⟨(P_X5_brakes g (a 1) (a 2) (a 3) (a 4) (a 5) (a 6)).1, w, g2, ?_, e2⟩
  unfold lwR_17
  rw [hm.1 7 (by decide) (by decide) (by decide)]
  exact e1
theorem sh_18 {k t : Nat} {g : mG} (h : R2 k t g) (a : Nat → Int32) : ∃ v w g2, lwR_18 g a = some ((v, w), g2) ∧ R2 k t g2 ∧ v = w := by
  have hm : Md sN g (P_X5_stick g (a 1) (if a 2 = 0 then 0 else 1)).2 := kn_P_X5_stick (Md.rf (g := g))
  have ho : ok (fun p : Int32 × mC => H (g 7) p.2) (P_X6_stick (g 7) (a 1) (if a 2 = 0 then 0 else 1)) := hk_P_X6_stick h.1.1.1.hh
  obtain ⟨m0, e0, c0⟩ := stick_v h.2.1 (a 1) (if a 2 = 0 then 0 else 1) (by split; exact Or.inl rfl; exact Or.inr rfl)
  have hc : ∀ p, (P_X6_stick (g 7) (a 1) (if a 2 = 0 then 0 else 1)) = some p → CR ((P_X5_stick g (a 1) (if a 2 = 0 then 0 else 1)).2 0) (p.2 21) := fun p ep => by
    rw [← Option.some.inj (e0.symm.trans ep)]
    exact c0
  obtain ⟨w, g2, ⟨m, em⟩, e1, e2⟩ := h.st (v := (P_X5_stick g (a 1) (if a 2 = 0 then 0 else 1)).1) hm ho hc
  refine ⟨(P_X5_stick g (a 1) (if a 2 = 0 then 0 else 1)).1, w, g2, ?_, e2, ?_⟩
  · unfold lwR_18
    rw [hm.1 7 (by decide) (by decide) (by decide)]
    exact e1
  · exact congrArg Prod.fst (Option.some.inj (e0.symm.trans em))
theorem sh_19 {k t : Nat} {g : mG} (h : R2 k t g) (a : Nat → Int32) : ∃ v w g2, lwR_19 g a = some ((v, w), g2) ∧ R2 k t g2 := by
  have hm : Md sN g (P_X5_reset g).2 := kn_P_X5_reset (Md.rf (g := g))
  have ho : ok (fun p : Int32 × mC => H (g 7) p.2) (P_X6_reset (g 7)) := hk_P_X6_reset h.1.1.1.hh
  have hA : Md sA g (P_X5_reset g).2 := ka_P_X5_reset (Md.rf (g := g))
  have hc := h.2.1.b hA.k (show ok (fun p : Int32 × mC => HB (g 7) p.2) (P_X6_reset (g 7)) from hB_P_X6_reset (HB.rf h.1.1.1.hh))
  obtain ⟨w, g2, ⟨m, em⟩, e1, e2⟩ := h.st (v := (P_X5_reset g).1) hm ho hc
  refine ⟨(P_X5_reset g).1, w, g2, ?_, e2⟩
  unfold lwR_19
  rw [hm.1 7 (by decide) (by decide) (by decide)]
  exact e1
theorem sh_20 {k t : Nat} {g : mG} (h : R2 k t g) (a : Nat → Int32) : ∃ v w g2, lwR_20 g a = some ((v, w), g2) ∧ R2 k t g2 ∧ v = w := by
  have hm : Md sN g (P_X5_tick g (a 1)).2 := kn_P_X5_tick (Md.rf (g := g))
  have ho : ok (fun p : Int32 × mC => H (g 7) p.2) (P_X6_tick (g 7) (a 1)) := hk_P_X6_tick h.1.1.1.hh
  obtain ⟨m0, e0, c0⟩ := tick_v h.1.1.1.1 h.2.1 (a 1)
  have hc : ∀ p, (P_X6_tick (g 7) (a 1)) = some p → CR ((P_X5_tick g (a 1)).2 0) (p.2 21) := fun p ep => by
    rw [← Option.some.inj (e0.symm.trans ep)]
    exact c0
  obtain ⟨w, g2, ⟨m, em⟩, e1, e2⟩ := h.st (v := (P_X5_tick g (a 1)).1) hm ho hc
  refine ⟨(P_X5_tick g (a 1)).1, w, g2, ?_, e2, ?_⟩
  · unfold lwR_20
    rw [hm.1 7 (by decide) (by decide) (by decide)]
    exact e1
  · exact congrArg Prod.fst (Option.some.inj (e0.symm.trans em))
theorem sh_21 {k t : Nat} {g : mG} (h : R2 k t g) (a : Nat → Int32) : ∃ v w g2, lwR_21 g a = some ((v, w), g2) ∧ R2 k t g2 := by
  have hm : Md sN g (P_X5_run g (a 1) (a 2)).2 := kn_P_X5_run (Md.rf (g := g))
  have ho : ok (fun p : Int32 × mC => H (g 7) p.2) (P_X6_run (g 7) (a 1) (a 2)) := hk_P_X6_run h.1.1.1.hh
  have hc : ∀ p, (P_X6_run (g 7) (a 1) (a 2)) = some p → CR ((P_X5_run g (a 1) (a 2)).2 0) (p.2 21) := fun p ep => run_v h.1.1.1.1 h.2.1 _ _ ep
  obtain ⟨w, g2, ⟨m, em⟩, e1, e2⟩ := h.st (v := (P_X5_run g (a 1) (a 2)).1) hm ho hc
  refine ⟨(P_X5_run g (a 1) (a 2)).1, w, g2, ?_, e2⟩
  unfold lwR_21
  rw [hm.1 7 (by decide) (by decide) (by decide)]
  exact e1
theorem sh_24 {k t : Nat} {g : mG} (h : R2 k t g) (a : Nat → Int32) : ∃ v w g2, lwR_24 g a = some ((v, w), g2) ∧ R2 k t g2 ∧ v = w := by
  have hm : Md sN g (P_X5_foes g (a 1) (a 2)).2 := kl_P_X5_foes (S := sN) (Md.rf (g := g))
  have ho : ok (fun p : Int32 × mC => H (g 7) p.2) (P_X6_foes (g 7) (a 1) (a 2)) := hk_P_X6_foes h.1.1.1.hh
  have hA : Md sA g (P_X5_foes g (a 1) (a 2)).2 := kl_P_X5_foes (S := sA) (Md.rf (g := g))
  have hc := h.2.1.b hA.k (show ok (fun p : Int32 × mC => HB (g 7) p.2) (P_X6_foes (g 7) (a 1) (a 2)) from hB_P_X6_foes (HB.rf h.1.1.1.hh))
  obtain ⟨w, g2, ⟨m, em⟩, e1, e2⟩ := h.st (v := (P_X5_foes g (a 1) (a 2)).1) hm ho hc
  refine ⟨(P_X5_foes g (a 1) (a 2)).1, w, g2, ?_, e2, ?_⟩
  · unfold lwR_24
    rw [hm.1 7 (by decide) (by decide) (by decide)]
    exact e1
  · obtain ⟨m0, e0⟩ := foes_v h.2.1 _ _
    exact congrArg Prod.fst (Option.some.inj (e0.symm.trans em))
theorem sh_25 {k t : Nat} {g : mG} (h : R2 k t g) (a : Nat → Int32) : ∃ v w g2, lwR_25 g a = some ((v, w), g2) ∧ R2 k t g2 := by
  have hm : Md sN g (P_X5_sets g (a 1)).2 := kt_sets (S := sN) (Md.rf (g := g))
  have ho : ok (fun p : Int32 × mC => H (g 7) p.2) (P_X6_sets (g 7) (a 1)) := hk_P_X6_sets h.1.1.1.hh
  have hA : Md sA g (P_X5_sets g (a 1)).2 := kt_sets (S := sA) (Md.rf (g := g))
  have hc := h.2.1.b hA.k (show ok (fun p : Int32 × mC => HB (g 7) p.2) (P_X6_sets (g 7) (a 1)) from hB_P_X6_sets (HB.rf h.1.1.1.hh))
  obtain ⟨w, g2, ⟨m, em⟩, e1, e2⟩ := h.st (v := (P_X5_sets g (a 1)).1) hm ho hc
  refine ⟨(P_X5_sets g (a 1)).1, w, g2, ?_, e2⟩
  unfold lwR_25
  rw [hm.1 7 (by decide) (by decide) (by decide)]
  exact e1
theorem sh_26 {k t : Nat} {g : mG} (h : R2 k t g) (a : Nat → Int32) : ∃ v w g2, lwR_26 g a = some ((v, w), g2) ∧ R2 k t g2 := by
  have hm : Md sN g (P_X5_when g (a 1)).2 := kl_P_X5_when (S := sN) (Md.rf (g := g))
  have ho : ok (fun p : Int32 × mC => H (g 7) p.2) (P_X6_when (g 7) (a 1)) := hk_P_X6_when h.1.1.1.hh
  have hA : Md sA g (P_X5_when g (a 1)).2 := kl_P_X5_when (S := sA) (Md.rf (g := g))
  have hc := h.2.1.v hA.k (show ok (RV (g 7 21)) (P_X6_when (g 7) (a 1)) from rv_P_X6_when h.1.1.1.1)
  obtain ⟨w, g2, ⟨m, em⟩, e1, e2⟩ := h.st (v := (P_X5_when g (a 1)).1) hm ho hc
  refine ⟨(P_X5_when g (a 1)).1, w, g2, ?_, e2⟩
  unfold lwR_26
  rw [hm.1 7 (by decide) (by decide) (by decide)]
  exact e1
theorem sh_27 {k t : Nat} {g : mG} (h : R2 k t g) (a : Nat → Int32) : ∃ v w g2, lwR_27 g a = some ((v, w), g2) ∧ R2 k t g2 := by
  have hm : Md sN g (P_X5_worst g (a 1)).2 := kl_P_X5_worst (S := sN) (Md.rf (g := g))
  have ho : ok (fun p : Int32 × mC => H (g 7) p.2) (P_X6_worst (g 7) (a 1)) := hk_P_X6_worst h.1.1.1.hh
  have hA : Md sA g (P_X5_worst g (a 1)).2 := kl_P_X5_worst (S := sA) (Md.rf (g := g))
  have hc := h.2.1.v hA.k (show ok (RV (g 7 21)) (P_X6_worst (g 7) (a 1)) from rv_P_X6_worst h.1.1.1.1)
  obtain ⟨w, g2, ⟨m, em⟩, e1, e2⟩ := h.st (v := (P_X5_worst g (a 1)).1) hm ho hc
  refine ⟨(P_X5_worst g (a 1)).1, w, g2, ?_, e2⟩
  unfold lwR_27
  rw [hm.1 7 (by decide) (by decide) (by decide)]
  exact e1
theorem sh_28 {k t : Nat} {g : mG} (h : R2 k t g) (a : Nat → Int32) : ∃ v w g2, lwR_28 g a = some ((v, w), g2) ∧ R2 k t g2 := by
  have hm : Md sN g (P_X5_cleared g).2 := kl_P_X5_cleared (S := sN) (Md.rf (g := g))
  have ho : ok (fun p : Int32 × mC => H (g 7) p.2) (P_X6_cleared (g 7)) := hk_P_X6_cleared h.1.1.1.hh
  have hA : Md sA g (P_X5_cleared g).2 := kl_P_X5_cleared (S := sA) (Md.rf (g := g))
  have hc := h.2.1.v hA.k (show ok (RV (g 7 21)) (P_X6_cleared (g 7)) from rv_P_X6_cleared h.1.1.1.1)
  obtain ⟨w, g2, ⟨m, em⟩, e1, e2⟩ := h.st (v := (P_X5_cleared g).1) hm ho hc
  refine ⟨(P_X5_cleared g).1, w, g2, ?_, e2⟩
  unfold lwR_28
  rw [hm.1 7 (by decide) (by decide) (by decide)]
  exact e1
theorem sh_29 {k t : Nat} {g : mG} (h : R2 k t g) (a : Nat → Int32) : ∃ v w g2, lwR_29 g a = some ((v, w), g2) ∧ R2 k t g2 := by
  have hm : Md sN g (P_X5_instep g).2 := kl_P_X5_instep (S := sN) (Md.rf (g := g))
  have ho : ok (fun p : Int32 × mC => H (g 7) p.2) (P_X6_instep (g 7)) := hk_P_X6_instep h.1.1.1.hh
  have hA : Md sA g (P_X5_instep g).2 := kl_P_X5_instep (S := sA) (Md.rf (g := g))
  have hc := h.2.1.v hA.k (show ok (RV (g 7 21)) (P_X6_instep (g 7)) from rv_P_X6_instep h.1.1.1.1)
  obtain ⟨w, g2, ⟨m, em⟩, e1, e2⟩ := h.st (v := (P_X5_instep g).1) hm ho hc
  refine ⟨(P_X5_instep g).1, w, g2, ?_, e2⟩
  unfold lwR_29
  rw [hm.1 7 (by decide) (by decide) (by decide)]
  exact e1
theorem sh_30 {k t : Nat} {g : mG} (h : R2 k t g) (a : Nat → Int32) : ∃ v w g2, lwR_30 g a = some ((v, w), g2) ∧ R2 k t g2 := by
  have hm : Md sN g (P_X5_broken g (a 1)).2 := kl_P_X5_broken (S := sN) (Md.rf (g := g))
  have ho : ok (fun p : Int32 × mC => H (g 7) p.2) (P_X6_broken (g 7) (a 1)) := hk_P_X6_broken h.1.1.1.hh
  have hA : Md sA g (P_X5_broken g (a 1)).2 := kl_P_X5_broken (S := sA) (Md.rf (g := g))
  have hc := h.2.1.v hA.k (show ok (RV (g 7 21)) (P_X6_broken (g 7) (a 1)) from rv_P_X6_broken h.1.1.1.1)
  obtain ⟨w, g2, ⟨m, em⟩, e1, e2⟩ := h.st (v := (P_X5_broken g (a 1)).1) hm ho hc
  refine ⟨(P_X5_broken g (a 1)).1, w, g2, ?_, e2⟩
  unfold lwR_30
  rw [hm.1 7 (by decide) (by decide) (by decide)]
  exact e1
theorem sh_31 {k t : Nat} {g : mG} (h : R2 k t g) (a : Nat → Int32) : ∃ v w g2, lwR_31 g a = some ((v, w), g2) ∧ R2 k t g2 := by
  have hm : Md sN g (P_X5_paper g (a 1) (a 2)).2 := kl_P_X5_paper (S := sN) (Md.rf (g := g))
  have ho : ok (fun p : Int32 × mC => H (g 7) p.2) (P_X6_paper (g 7) (a 1) (a 2)) := hk_P_X6_paper h.1.1.1.hh
  have hA : Md sA g (P_X5_paper g (a 1) (a 2)).2 := kl_P_X5_paper (S := sA) (Md.rf (g := g))
  have hc := h.2.1.v hA.k (show ok (RV (g 7 21)) (P_X6_paper (g 7) (a 1) (a 2)) from rv_P_X6_paper h.1.1.1.1)
  obtain ⟨w, g2, ⟨m, em⟩, e1, e2⟩ := h.st (v := (P_X5_paper g (a 1) (a 2)).1) hm ho hc
  refine ⟨(P_X5_paper g (a 1) (a 2)).1, w, g2, ?_, e2⟩
  unfold lwR_31
  rw [hm.1 7 (by decide) (by decide) (by decide)]
  exact e1
theorem sh_32 {k t : Nat} {g : mG} (h : R2 k t g) (a : Nat → Int32) : ∃ v w g2, lwR_32 g a = some ((v, w), g2) ∧ R2 k t g2 := by
  have hm : Md sN g (P_X5_bestMax g (a 1) (a 2)).2 := kl_P_X5_bestMax (S := sN) (Md.rf (g := g))
  have ho : ok (fun p : Int32 × mC => H (g 7) p.2) (P_X6_bestMax (g 7) (a 1) (a 2)) := hk_P_X6_bestMax h.1.1.1.hh
  have hA : Md sA g (P_X5_bestMax g (a 1) (a 2)).2 := kl_P_X5_bestMax (S := sA) (Md.rf (g := g))
  have hc := h.2.1.v hA.k (show ok (RV (g 7 21)) (P_X6_bestMax (g 7) (a 1) (a 2)) from rv_P_X6_bestMax h.1.1.1.1)
  obtain ⟨w, g2, ⟨m, em⟩, e1, e2⟩ := h.st (v := (P_X5_bestMax g (a 1) (a 2)).1) hm ho hc
  refine ⟨(P_X5_bestMax g (a 1) (a 2)).1, w, g2, ?_, e2⟩
  unfold lwR_32
  rw [hm.1 7 (by decide) (by decide) (by decide)]
  exact e1
theorem sh_33 {k t : Nat} {g : mG} (h : R2 k t g) (a : Nat → Int32) : ∃ v w g2, lwR_33 g a = some ((v, w), g2) ∧ R2 k t g2 := by
  have hm : Md sN g (P_X5_cheapest g (a 1)).2 := kl_P_X5_cheapest (S := sN) (Md.rf (g := g))
  have ho : ok (fun p : Int32 × mC => H (g 7) p.2) (P_X6_cheapest (g 7) (a 1)) := hk_P_X6_cheapest h.1.1.1.hh
  have hA : Md sA g (P_X5_cheapest g (a 1)).2 := kl_P_X5_cheapest (S := sA) (Md.rf (g := g))
  have hc := h.2.1.v hA.k (show ok (RV (g 7 21)) (P_X6_cheapest (g 7) (a 1)) from rv_P_X6_cheapest h.1.1.1.1)
  obtain ⟨w, g2, ⟨m, em⟩, e1, e2⟩ := h.st (v := (P_X5_cheapest g (a 1)).1) hm ho hc
  refine ⟨(P_X5_cheapest g (a 1)).1, w, g2, ?_, e2⟩
  unfold lwR_33
  rw [hm.1 7 (by decide) (by decide) (by decide)]
  exact e1
