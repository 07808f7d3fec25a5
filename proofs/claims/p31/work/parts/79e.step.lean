/-! The clocks alike: each call -/
theorem sk_0 {k t : Nat} {g : mG} (h : R3 k t g) (a : Nat → Int32) : ∃ v w g2, lwR_0 g a = some ((v, w), g2) ∧ R3 k t g2 := by
  obtain ⟨w, e, _⟩ := t_status (c := g 7)
  unfold lwR_0
  rw [e]
  exact ⟨_, _, _, rfl, h⟩
theorem sk_3 {k t : Nat} {g : mG} (h : R3 k t g) (a : Nat → Int32) : ∃ v w g2, lwR_3 g a = some ((v, w), g2) ∧ R3 k t g2 := by
  unfold lwR_3
  rw [fault_v h.1.1.2.2 (a 1)]
  exact ⟨_, _, _, rfl, h⟩
theorem sk_1 {k t : Nat} {g : mG} (h : R3 k t g) (a : Nat → Int32) : ∃ v w g2, lwR_1 g a = some ((v, w), g2) ∧ ∃ t, R3 k t g2 := by
  obtain ⟨h2, hC, hK⟩ := id h
  obtain ⟨v, w, g2, e, ⟨t', z⟩, _⟩ := sh_1 h2 a
  refine ⟨v, w, g2, e, t', ?_⟩
  have hR := h2.1
  have hk := hR.1.1.2.2.1
  have ef := feed_eq (x1 := a 1) (x2 := a 2) (x3 := a 3) (x4 := a 4) (x5 := a 5) hR.1.2.2.1 hR.1.2.1
  have hc : ∀ g1 : mG, (∀ i, i ≠ 5 → i ≠ 6 → g1 i = g i) → ∀ m : mC, m 21 = g 7 21 → CK (mU g1 7 m 0) (mU g1 7 m 7 21) ∧ ∀ i, i < k → CK (mU g1 7 m (2 + i)) (fun q => mU g1 7 m 7 21 (576 + 288 * i + q)) := fun g1 f1 m hm => by
    constructor
    · rw [mU_same, mU_ne _ _ (show (0 : Nat) ≠ 7 by decide), f1 0 (by decide) (by decide), hm]; exact hC
    · intro i hi
      rw [mU_same, mU_ne _ _ (by omega), f1 _ (by omega) (by omega), hm]; exact hK i hi
  have fo : ∀ i, i ≠ 5 → i ≠ 6 → (P_X5_feed g (a 1) (a 2) (a 3) (a 4) (a 5)).2 i = g i := by
    intro i h5 h6
    have st : ∀ (x s : Int32) (G : mG), (∀ i, i ≠ 5 → i ≠ 6 → G i = g i) → ∀ i, i ≠ 5 → i ≠ 6 → tp1 x s G i = g i := fun x s G hG i h5 h6 => by
      unfold tp1
      rw [mU_ne _ _ h6, mU_ne _ _ h5]; exact hG i h5 h6
    have s4 : ∀ (x : Int32) (G : mG), (∀ i, i ≠ 5 → i ≠ 6 → G i = g i) → ∀ i, i ≠ 5 → i ≠ 6 → P_X5_tapeFour G x i = g i := fun x G hG => st x 0 _ (st x 8 _ (st x 16 _ (st x 24 _ hG)))
    unfold P_X5_feed
    split
    · exact s4 _ _ (s4 _ _ (s4 _ _ (s4 _ _ (s4 _ _ (fun _ _ _ => rfl))))) i h5 h6
    · rfl
  unfold lwR_1 at e
  rw [fo 7 (by decide) (by decide), ef] at e
  by_cases h6 : t ≤ 680
  · rw [if_pos h6] at e
    have eg := congrArg Prod.snd (Option.some.inj e)
    dsimp only at eg
    subst eg
    exact ⟨z, hc _ fo _ (fd5_o _ _ _ _ _ _).1⟩
  · rw [if_neg h6] at e
    have eg := congrArg Prod.snd (Option.some.inj e)
    dsimp only at eg
    subst eg
    exact ⟨z, hc _ fo _ rfl⟩
theorem R3_0 : CK ((mU g0 7 zM2) 0) ((mU g0 7 zM2) 7 21) ∧ ∀ i, i < 0 → CK ((mU g0 7 zM2) (2 + i)) (fun q => (mU g0 7 zM2) 7 21 (576 + 288 * i + q)) := ⟨⟨rfl, Or.inl ⟨rfl, rfl⟩⟩, fun i hi => absurd hi (by omega)⟩
theorem sk_4 {k t : Nat} {g : mG} (h : R3 k t g) (a : Nat → Int32) : ∃ v w g2, lwR_4 g a = some ((v, w), g2) ∧ R3 k t g2 := by
  have hm : Md sN g (P_X5_many g (a 1)).2 := kl_P_X5_many (S := sN) (Md.rf (g := g))
  have ho : ok (fun p : Int32 × mC => H (g 7) p.2) (P_X6_many (g 7) (a 1)) := hk_P_X6_many h.1.1.1.1.hh
  have hA : Md sD g (P_X5_many g (a 1)).2 := kl_P_X5_many (S := sD) (Md.rf (g := g))
  have hc : ∀ p, (P_X6_many (g 7) (a 1)) = some p → CK ((P_X5_many g (a 1)).2 0) (p.2 21) := h.2.1.b hA.k (show ok (fun p : Int32 × mC => HD (g 7) p.2) (P_X6_many (g 7) (a 1)) from hD_P_X6_many (HD.rf h.1.1.1.1.hh))
  obtain ⟨v, w, g2, e, z⟩ := sh_4 h.1 a
  have e' := e
  unfold lwR_4 at e'
  rw [hm.1 7 (by decide) (by decide) (by decide)] at e'
  obtain ⟨p, ep, ev, ew, eg⟩ := lw_inv e'
  subst eg
  exact ⟨v, w, _, e, h.up z hm (ok_po ho ep) (hc p ep)⟩
theorem sk_5 {k t : Nat} {g : mG} (h : R3 k t g) (a : Nat → Int32) : ∃ v w g2, lwR_5 g a = some ((v, w), g2) ∧ R3 k t g2 := by
  have hm : Md sN g (P_X5_ring g (a 1) (a 2)).2 := kl_P_X5_ring (S := sN) (Md.rf (g := g))
  have ho : ok (fun p : Int32 × mC => H (g 7) p.2) (P_X6_ring_ (g 7) (a 1) (a 2)) := hk_P_X6_ring_ h.1.1.1.1.hh
  have hA : Md sD g (P_X5_ring g (a 1) (a 2)).2 := kl_P_X5_ring (S := sD) (Md.rf (g := g))
  have hc : ∀ p, (P_X6_ring_ (g 7) (a 1) (a 2)) = some p → CK ((P_X5_ring g (a 1) (a 2)).2 0) (p.2 21) := h.2.1.b hA.k (show ok (fun p : Int32 × mC => HD (g 7) p.2) (P_X6_ring_ (g 7) (a 1) (a 2)) from hD_P_X6_ring_ (HD.rf h.1.1.1.1.hh))
  obtain ⟨v, w, g2, e, z⟩ := sh_5 h.1 a
  have e' := e
  unfold lwR_5 at e'
  rw [hm.1 7 (by decide) (by decide) (by decide)] at e'
  obtain ⟨p, ep, ev, ew, eg⟩ := lw_inv e'
  subst eg
  exact ⟨v, w, _, e, h.up z hm (ok_po ho ep) (hc p ep)⟩
theorem sk_6 {k t : Nat} {g : mG} (h : R3 k t g) (a : Nat → Int32) : ∃ v w g2, lwR_6 g a = some ((v, w), g2) ∧ R3 k t g2 := by
  have hm : Md sN g (P_X5_phase g (a 1) (a 2)).2 := kl_P_X5_phase (S := sN) (Md.rf (g := g))
  have ho : ok (fun p : Int32 × mC => H (g 7) p.2) (P_X6_phase (g 7) (a 1) (a 2)) := hk_P_X6_phase h.1.1.1.1.hh
  have hA : Md sD g (P_X5_phase g (a 1) (a 2)).2 := kl_P_X5_phase (S := sD) (Md.rf (g := g))
  have hc : ∀ p, (P_X6_phase (g 7) (a 1) (a 2)) = some p → CK ((P_X5_phase g (a 1) (a 2)).2 0) (p.2 21) := h.2.1.b hA.k (show ok (fun p : Int32 × mC => HD (g 7) p.2) (P_X6_phase (g 7) (a 1) (a 2)) from hD_P_X6_phase (HD.rf h.1.1.1.1.hh))
  obtain ⟨v, w, g2, e, z⟩ := sh_6 h.1 a
  have e' := e
  unfold lwR_6 at e'
  rw [hm.1 7 (by decide) (by decide) (by decide)] at e'
  obtain ⟨p, ep, ev, ew, eg⟩ := lw_inv e'
  subst eg
  exact ⟨v, w, _, e, h.up z hm (ok_po ho ep) (hc p ep)⟩
theorem sk_7 {k t : Nat} {g : mG} (h : R3 k t g) (a : Nat → Int32) : ∃ v w g2, lwR_7 g a = some ((v, w), g2) ∧ R3 k t g2 := by
  have hm : Md sN g (P_X5_marked g (a 1) (a 2)).2 := kl_P_X5_marked (S := sN) (Md.rf (g := g))
  have ho : ok (fun p : Int32 × mC => H (g 7) p.2) (P_X6_marked (g 7) (a 1) (a 2)) := hk_P_X6_marked h.1.1.1.1.hh
  have hA : Md sD g (P_X5_marked g (a 1) (a 2)).2 := kl_P_X5_marked (S := sD) (Md.rf (g := g))
  have hc : ∀ p, (P_X6_marked (g 7) (a 1) (a 2)) = some p → CK ((P_X5_marked g (a 1) (a 2)).2 0) (p.2 21) := h.2.1.b hA.k (show ok (fun p : Int32 × mC => HD (g 7) p.2) (P_X6_marked (g 7) (a 1) (a 2)) from hD_P_X6_marked (HD.rf h.1.1.1.1.hh))
  obtain ⟨v, w, g2, e, z, _⟩ := sh_7 h.1 a
  have e' := e
  unfold lwR_7 at e'
  rw [hm.1 7 (by decide) (by decide) (by decide)] at e'
  obtain ⟨p, ep, ev, ew, eg⟩ := lw_inv e'
  subst eg
  exact ⟨v, w, _, e, h.up z hm (ok_po ho ep) (hc p ep)⟩
theorem sk_8 {k t : Nat} {g : mG} (h : R3 k t g) (a : Nat → Int32) : ∃ v w g2, lwR_8 g a = some ((v, w), g2) ∧ R3 k t g2 := by
  have hm : Md sN g (P_X5_brake g (a 1) (a 2)).2 := kl_P_X5_brake (S := sN) (Md.rf (g := g))
  have ho : ok (fun p : Int32 × mC => H (g 7) p.2) (P_X6_brake (g 7) (a 1) (a 2)) := hk_P_X6_brake h.1.1.1.1.hh
  have hA : Md sD g (P_X5_brake g (a 1) (a 2)).2 := kl_P_X5_brake (S := sD) (Md.rf (g := g))
  have hc : ∀ p, (P_X6_brake (g 7) (a 1) (a 2)) = some p → CK ((P_X5_brake g (a 1) (a 2)).2 0) (p.2 21) := h.2.1.b hA.k (show ok (fun p : Int32 × mC => HD (g 7) p.2) (P_X6_brake (g 7) (a 1) (a 2)) from hD_P_X6_brake (HD.rf h.1.1.1.1.hh))
  obtain ⟨v, w, g2, e, z⟩ := sh_8 h.1 a
  have e' := e
  unfold lwR_8 at e'
  rw [hm.1 7 (by decide) (by decide) (by decide)] at e'
  obtain ⟨p, ep, ev, ew, eg⟩ := lw_inv e'
  subst eg
  exact ⟨v, w, _, e, h.up z hm (ok_po ho ep) (hc p ep)⟩
theorem sk_9 {k t : Nat} {g : mG} (h : R3 k t g) (a : Nat → Int32) : ∃ v w g2, lwR_9 g a = some ((v, w), g2) ∧ R3 k t g2 := by
  have hm : Md sN g (P_X5_sum g (a 1)).2 := kl_P_X5_sum (S := sN) (Md.rf (g := g))
  have ho : ok (fun p : Int32 × mC => H (g 7) p.2) (P_X6_sum (g 7) (a 1)) := hk_P_X6_sum h.1.1.1.1.hh
  have hA : Md sD g (P_X5_sum g (a 1)).2 := kl_P_X5_sum (S := sD) (Md.rf (g := g))
  have hc : ∀ p, (P_X6_sum (g 7) (a 1)) = some p → CK ((P_X5_sum g (a 1)).2 0) (p.2 21) := h.2.1.b hA.k (show ok (fun p : Int32 × mC => HD (g 7) p.2) (P_X6_sum (g 7) (a 1)) from hD_P_X6_sum (HD.rf h.1.1.1.1.hh))
  obtain ⟨v, w, g2, e, z⟩ := sh_9 h.1 a
  have e' := e
  unfold lwR_9 at e'
  rw [hm.1 7 (by decide) (by decide) (by decide)] at e'
  obtain ⟨p, ep, ev, ew, eg⟩ := lw_inv e'
  subst eg
  exact ⟨v, w, _, e, h.up z hm (ok_po ho ep) (hc p ep)⟩
theorem sk_10 {k t : Nat} {g : mG} (h : R3 k t g) (a : Nat → Int32) : ∃ v w g2, lwR_10 g a = some ((v, w), g2) ∧ R3 k t g2 := by
  have hm : Md sN g (P_X5_event g (a 1) (a 2)).2 := kl_P_X5_event (S := sN) (Md.rf (g := g))
  have ho : ok (fun p : Int32 × mC => H (g 7) p.2) (P_X6_event (g 7) (a 1) (a 2)) := hk_P_X6_event h.1.1.1.1.hh
  have hA : Md sD g (P_X5_event g (a 1) (a 2)).2 := kl_P_X5_event (S := sD) (Md.rf (g := g))
  have hc : ∀ p, (P_X6_event (g 7) (a 1) (a 2)) = some p → CK ((P_X5_event g (a 1) (a 2)).2 0) (p.2 21) := h.2.1.b hA.k (show ok (fun p : Int32 × mC => HD (g 7) p.2) (P_X6_event (g 7) (a 1) (a 2)) from hD_P_X6_event (HD.rf h.1.1.1.1.hh))
  obtain ⟨v, w, g2, e, z⟩ := sh_10 h.1 a
  have e' := e
  unfold lwR_10 at e'
  rw [hm.1 7 (by decide) (by decide) (by decide)] at e'
  obtain ⟨p, ep, ev, ew, eg⟩ := lw_inv e'
  subst eg
  exact ⟨v, w, _, e, h.up z hm (ok_po ho ep) (hc p ep)⟩
theorem sk_11 {k t : Nat} {g : mG} (h : R3 k t g) (a : Nat → Int32) : ∃ v w g2, lwR_11 g a = some ((v, w), g2) ∧ R3 k t g2 := by
  have hm : Md sN g (P_X5_mark g (a 1) (a 2) (a 3)).2 := kn_P_X5_mark (Md.rf (g := g))
  have ho : ok (fun p : Int32 × mC => H (g 7) p.2) (P_X6_mark_ (g 7) (a 1) (a 2) (a 3)) := hk_P_X6_mark_ h.1.1.1.1.hh
  have hA : Md sD g (P_X5_mark g (a 1) (a 2) (a 3)).2 := kd_P_X5_mark (Md.rf (g := g))
  have hc : ∀ p, (P_X6_mark_ (g 7) (a 1) (a 2) (a 3)) = some p → CK ((P_X5_mark g (a 1) (a 2) (a 3)).2 0) (p.2 21) := h.2.1.b hA.k (show ok (fun p : Int32 × mC => HD (g 7) p.2) (P_X6_mark_ (g 7) (a 1) (a 2) (a 3)) from hD_P_X6_mark_ (HD.rf h.1.1.1.1.hh))
  obtain ⟨v, w, g2, e, z, _⟩ := sh_11 h.1 a
  have e' := e
  unfold lwR_11 at e'
  rw [hm.1 7 (by decide) (by decide) (by decide)] at e'
  obtain ⟨p, ep, ev, ew, eg⟩ := lw_inv e'
  subst eg
  exact ⟨v, w, _, e, h.up z hm (ok_po ho ep) (hc p ep)⟩
theorem sk_12 {k t : Nat} {g : mG} (h : R3 k t g) (a : Nat → Int32) : ∃ v w g2, lwR_12 g a = some ((v, w), g2) ∧ R3 k t g2 := by
  have hm : Md sN g (P_X5_clock g (a 1) (a 2)).2 := kn_P_X5_clock (Md.rf (g := g))
  have ho : ok (fun p : Int32 × mC => H (g 7) p.2) (P_X6_clock (g 7) (a 1) (a 2)) := hk_P_X6_clock h.1.1.1.1.hh
  have hc : ∀ p, (P_X6_clock (g 7) (a 1) (a 2)) = some p → CK ((P_X5_clock g (a 1) (a 2)).2 0) (p.2 21) := fun p ep => clock_c h.1.2.1 h.2.1 _ _ ep
  obtain ⟨v, w, g2, e, z, _⟩ := sh_12 h.1 a
  have e' := e
  unfold lwR_12 at e'
  rw [hm.1 7 (by decide) (by decide) (by decide)] at e'
  obtain ⟨p, ep, ev, ew, eg⟩ := lw_inv e'
  subst eg
  exact ⟨v, w, _, e, h.up z hm (ok_po ho ep) (hc p ep)⟩
theorem sk_13 {k t : Nat} {g : mG} (h : R3 k t g) (a : Nat → Int32) : ∃ v w g2, lwR_13 g a = some ((v, w), g2) ∧ R3 k t g2 := by
  have hm : Md sN g (P_X5_call g (a 1) (if a 2 = 0 then 0 else 1)).2 := kn_P_X5_call (Md.rf (g := g))
  have ho : ok (fun p : Int32 × mC => H (g 7) p.2) (P_X6_call (g 7) (a 1) (if a 2 = 0 then 0 else 1)) := hk_P_X6_call h.1.1.1.1.hh
  have hA : Md sD g (P_X5_call g (a 1) (if a 2 = 0 then 0 else 1)).2 := kd_P_X5_call (Md.rf (g := g))
  have hc : ∀ p, (P_X6_call (g 7) (a 1) (if a 2 = 0 then 0 else 1)) = some p → CK ((P_X5_call g (a 1) (if a 2 = 0 then 0 else 1)).2 0) (p.2 21) := h.2.1.b hA.k (show ok (fun p : Int32 × mC => HD (g 7) p.2) (P_X6_call (g 7) (a 1) (if a 2 = 0 then 0 else 1)) from hD_P_X6_call (HD.rf h.1.1.1.1.hh))
  obtain ⟨v, w, g2, e, z⟩ := sh_13 h.1 a
  have e' := e
  unfold lwR_13 at e'
  rw [hm.1 7 (by decide) (by decide) (by decide)] at e'
  obtain ⟨p, ep, ev, ew, eg⟩ := lw_inv e'
  subst eg
  exact ⟨v, w, _, e, h.up z hm (ok_po ho ep) (hc p ep)⟩
theorem sk_14 {k t : Nat} {g : mG} (h : R3 k t g) (a : Nat → Int32) : ∃ v w g2, lwR_14 g a = some ((v, w), g2) ∧ R3 k t g2 := by
  have hm : Md sN g (P_X5_come g (a 1) (a 2)).2 := kn_P_X5_come (Md.rf (g := g))
  have ho : ok (fun p : Int32 × mC => H (g 7) p.2) (P_X6_come (g 7) (a 1) (a 2)) := hk_P_X6_come h.1.1.1.1.hh
  have hA : Md sD g (P_X5_come g (a 1) (a 2)).2 := kd_P_X5_come (Md.rf (g := g))
  have hc : ∀ p, (P_X6_come (g 7) (a 1) (a 2)) = some p → CK ((P_X5_come g (a 1) (a 2)).2 0) (p.2 21) := h.2.1.b hA.k (show ok (fun p : Int32 × mC => HD (g 7) p.2) (P_X6_come (g 7) (a 1) (a 2)) from hD_P_X6_come (HD.rf h.1.1.1.1.hh))
  obtain ⟨v, w, g2, e, z⟩ := sh_14 h.1 a
  have e' := e
  unfold lwR_14 at e'
  rw [hm.1 7 (by decide) (by decide) (by decide)] at e'
  obtain ⟨p, ep, ev, ew, eg⟩ := lw_inv e'
  subst eg
  exact ⟨v, w, _, e, h.up z hm (ok_po ho ep) (hc p ep)⟩
theorem sk_15 {k t : Nat} {g : mG} (h : R3 k t g) (a : Nat → Int32) : ∃ v w g2, lwR_15 g a = some ((v, w), g2) ∧ R3 k t g2 := by
  have hm : Md sN g (P_X5_ask g (a 1)).2 := kn_P_X5_ask (Md.rf (g := g))
  have ho : ok (fun p : Int32 × mC => H (g 7) p.2) (P_X6_ask (g 7) (a 1)) := hk_P_X6_ask h.1.1.1.1.hh
  have hA : Md sD g (P_X5_ask g (a 1)).2 := kd_P_X5_ask (Md.rf (g := g))
  have hc : ∀ p, (P_X6_ask (g 7) (a 1)) = some p → CK ((P_X5_ask g (a 1)).2 0) (p.2 21) := h.2.1.b hA.k (show ok (fun p : Int32 × mC => HD (g 7) p.2) (P_X6_ask (g 7) (a 1)) from hD_P_X6_ask (HD.rf h.1.1.1.1.hh))
  obtain ⟨v, w, g2, e, z, _⟩ := sh_15 h.1 a
  have e' := e
  unfold lwR_15 at e'
  rw [hm.1 7 (by decide) (by decide) (by decide)] at e'
  obtain ⟨p, ep, ev, ew, eg⟩ := lw_inv e'
  subst eg
  exact ⟨v, w, _, e, h.up z hm (ok_po ho ep) (hc p ep)⟩
theorem sk_16 {k t : Nat} {g : mG} (h : R3 k t g) (a : Nat → Int32) : ∃ v w g2, lwR_16 g a = some ((v, w), g2) ∧ R3 k t g2 := by
  have hm : Md sN g (P_X5_let g (a 1)).2 := kn_P_X5_let (Md.rf (g := g))
  have ho : ok (fun p : Int32 × mC => H (g 7) p.2) (P_X6_let (g 7) (a 1)) := hk_P_X6_let h.1.1.1.1.hh
  have hA : Md sD g (P_X5_let g (a 1)).2 := kd_P_X5_let (Md.rf (g := g))
  have hc : ∀ p, (P_X6_let (g 7) (a 1)) = some p → CK ((P_X5_let g (a 1)).2 0) (p.2 21) := h.2.1.b hA.k (show ok (fun p : Int32 × mC => HD (g 7) p.2) (P_X6_let (g 7) (a 1)) from hD_P_X6_let (HD.rf h.1.1.1.1.hh))
  obtain ⟨v, w, g2, e, z, _⟩ := sh_16 h.1 a
  have e' := e
  unfold lwR_16 at e'
  rw [hm.1 7 (by decide) (by decide) (by decide)] at e'
  obtain ⟨p, ep, ev, ew, eg⟩ := lw_inv e'
  subst eg
  exact ⟨v, w, _, e, h.up z hm (ok_po ho ep) (hc p ep)⟩
theorem sk_17 {k t : Nat} {g : mG} (h : R3 k t g) (a : Nat → Int32) : ∃ v w g2, lwR_17 g a = some ((v, w), g2) ∧ R3 k t g2 := by
  have hm : Md sN g (P_X5_brakes g (a 1) (a 2) (a 3) (a 4) (a 5) (a 6)).2 := kn_P_X5_brakes (Md.rf (g := g))
  have ho : ok (fun p : Int32 × mC => H (g 7) p.2) (P_X6_brakes (g 7) (a 1) (a 2) (a 3) (a 4) (a 5) (a 6)) := hk_P_X6_brakes h.1.1.1.1.hh
  have hA : Md sD g (P_X5_brakes g (a 1) (a 2) (a 3) (a 4) (a 5) (a 6)).2 := kd_P_X5_brakes (Md.rf (g := g))
  have hc : ∀ p, (P_X6_brakes (g 7) (a 1) (a 2) (a 3) (a 4) (a 5) (a 6)) = some p → CK ((P_X5_brakes g (a 1) (a 2) (a 3) (a 4) (a 5) (a 6)).2 0) (p.2 21) := h.2.1.b hA.k (show ok (fun p : Int32 × mC => HD (g 7) p.2) (P_X6_brakes (g 7) (a 1) (a 2) (a 3) (a 4) (a 5) (a 6)) from hD_P_X6_brakes (HD.rf h.1.1.1.1.hh))
  obtain ⟨v, w, g2, e, z⟩ := sh_17 h.1 a
  have e' := e
  unfold lwR_17 at e'
  rw [hm.1 7 (by decide) (by decide) (by decide)] at e'
  obtain ⟨p, ep, ev, ew, eg⟩ := lw_inv e'
  subst eg
  exact ⟨v, w, _, e, h.up z hm (ok_po ho ep) (hc p ep)⟩
theorem sk_18 {k t : Nat} {g : mG} (h : R3 k t g) (a : Nat → Int32) : ∃ v w g2, lwR_18 g a = some ((v, w), g2) ∧ R3 k t g2 := by
  have hm : Md sN g (P_X5_stick g (a 1) (if a 2 = 0 then 0 else 1)).2 := kn_P_X5_stick (Md.rf (g := g))
  have ho : ok (fun p : Int32 × mC => H (g 7) p.2) (P_X6_stick (g 7) (a 1) (if a 2 = 0 then 0 else 1)) := hk_P_X6_stick h.1.1.1.1.hh
  have hA : Md sD g (P_X5_stick g (a 1) (if a 2 = 0 then 0 else 1)).2 := kd_P_X5_stick (Md.rf (g := g))
  have hc : ∀ p, (P_X6_stick (g 7) (a 1) (if a 2 = 0 then 0 else 1)) = some p → CK ((P_X5_stick g (a 1) (if a 2 = 0 then 0 else 1)).2 0) (p.2 21) := h.2.1.b hA.k (show ok (fun p : Int32 × mC => HD (g 7) p.2) (P_X6_stick (g 7) (a 1) (if a 2 = 0 then 0 else 1)) from hD_P_X6_stick (HD.rf h.1.1.1.1.hh))
  obtain ⟨v, w, g2, e, z, _⟩ := sh_18 h.1 a
  have e' := e
  unfold lwR_18 at e'
  rw [hm.1 7 (by decide) (by decide) (by decide)] at e'
  obtain ⟨p, ep, ev, ew, eg⟩ := lw_inv e'
  subst eg
  exact ⟨v, w, _, e, h.up z hm (ok_po ho ep) (hc p ep)⟩
theorem sk_19 {k t : Nat} {g : mG} (h : R3 k t g) (a : Nat → Int32) : ∃ v w g2, lwR_19 g a = some ((v, w), g2) ∧ R3 k t g2 := by
  have hm : Md sN g (P_X5_reset g).2 := kn_P_X5_reset (Md.rf (g := g))
  have ho : ok (fun p : Int32 × mC => H (g 7) p.2) (P_X6_reset (g 7)) := hk_P_X6_reset h.1.1.1.1.hh
  have hA : Md sD g (P_X5_reset g).2 := kd_P_X5_reset (Md.rf (g := g))
  have hc : ∀ p, (P_X6_reset (g 7)) = some p → CK ((P_X5_reset g).2 0) (p.2 21) := h.2.1.b hA.k (show ok (fun p : Int32 × mC => HD (g 7) p.2) (P_X6_reset (g 7)) from hD_P_X6_reset (HD.rf h.1.1.1.1.hh))
  obtain ⟨v, w, g2, e, z⟩ := sh_19 h.1 a
  have e' := e
  unfold lwR_19 at e'
  rw [hm.1 7 (by decide) (by decide) (by decide)] at e'
  obtain ⟨p, ep, ev, ew, eg⟩ := lw_inv e'
  subst eg
  exact ⟨v, w, _, e, h.up z hm (ok_po ho ep) (hc p ep)⟩
theorem sk_20 {k t : Nat} {g : mG} (h : R3 k t g) (a : Nat → Int32) : ∃ v w g2, lwR_20 g a = some ((v, w), g2) ∧ R3 k t g2 := by
  have hm : Md sN g (P_X5_tick g (a 1)).2 := kn_P_X5_tick (Md.rf (g := g))
  have ho : ok (fun p : Int32 × mC => H (g 7) p.2) (P_X6_tick (g 7) (a 1)) := hk_P_X6_tick h.1.1.1.1.hh
  have hc : ∀ p, (P_X6_tick (g 7) (a 1)) = some p → CK ((P_X5_tick g (a 1)).2 0) (p.2 21) := fun p ep => tick_c h.1.1.1.1.1 h.1.2.1 h.2.1 _ ep
  obtain ⟨v, w, g2, e, z, _⟩ := sh_20 h.1 a
  have e' := e
  unfold lwR_20 at e'
  rw [hm.1 7 (by decide) (by decide) (by decide)] at e'
  obtain ⟨p, ep, ev, ew, eg⟩ := lw_inv e'
  subst eg
  exact ⟨v, w, _, e, h.up z hm (ok_po ho ep) (hc p ep)⟩
theorem sk_21 {k t : Nat} {g : mG} (h : R3 k t g) (a : Nat → Int32) : ∃ v w g2, lwR_21 g a = some ((v, w), g2) ∧ R3 k t g2 := by
  have hm : Md sN g (P_X5_run g (a 1) (a 2)).2 := kn_P_X5_run (Md.rf (g := g))
  have ho : ok (fun p : Int32 × mC => H (g 7) p.2) (P_X6_run (g 7) (a 1) (a 2)) := hk_P_X6_run h.1.1.1.1.hh
  have hc : ∀ p, (P_X6_run (g 7) (a 1) (a 2)) = some p → CK ((P_X5_run g (a 1) (a 2)).2 0) (p.2 21) := fun p ep => run_c h.1.1.1.1.1 h.1.2.1 h.2.1 _ _ ep
  obtain ⟨v, w, g2, e, z⟩ := sh_21 h.1 a
  have e' := e
  unfold lwR_21 at e'
  rw [hm.1 7 (by decide) (by decide) (by decide)] at e'
  obtain ⟨p, ep, ev, ew, eg⟩ := lw_inv e'
  subst eg
  exact ⟨v, w, _, e, h.up z hm (ok_po ho ep) (hc p ep)⟩
theorem sk_24 {k t : Nat} {g : mG} (h : R3 k t g) (a : Nat → Int32) : ∃ v w g2, lwR_24 g a = some ((v, w), g2) ∧ R3 k t g2 := by
  have hm : Md sN g (P_X5_foes g (a 1) (a 2)).2 := kl_P_X5_foes (S := sN) (Md.rf (g := g))
  have ho : ok (fun p : Int32 × mC => H (g 7) p.2) (P_X6_foes (g 7) (a 1) (a 2)) := hk_P_X6_foes h.1.1.1.1.hh
  have hA : Md sD g (P_X5_foes g (a 1) (a 2)).2 := kl_P_X5_foes (S := sD) (Md.rf (g := g))
  have hc : ∀ p, (P_X6_foes (g 7) (a 1) (a 2)) = some p → CK ((P_X5_foes g (a 1) (a 2)).2 0) (p.2 21) := h.2.1.b hA.k (show ok (fun p : Int32 × mC => HD (g 7) p.2) (P_X6_foes (g 7) (a 1) (a 2)) from hD_P_X6_foes (HD.rf h.1.1.1.1.hh))
  obtain ⟨v, w, g2, e, z, _⟩ := sh_24 h.1 a
  have e' := e
  unfold lwR_24 at e'
  rw [hm.1 7 (by decide) (by decide) (by decide)] at e'
  obtain ⟨p, ep, ev, ew, eg⟩ := lw_inv e'
  subst eg
  exact ⟨v, w, _, e, h.up z hm (ok_po ho ep) (hc p ep)⟩
theorem sk_25 {k t : Nat} {g : mG} (h : R3 k t g) (a : Nat → Int32) : ∃ v w g2, lwR_25 g a = some ((v, w), g2) ∧ R3 k t g2 := by
  have hm : Md sN g (P_X5_sets g (a 1)).2 := kt_sets (S := sN) (Md.rf (g := g))
  have ho : ok (fun p : Int32 × mC => H (g 7) p.2) (P_X6_sets (g 7) (a 1)) := hk_P_X6_sets h.1.1.1.1.hh
  have hA : Md sD g (P_X5_sets g (a 1)).2 := kt_sets (S := sD) (Md.rf (g := g))
  have hc : ∀ p, (P_X6_sets (g 7) (a 1)) = some p → CK ((P_X5_sets g (a 1)).2 0) (p.2 21) := h.2.1.b hA.k (show ok (fun p : Int32 × mC => HD (g 7) p.2) (P_X6_sets (g 7) (a 1)) from hD_P_X6_sets (HD.rf h.1.1.1.1.hh))
  obtain ⟨v, w, g2, e, z⟩ := sh_25 h.1 a
  have e' := e
  unfold lwR_25 at e'
  rw [hm.1 7 (by decide) (by decide) (by decide)] at e'
  obtain ⟨p, ep, ev, ew, eg⟩ := lw_inv e'
  subst eg
  exact ⟨v, w, _, e, h.up z hm (ok_po ho ep) (hc p ep)⟩
theorem sk_26 {k t : Nat} {g : mG} (h : R3 k t g) (a : Nat → Int32) : ∃ v w g2, lwR_26 g a = some ((v, w), g2) ∧ R3 k t g2 := by
  have hm : Md sN g (P_X5_when g (a 1)).2 := kl_P_X5_when (S := sN) (Md.rf (g := g))
  have ho : ok (fun p : Int32 × mC => H (g 7) p.2) (P_X6_when (g 7) (a 1)) := hk_P_X6_when h.1.1.1.1.hh
  have hA : Md sD g (P_X5_when g (a 1)).2 := kl_P_X5_when (S := sD) (Md.rf (g := g))
  have hc : ∀ p, (P_X6_when (g 7) (a 1)) = some p → CK ((P_X5_when g (a 1)).2 0) (p.2 21) := h.2.1.v hA.k (show ok (RV (g 7 21)) (P_X6_when (g 7) (a 1)) from rv_P_X6_when h.1.1.1.1.1)
  obtain ⟨v, w, g2, e, z⟩ := sh_26 h.1 a
  have e' := e
  unfold lwR_26 at e'
  rw [hm.1 7 (by decide) (by decide) (by decide)] at e'
  obtain ⟨p, ep, ev, ew, eg⟩ := lw_inv e'
  subst eg
  exact ⟨v, w, _, e, h.up z hm (ok_po ho ep) (hc p ep)⟩
theorem sk_27 {k t : Nat} {g : mG} (h : R3 k t g) (a : Nat → Int32) : ∃ v w g2, lwR_27 g a = some ((v, w), g2) ∧ R3 k t g2 := by
  have hm : Md sN g (P_X5_worst g (a 1)).2 := kl_P_X5_worst (S := sN) (Md.rf (g := g))
  have ho : ok (fun p : Int32 × mC => H (g 7) p.2) (P_X6_worst (g 7) (a 1)) := hk_P_X6_worst h.1.1.1.1.hh
  have hA : Md sD g (P_X5_worst g (a 1)).2 := kl_P_X5_worst (S := sD) (Md.rf (g := g))
  have hc : ∀ p, (P_X6_worst (g 7) (a 1)) = some p → CK ((P_X5_worst g (a 1)).2 0) (p.2 21) := h.2.1.v hA.k (show ok (RV (g 7 21)) (P_X6_worst (g 7) (a 1)) from rv_P_X6_worst h.1.1.1.1.1)
  obtain ⟨v, w, g2, e, z⟩ := sh_27 h.1 a
  have e' := e
  unfold lwR_27 at e'
  rw [hm.1 7 (by decide) (by decide) (by decide)] at e'
  obtain ⟨p, ep, ev, ew, eg⟩ := lw_inv e'
  subst eg
  exact ⟨v, w, _, e, h.up z hm (ok_po ho ep) (hc p ep)⟩
theorem sk_28 {k t : Nat} {g : mG} (h : R3 k t g) (a : Nat → Int32) : ∃ v w g2, lwR_28 g a = some ((v, w), g2) ∧ R3 k t g2 := by
  have hm : Md sN g (P_X5_cleared g).2 := kl_P_X5_cleared (S := sN) (Md.rf (g := g))
  have ho : ok (fun p : Int32 × mC => H (g 7) p.2) (P_X6_cleared (g 7)) := hk_P_X6_cleared h.1.1.1.1.hh
  have hA : Md sD g (P_X5_cleared g).2 := kl_P_X5_cleared (S := sD) (Md.rf (g := g))
  have hc : ∀ p, (P_X6_cleared (g 7)) = some p → CK ((P_X5_cleared g).2 0) (p.2 21) := h.2.1.v hA.k (show ok (RV (g 7 21)) (P_X6_cleared (g 7)) from rv_P_X6_cleared h.1.1.1.1.1)
  obtain ⟨v, w, g2, e, z⟩ := sh_28 h.1 a
  have e' := e
  unfold lwR_28 at e'
  rw [hm.1 7 (by decide) (by decide) (by decide)] at e'
  obtain ⟨p, ep, ev, ew, eg⟩ := lw_inv e'
  subst eg
  exact ⟨v, w, _, e, h.up z hm (ok_po ho ep) (hc p ep)⟩
theorem sk_29 {k t : Nat} {g : mG} (h : R3 k t g) (a : Nat → Int32) : ∃ v w g2, lwR_29 g a = some ((v, w), g2) ∧ R3 k t g2 ∧ v = w := by
  have hm : Md sN g (P_X5_instep g).2 := kl_P_X5_instep (S := sN) (Md.rf (g := g))
  have ho : ok (fun p : Int32 × mC => H (g 7) p.2) (P_X6_instep (g 7)) := hk_P_X6_instep h.1.1.1.1.hh
  have hA : Md sD g (P_X5_instep g).2 := kl_P_X5_instep (S := sD) (Md.rf (g := g))
  have hc : ∀ p, (P_X6_instep (g 7)) = some p → CK ((P_X5_instep g).2 0) (p.2 21) := h.2.1.v hA.k (show ok (RV (g 7 21)) (P_X6_instep (g 7)) from rv_P_X6_instep h.1.1.1.1.1)
  obtain ⟨v, w, g2, e, z⟩ := sh_29 h.1 a
  have e' := e
  unfold lwR_29 at e'
  rw [hm.1 7 (by decide) (by decide) (by decide)] at e'
  obtain ⟨p, ep, ev, ew, eg⟩ := lw_inv e'
  subst eg
  exact ⟨v, w, _, e, h.up z hm (ok_po ho ep) (hc p ep), by rw [← ev, ← ew]; exact ins_v h.1.1.1.1.1 h.1.2.1 h.2.1 ep⟩
theorem sk_30 {k t : Nat} {g : mG} (h : R3 k t g) (a : Nat → Int32) : ∃ v w g2, lwR_30 g a = some ((v, w), g2) ∧ R3 k t g2 := by
  have hm : Md sN g (P_X5_broken g (a 1)).2 := kl_P_X5_broken (S := sN) (Md.rf (g := g))
  have ho : ok (fun p : Int32 × mC => H (g 7) p.2) (P_X6_broken (g 7) (a 1)) := hk_P_X6_broken h.1.1.1.1.hh
  have hA : Md sD g (P_X5_broken g (a 1)).2 := kl_P_X5_broken (S := sD) (Md.rf (g := g))
  have hc : ∀ p, (P_X6_broken (g 7) (a 1)) = some p → CK ((P_X5_broken g (a 1)).2 0) (p.2 21) := h.2.1.v hA.k (show ok (RV (g 7 21)) (P_X6_broken (g 7) (a 1)) from rv_P_X6_broken h.1.1.1.1.1)
  obtain ⟨v, w, g2, e, z⟩ := sh_30 h.1 a
  have e' := e
  unfold lwR_30 at e'
  rw [hm.1 7 (by decide) (by decide) (by decide)] at e'
  obtain ⟨p, ep, ev, ew, eg⟩ := lw_inv e'
  subst eg
  exact ⟨v, w, _, e, h.up z hm (ok_po ho ep) (hc p ep)⟩
theorem sk_31 {k t : Nat} {g : mG} (h : R3 k t g) (a : Nat → Int32) : ∃ v w g2, lwR_31 g a = some ((v, w), g2) ∧ R3 k t g2 := by
  have hm : Md sN g (P_X5_paper g (a 1) (a 2)).2 := kl_P_X5_paper (S := sN) (Md.rf (g := g))
  have ho : ok (fun p : Int32 × mC => H (g 7) p.2) (P_X6_paper (g 7) (a 1) (a 2)) := hk_P_X6_paper h.1.1.1.1.hh
  have hA : Md sD g (P_X5_paper g (a 1) (a 2)).2 := kl_P_X5_paper (S := sD) (Md.rf (g := g))
  have hc : ∀ p, (P_X6_paper (g 7) (a 1) (a 2)) = some p → CK ((P_X5_paper g (a 1) (a 2)).2 0) (p.2 21) := h.2.1.v hA.k (show ok (RV (g 7 21)) (P_X6_paper (g 7) (a 1) (a 2)) from rv_P_X6_paper h.1.1.1.1.1)
  obtain ⟨v, w, g2, e, z⟩ := sh_31 h.1 a
  have e' := e
  unfold lwR_31 at e'
  rw [hm.1 7 (by decide) (by decide) (by decide)] at e'
  obtain ⟨p, ep, ev, ew, eg⟩ := lw_inv e'
  subst eg
  exact ⟨v, w, _, e, h.up z hm (ok_po ho ep) (hc p ep)⟩
theorem sk_32 {k t : Nat} {g : mG} (h : R3 k t g) (a : Nat → Int32) : ∃ v w g2, lwR_32 g a = some ((v, w), g2) ∧ R3 k t g2 := by
  have hm : Md sN g (P_X5_bestMax g (a 1) (a 2)).2 := kl_P_X5_bestMax (S := sN) (Md.rf (g := g))
  have ho : ok (fun p : Int32 × mC => H (g 7) p.2) (P_X6_bestMax (g 7) (a 1) (a 2)) := hk_P_X6_bestMax h.1.1.1.1.hh
  have hA : Md sD g (P_X5_bestMax g (a 1) (a 2)).2 := kl_P_X5_bestMax (S := sD) (Md.rf (g := g))
  have hc : ∀ p, (P_X6_bestMax (g 7) (a 1) (a 2)) = some p → CK ((P_X5_bestMax g (a 1) (a 2)).2 0) (p.2 21) := h.2.1.v hA.k (show ok (RV (g 7 21)) (P_X6_bestMax (g 7) (a 1) (a 2)) from rv_P_X6_bestMax h.1.1.1.1.1)
  obtain ⟨v, w, g2, e, z⟩ := sh_32 h.1 a
  have e' := e
  unfold lwR_32 at e'
  rw [hm.1 7 (by decide) (by decide) (by decide)] at e'
  obtain ⟨p, ep, ev, ew, eg⟩ := lw_inv e'
  subst eg
  exact ⟨v, w, _, e, h.up z hm (ok_po ho ep) (hc p ep)⟩
theorem sk_33 {k t : Nat} {g : mG} (h : R3 k t g) (a : Nat → Int32) : ∃ v w g2, lwR_33 g a = some ((v, w), g2) ∧ R3 k t g2 := by
  have hm : Md sN g (P_X5_cheapest g (a 1)).2 := kl_P_X5_cheapest (S := sN) (Md.rf (g := g))
  have ho : ok (fun p : Int32 × mC => H (g 7) p.2) (P_X6_cheapest (g 7) (a 1)) := hk_P_X6_cheapest h.1.1.1.1.hh
  have hA : Md sD g (P_X5_cheapest g (a 1)).2 := kl_P_X5_cheapest (S := sD) (Md.rf (g := g))
  have hc : ∀ p, (P_X6_cheapest (g 7) (a 1)) = some p → CK ((P_X5_cheapest g (a 1)).2 0) (p.2 21) := h.2.1.v hA.k (show ok (RV (g 7 21)) (P_X6_cheapest (g 7) (a 1)) from rv_P_X6_cheapest h.1.1.1.1.1)
  obtain ⟨v, w, g2, e, z⟩ := sh_33 h.1 a
  have e' := e
  unfold lwR_33 at e'
  rw [hm.1 7 (by decide) (by decide) (by decide)] at e'
  obtain ⟨p, ep, ev, ew, eg⟩ := lw_inv e'
  subst eg
  exact ⟨v, w, _, e, h.up z hm (ok_po ho ep) (hc p ep)⟩
def RR (g : mG) : Prop := ∃ k t, R3 k t g
theorem step_all {g : mG} (h : RR g) (x : Int32) (a : Nat → Int32) : ∃ v w g2, lwS x g a = some ((v, w), g2) ∧ RR g2 ∧ (x = 29 → v = w) := by
  obtain ⟨k, t, h⟩ := h
  unfold lwS
  by_cases h0 : x = 0
  · rw [if_pos h0]
    obtain ⟨v, w, g2, e, z⟩ := sk_0 h a
    exact ⟨v, w, g2, e, ⟨k, t, z⟩, fun q => absurd q (by subst h0; decide)⟩
  rw [if_neg h0]
  by_cases h1 : x = 1
  · rw [if_pos h1]
    obtain ⟨v, w, g2, e, u, z⟩ := sk_1 h a
    exact ⟨v, w, g2, e, ⟨k, u, z⟩, fun q => absurd q (by subst h1; decide)⟩
  rw [if_neg h1]
  by_cases h2 : x = 2
  · rw [if_pos h2]
    obtain ⟨v, w, g2, e, u, z⟩ := sk_2 h a
    exact ⟨v, w, g2, e, ⟨k, u, z⟩, fun q => absurd q (by subst h2; decide)⟩
  rw [if_neg h2]
  by_cases h3 : x = 3
  · rw [if_pos h3]
    obtain ⟨v, w, g2, e, z⟩ := sk_3 h a
    exact ⟨v, w, g2, e, ⟨k, t, z⟩, fun q => absurd q (by subst h3; decide)⟩
  rw [if_neg h3]
  by_cases h4 : x = 4
  · rw [if_pos h4]
    obtain ⟨v, w, g2, e, z⟩ := sk_4 h a
    exact ⟨v, w, g2, e, ⟨k, t, z⟩, fun q => absurd q (by subst h4; decide)⟩
  rw [if_neg h4]
  by_cases h5 : x = 5
  · rw [if_pos h5]
    obtain ⟨v, w, g2, e, z⟩ := sk_5 h a
    exact ⟨v, w, g2, e, ⟨k, t, z⟩, fun q => absurd q (by subst h5; decide)⟩
  rw [if_neg h5]
  by_cases h6 : x = 6
  · rw [if_pos h6]
    obtain ⟨v, w, g2, e, z⟩ := sk_6 h a
    exact ⟨v, w, g2, e, ⟨k, t, z⟩, fun q => absurd q (by subst h6; decide)⟩
  rw [if_neg h6]
  by_cases h7 : x = 7
  · rw [if_pos h7]
    obtain ⟨v, w, g2, e, z⟩ := sk_7 h a
    exact ⟨v, w, g2, e, ⟨k, t, z⟩, fun q => absurd q (by subst h7; decide)⟩
  rw [if_neg h7]
  by_cases h8 : x = 8
  · rw [if_pos h8]
    obtain ⟨v, w, g2, e, z⟩ := sk_8 h a
    exact ⟨v, w, g2, e, ⟨k, t, z⟩, fun q => absurd q (by subst h8; decide)⟩
  rw [if_neg h8]
  by_cases h9 : x = 9
  · rw [if_pos h9]
    obtain ⟨v, w, g2, e, z⟩ := sk_9 h a
    exact ⟨v, w, g2, e, ⟨k, t, z⟩, fun q => absurd q (by subst h9; decide)⟩
  rw [if_neg h9]
  by_cases h10 : x = 10
  · rw [if_pos h10]
    obtain ⟨v, w, g2, e, z⟩ := sk_10 h a
    exact ⟨v, w, g2, e, ⟨k, t, z⟩, fun q => absurd q (by subst h10; decide)⟩
  rw [if_neg h10]
  by_cases h11 : x = 11
  · rw [if_pos h11]
    obtain ⟨v, w, g2, e, z⟩ := sk_11 h a
    exact ⟨v, w, g2, e, ⟨k, t, z⟩, fun q => absurd q (by subst h11; decide)⟩
  rw [if_neg h11]
  by_cases h12 : x = 12
  · rw [if_pos h12]
    obtain ⟨v, w, g2, e, z⟩ := sk_12 h a
    exact ⟨v, w, g2, e, ⟨k, t, z⟩, fun q => absurd q (by subst h12; decide)⟩
  rw [if_neg h12]
  by_cases h13 : x = 13
  · rw [if_pos h13]
    obtain ⟨v, w, g2, e, z⟩ := sk_13 h a
    exact ⟨v, w, g2, e, ⟨k, t, z⟩, fun q => absurd q (by subst h13; decide)⟩
  rw [if_neg h13]
  by_cases h14 : x = 14
  · rw [if_pos h14]
    obtain ⟨v, w, g2, e, z⟩ := sk_14 h a
    exact ⟨v, w, g2, e, ⟨k, t, z⟩, fun q => absurd q (by subst h14; decide)⟩
  rw [if_neg h14]
  by_cases h15 : x = 15
  · rw [if_pos h15]
    obtain ⟨v, w, g2, e, z⟩ := sk_15 h a
    exact ⟨v, w, g2, e, ⟨k, t, z⟩, fun q => absurd q (by subst h15; decide)⟩
  rw [if_neg h15]
  by_cases h16 : x = 16
  · rw [if_pos h16]
    obtain ⟨v, w, g2, e, z⟩ := sk_16 h a
    exact ⟨v, w, g2, e, ⟨k, t, z⟩, fun q => absurd q (by subst h16; decide)⟩
  rw [if_neg h16]
  by_cases h17 : x = 17
  · rw [if_pos h17]
    obtain ⟨v, w, g2, e, z⟩ := sk_17 h a
    exact ⟨v, w, g2, e, ⟨k, t, z⟩, fun q => absurd q (by subst h17; decide)⟩
  rw [if_neg h17]
  by_cases h18 : x = 18
  · rw [if_pos h18]
    obtain ⟨v, w, g2, e, z⟩ := sk_18 h a
    exact ⟨v, w, g2, e, ⟨k, t, z⟩, fun q => absurd q (by subst h18; decide)⟩
  rw [if_neg h18]
  by_cases h19 : x = 19
  · rw [if_pos h19]
    obtain ⟨v, w, g2, e, z⟩ := sk_19 h a
    exact ⟨v, w, g2, e, ⟨k, t, z⟩, fun q => absurd q (by subst h19; decide)⟩
  rw [if_neg h19]
  by_cases h20 : x = 20
  · rw [if_pos h20]
    obtain ⟨v, w, g2, e, z⟩ := sk_20 h a
    exact ⟨v, w, g2, e, ⟨k, t, z⟩, fun q => absurd q (by subst h20; decide)⟩
  rw [if_neg h20]
  by_cases h21 : x = 21
  · rw [if_pos h21]
    obtain ⟨v, w, g2, e, z⟩ := sk_21 h a
    exact ⟨v, w, g2, e, ⟨k, t, z⟩, fun q => absurd q (by subst h21; decide)⟩
  rw [if_neg h21]
  by_cases h22 : x = 22
  · rw [if_pos h22]
    obtain ⟨v, w, g2, e, u, z⟩ := sk_22 h a
    exact ⟨v, w, g2, e, ⟨u, t, z⟩, fun q => absurd q (by subst h22; decide)⟩
  rw [if_neg h22]
  by_cases h23 : x = 23
  · rw [if_pos h23]
    obtain ⟨v, w, g2, e, u, z⟩ := sk_23 h a
    exact ⟨v, w, g2, e, ⟨u, t, z⟩, fun q => absurd q (by subst h23; decide)⟩
  rw [if_neg h23]
  by_cases h24 : x = 24
  · rw [if_pos h24]
    obtain ⟨v, w, g2, e, z⟩ := sk_24 h a
    exact ⟨v, w, g2, e, ⟨k, t, z⟩, fun q => absurd q (by subst h24; decide)⟩
  rw [if_neg h24]
  by_cases h25 : x = 25
  · rw [if_pos h25]
    obtain ⟨v, w, g2, e, z⟩ := sk_25 h a
    exact ⟨v, w, g2, e, ⟨k, t, z⟩, fun q => absurd q (by subst h25; decide)⟩
  rw [if_neg h25]
  by_cases h26 : x = 26
  · rw [if_pos h26]
    obtain ⟨v, w, g2, e, z⟩ := sk_26 h a
    exact ⟨v, w, g2, e, ⟨k, t, z⟩, fun q => absurd q (by subst h26; decide)⟩
  rw [if_neg h26]
  by_cases h27 : x = 27
  · rw [if_pos h27]
    obtain ⟨v, w, g2, e, z⟩ := sk_27 h a
    exact ⟨v, w, g2, e, ⟨k, t, z⟩, fun q => absurd q (by subst h27; decide)⟩
  rw [if_neg h27]
  by_cases h28 : x = 28
  · rw [if_pos h28]
    obtain ⟨v, w, g2, e, z⟩ := sk_28 h a
    exact ⟨v, w, g2, e, ⟨k, t, z⟩, fun q => absurd q (by subst h28; decide)⟩
  rw [if_neg h28]
  by_cases h29 : x = 29
  · rw [if_pos h29]
    obtain ⟨v, w, g2, e, z, q⟩ := sk_29 h a
    exact ⟨v, w, g2, e, ⟨k, t, z⟩, fun _ => q⟩
  rw [if_neg h29]
  by_cases h30 : x = 30
  · rw [if_pos h30]
    obtain ⟨v, w, g2, e, z⟩ := sk_30 h a
    exact ⟨v, w, g2, e, ⟨k, t, z⟩, fun q => absurd q (by subst h30; decide)⟩
  rw [if_neg h30]
  by_cases h31 : x = 31
  · rw [if_pos h31]
    obtain ⟨v, w, g2, e, z⟩ := sk_31 h a
    exact ⟨v, w, g2, e, ⟨k, t, z⟩, fun q => absurd q (by subst h31; decide)⟩
  rw [if_neg h31]
  by_cases h32 : x = 32
  · rw [if_pos h32]
    obtain ⟨v, w, g2, e, z⟩ := sk_32 h a
    exact ⟨v, w, g2, e, ⟨k, t, z⟩, fun q => absurd q (by subst h32; decide)⟩
  rw [if_neg h32]
  by_cases h33 : x = 33
  · rw [if_pos h33]
    obtain ⟨v, w, g2, e, z⟩ := sk_33 h a
    exact ⟨v, w, g2, e, ⟨k, t, z⟩, fun q => absurd q (by subst h33; decide)⟩
  rw [if_neg h33]
  exact ⟨0, 0, g, rfl, ⟨k, t, h⟩, fun _ => rfl⟩
