/-! The law comes to its end -/
theorem as_small : ∀ p, p ≤ 8 → ((((1 : Int32) <<< (nI p &&& 31)) - 1 : Int32)).toInt < 2147483647 := by
  have h : ∀ p, p < 9 → ((((1 : Int32) <<< (nI p &&& 31)) - 1 : Int32)).toInt < 2147483647 := by decide +kernel
  exact fun p hp => h p (by omega)
theorem RR.s {g : mG} (h : RR g) : (P_X2_allSet (g 0)).toInt < 2147483647 := by
  obtain ⟨k, t, h⟩ := h
  obtain ⟨p, hp, e⟩ := h.1.1.1.2.2.2.2.2.1
  unfold P_X2_allSet
  rw [e]
  exact as_small p hp
theorem z_Sr {f : Nat → Int32} (h : r08 (f 0) ∧ (rQ (f 16) ∧ rQ (f 19) ∧ rQ (f 24) ∧ rQ (f 27)) ∧ (∀ p, p < 8 → f (32 + 18 * p) = 0) ∧ rL (f 12) ∧ rB (f 7)) : Sr f := ⟨h.1, h.2.1, fun p hp => by rw [h.2.2.1 p hp]; exact r01_0, h.2.2.2⟩
theorem z_ph : ∀ p, p < 8 → zM2 21 (32 + 18 * p) = 0 ∧ zM2 21 (288 + (32 + 18 * p)) = 0 := by decide +kernel
theorem RR_0 : RR (mU g0 7 zM2) := by
  refine ⟨0, 0, ⟨⟨⟨?_, by decide, rfl, rfl, rfl, ⟨0, by decide, rfl⟩, fun i hi => absurd hi (by omega)⟩, R1_0⟩, R2_0⟩, R3_0⟩
  rw [mU_same]
  refine ⟨z_Sr ⟨⟨0, by decide, rfl⟩, ⟨Or.inl rfl, Or.inl rfl, Or.inl rfl, Or.inl rfl⟩, fun p hp => (z_ph p hp).1, ⟨0, by decide, rfl⟩, Or.inl rfl⟩, z_Sr ⟨⟨0, by decide, rfl⟩, ⟨rQ_0, rQ_0, rQ_0, rQ_0⟩, fun p hp => (z_ph p hp).2, ⟨0, by decide, rfl⟩, Or.inr (Or.inl rfl)⟩, by decide, rfl, fun i hi => absurd hi (by omega)⟩
theorem lwC_k : ∀ k : Nat, lwC.getD k false = true → k = 29 := by
  intro k h
  by_cases hk : k < 34
  · have key : ∀ k, k < 34 → lwC.getD k false = true → k = 29 := by decide +kernel
    exact key k hk h
  · exfalso
    rw [List.getD_eq_getElem?_getD, List.getElem?_eq_none (show lwC.length ≤ k by show 34 ≤ k; omega)] at h
    cases h
theorem z_law {L : Nat} {xs : Nat → Int32} (hL : L ≤ 3584) : ∃ g', mEv (xs, L) (mCall mD (xs, L) 12) 2 t_L_law (mDrop t_L_law 16) [some (mr 8 26), some (mr 6 18), some (mr 7 20), none] [] (mU g0 7 zM2) = some (some (mi 1), g') := by
  refine l_ev (X := (xs, L)) (Inv := fun _ g => RR g) hL ?_ RR_0
  intro i g hi h
  obtain ⟨v, w, g2, e1, e2, e3⟩ := step_all h (xs i &&& 63) (fun k => xs (i + k))
  refine ⟨v, w, g2, e1, fun k hk hc => ?_, fun _ => h.s, e2⟩
  · have hk : xs i &&& 63 = nI k := hk
    have e := lwC_k k hc
    subst e
    first | exact e3 (hk.trans rfl) | exact e3 hk | exact e3 (by rw [hk]; rfl)
