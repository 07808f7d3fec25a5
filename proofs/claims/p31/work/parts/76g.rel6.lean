/-! The crossings alike: load, keep, back -/
theorem tf2_a (d s : mC) : ∀ p, p < 8 → (P_X2_takeFrom d s) 2 p = s 2 p ∧ (P_X2_takeFrom d s) 3 p = s 3 p ∧ (P_X2_takeFrom d s) 4 p = s 4 p := by
  intro p hp
  refine ⟨?_, ?_, ?_⟩
  · show (if p < 8 then s 2 p else d 2 p) = s 2 p
    rw [if_pos hp]
  · show (if p < 8 then s 3 p else d 3 p) = s 3 p
    rw [if_pos hp]
  · show (if p < 8 then s 4 p else d 4 p) = s 4 p
    rw [if_pos hp]
theorem tf2_m (d s : mC) : ∀ q, q < 80 → (P_X2_takeFrom d s) 5 q = s 5 q := by
  intro q hq
  show (if q < 80 then s 5 q else d 5 q) = s 5 q
  rw [if_pos hq]
theorem tf2_y (d s : mC) : (P_X2_takeFrom d s) 1 1 = s 1 1 ∧ (P_X2_takeFrom d s) 1 2 = s 1 2 := ⟨rfl, rfl⟩
/-- the plan's rows of 0 to 7 are those of another -/
theorem PQ.tf {N : Nat} {c c' : mC} {f : Nat → Int32} (h : PQ N c f) (a : ∀ p, p < 8 → c' 2 p = c 2 p ∧ c' 3 p = c 3 p ∧ c' 4 p = c 4 p) (b : ∀ q, q < 80 → c' 5 q = c 5 q) (y : c' 1 1 = c 1 1) (o : c' 1 2 = c 1 2) : PQ N c' f := by
  obtain ⟨h1, h2, h3, h4, h5⟩ := h
  refine ⟨h1, fun p hp => ⟨(a p (by omega)).1.trans (h2 p hp).1, (a p (by omega)).2.1.trans (h2 p hp).2.1, fun k hk => (b _ (by omega)).trans ((h2 p hp).2.2 k hk)⟩, fun p hp => ?_, y.trans h4, o.trans h5⟩
  rw [(a p (by omega)).2.2, h3 p hp]
  exact FO_c ⟨(a p (by omega)).1.symm, (a p (by omega)).2.1.symm⟩ (fun q hq => ⟨(a q (by omega)).1.symm, (a q (by omega)).2.1.symm⟩) N (Nat.le_refl _)
theorem CR.tf {c d : mC} {f : Nat → Int32} (h : CR c f) : CR (P_X0_takeFrom d c) f := by
  obtain ⟨N, h1, ⟨h2, h3⟩, ⟨s, h4, h5, h6⟩, ⟨w, h7, h8, h9⟩, h10⟩ := h
  refine ⟨N, h1.tf (fun p hp => tf2_a d c p hp) (fun q hq => tf2_m d c q hq) rfl rfl, ⟨(tf0_n d c).trans h2, h3⟩, ⟨s, h4, ?_, h6⟩, ⟨w, h7, ?_, h9⟩, ?_⟩
  · exact h5
  · exact h8
  · exact h10
/-- a new crossing of the plan that was read -/
theorem anew_o (c : mC) : (∀ j k, 2 ≤ j → j ≤ 5 → P_X0_beginAnew c j k = c j k) ∧ (∀ k, k ≤ 2 → P_X0_beginAnew c 1 k = c 1 k) ∧ P_X0_beginAnew c 0 10 = 0 ∧ P_X0_beginAnew c 0 11 = 0 ∧ P_X0_beginAnew c 0 12 = 0 := by
  have e : ∃ c4, P_X0_beginAnew c = P_X0_startRings c4 ∧ (∀ j k, 2 ≤ j → j ≤ 5 → c4 j k = c j k) ∧ (∀ k, c4 1 k = c 1 k) ∧ c4 0 10 = 0 ∧ c4 0 11 = 0 ∧ c4 0 12 = 0 := by
    refine ⟨_, rfl, fun j k a b => ?_, fun k => rfl, rfl, rfl, rfl⟩
    have : j = 2 ∨ j = 3 ∨ j = 4 ∨ j = 5 := by omega
    rcases this with rfl | rfl | rfl | rfl <;> rfl
  obtain ⟨c4, e1, e2, e3, e4, e5, e6⟩ := e
  have k : Kp sA c4 (P_X0_startRings c4) := ka_P_X0_startRings (c0 := c4) Kp.rf
  rw [e1]
  refine ⟨fun j q a b => ?_, fun q hq => ?_, (k 0 10 rfl).trans e4, (k 0 11 rfl).trans e5, (k 0 12 rfl).trans e6⟩
  · have : j = 2 ∨ j = 3 ∨ j = 4 ∨ j = 5 := by omega
    refine Eq.trans ?_ (e2 j q a b)
    rcases this with rfl | rfl | rfl | rfl
    · exact k 2 q rfl
    · exact k 3 q rfl
    · exact k 4 q rfl
    · exact k 5 q rfl
  · refine Eq.trans ?_ (e3 q)
    have : q = 0 ∨ q = 1 ∨ q = 2 := by omega
    rcases this with rfl | rfl | rfl
    · exact k 1 0 rfl
    · exact k 1 1 rfl
    · exact k 1 2 rfl
theorem CR.new {s d : mC} {f f' : Nat → Int32} (z : PZ s f) (kf : ∀ q, sB q = true → f' q = f q) (f1 : f 1 = 0) (f6 : f 6 = 0) (f10 : f 10 = 0) : CR (P_X0_beginAnew (P_X2_takeFrom d s)) f' := by
  obtain ⟨N, ⟨h1, h2, h3, _, h4, h5, _⟩, g2, g3, _⟩ := z
  obtain ⟨a1, a2, a3, a4, a5⟩ := anew_o (P_X2_takeFrom d s)
  have q0 : PQ N s f := ⟨h1, h2, h3, h4, h5⟩
  have q1 : PQ N (P_X0_beginAnew (P_X2_takeFrom d s)) f := q0.tf (fun p hp => ⟨(a1 2 p (by decide) (by decide)).trans (tf2_a d s p hp).1, (a1 3 p (by decide) (by decide)).trans (tf2_a d s p hp).2.1, (a1 4 p (by decide) (by decide)).trans (tf2_a d s p hp).2.2⟩) (fun q hq => (a1 5 q (by decide) (by decide)).trans (tf2_m d s q hq)) ((a2 1 (by decide)).trans (tf2_y d s).1) ((a2 2 (by decide)).trans (tf2_y d s).2)
  refine ⟨N, q1.k (fun _ => rfl) (fun _ => rfl) (fun _ => rfl) (fun _ => rfl) rfl rfl (fun q hq _ => kf q hq), ⟨((a2 0 (by decide)).trans (tf2_n d s)).trans g2, ?_⟩, ⟨0, by decide, a3, ?_⟩, ⟨0, by decide, a4, ?_⟩, ?_⟩
  · rw [kf 0 rfl]; exact g3
  · rw [kf 6 rfl, f6]; rfl
  · rw [kf 10 rfl, f10]; rfl
  · rw [kf 1 rfl, f1]; exact a5
theorem sh_2 {k t : Nat} {g : mG} (h : R2 k t g) (a : Nat → Int32) : ∃ v w g2, lwR_2 g a = some ((v, w), g2) ∧ (∃ t, R2 k t g2) ∧ v = w := by
  obtain ⟨hR, hC, hK⟩ := id h
  obtain ⟨h0, hb, hf⟩ := id hR
  have hk := h0.1.2.2.1
  obtain ⟨v, w, g2, e, ⟨t', z⟩, q⟩ := sf_2 hR a
  refine ⟨v, w, g2, e, ⟨t', z, ?_⟩, q⟩
  by_cases hx : P_X6_isFrom (a 1) 0 (nI t) = 0
  · unfold lwR_2 at e
    rcases cl_load h0.2.2.2.1 h0.2.2.2.2.2.1 (x := a 1) with ⟨_, e'⟩ | ⟨q', _⟩
    · have hm : Md sA g (J_X5_load_12 g).2 := kl_J_X5_load_12 (S := sA) (Md.rf (g := g))
      have hm' : Md sN g (J_X5_load_12 g).2 := kl_J_X5_load_12 (S := sN) (Md.rf (g := g))
      have er : P_X6_load (g 7) (a 1) = some (-1, mP (g 7) 20 1 1) := by
        unfold P_X6_load
        rw [h0.2.2.1, mBd_eq, if_pos hx]
        rfl
      rw [e', hm.1 7 (by decide) (by decide) (by decide), er] at e
      have eg := congrArg Prod.snd (Option.some.inj e)
      dsimp only at eg
      rw [← eg]
      exact (h.up hm' (h0.1.hh.m (Or.inl rfl)) (hC.k hm.k (fun _ _ => rfl))).2
    · exact absurd hx q'
  · obtain ⟨p, r', r2, ep, hl, ej, ⟨hL, hL2, hL3⟩, hT, hN⟩ := load_both h0 hb hx
    obtain ⟨c5, c6, cc⟩ := cl_load2 h0.2.2.2.1 hx
    rcases cl_load h0.2.2.2.1 h0.2.2.2.2.2.1 (x := a 1) with ⟨q', _⟩ | ⟨_, l1, l2, l3, l4⟩
    · exact absurd q' hx
    unfold lwR_2 at e
    rw [l1 7 (by decide) (by decide) (by decide), ep] at e
    have eg : mU (P_X5_load g (a 1)).2 7 p.2 = g2 := congrArg Prod.snd (Option.some.inj e)
    rw [← eg]
    constructor
    · rw [mU_same, mU_ne _ _ (show (0 : Nat) ≠ 7 by decide)]
      rcases hT with ⟨t1, t2, t3⟩ | hF
      · obtain ⟨p', e', j1, j2, j3, j4, j5⟩ := j120_good hL t2
        have pe : p' = p := Option.some.inj (e'.symm.trans ej)
        subst pe
        rcases cc with ⟨_, _, d3⟩ | ⟨d1, _⟩
        · rw [d3]
          obtain ⟨_, _, lk, _⟩ := hL
          refine CR.new t3 (fun q hq => j2 q (sB_kp q hq)) ?_ ?_ ?_
          · rw [lk 1 (by omega)]; exact hL3.1
          · rw [lk 6 (by omega)]; exact hL3.2.2.1
          · rw [lk 10 (by omega)]; exact hL3.2.2.2
        · exact absurd t1 d1
      · obtain ⟨p', e', j1, j2, j3, j4, j5⟩ := j120_bad hF.2.2.2.2
        have pe : p' = p := Option.some.inj (e'.symm.trans ej)
        subst pe
        rcases cc with ⟨d1, _⟩ | ⟨_, _, d3⟩
        · exact absurd d1 hF.1
        · rw [d3]
          obtain ⟨_, _, lk, _⟩ := hL
          refine hC.k Kp.rf (fun q hq => ?_)
          have := sB_lt q hq
          rw [j2 q this, lk _ (by omega), hL2 q this]
    · intro i hi
      have e7 : ∀ q, p.2 21 (576 + 288 * i + q) = g 7 21 (576 + 288 * i + q) := fun q => hl.2.2.1 _ (by omega)
      rw [mU_same, mU_ne _ _ (by omega), l1 _ (by omega) (by omega) (by omega), show (fun q => p.2 21 (576 + 288 * i + q)) = (fun q => g 7 21 (576 + 288 * i + q)) from funext e7]
      exact hK i hi
theorem sh_22 {k t : Nat} {g : mG} (h : R2 k t g) (a : Nat → Int32) : ∃ v w g2, lwR_22 g a = some ((v, w), g2) ∧ (∃ k, R2 k t g2) ∧ v = w := by
  obtain ⟨hR, hC, hK⟩ := id h
  obtain ⟨h0, hb, hf⟩ := id hR
  obtain ⟨v, w, g2, e, _, q⟩ := sf_22 hR a
  have hk := h0.1.2.2.1
  have e6 := h0.2.2.2.2.1
  by_cases h3 : k = 3
  · subst h3
    refine ⟨v, w, g2, e, ⟨3, ?_⟩, q⟩
    unfold lwR_22 P_X5_keep at e
    have hm : Md sA g (P_X5_refuse g 3).2 := kl_P_X5_refuse (S := sA) (Md.rf (g := g))
    have hm' : Md sN g (P_X5_refuse g 3).2 := kl_P_X5_refuse (S := sN) (Md.rf (g := g))
    rw [e6, if_neg (show ¬ nI 3 < 3 by decide), hm.1 7 (by decide) (by decide) (by decide), keep_3 h0.1.2.2.2.1] at e
    have eg : mU (P_X5_refuse g 3).2 7 (mP (g 7) 20 1 3) = g2 := congrArg Prod.snd (Option.some.inj e)
    rw [← eg]
    exact h.up hm' (h0.1.hh.m (Or.inl rfl)) (hC.k hm.k (fun _ _ => rfl))
  · have hl : k < 3 := by omega
    obtain ⟨v', w', g2', e', ⟨k', z⟩, _⟩ := sf_22 hR a
    have eq2 : g2' = g2 := congrArg Prod.snd (Option.some.inj (e'.symm.trans e))
    subst eq2
    refine ⟨v, w, g2', e, ⟨k', z, ?_⟩, q⟩
    have hc : g 6 18 6 < 3 := by
      rw [e6]
      exact Int32.not_le.mp (fun z => absurd ((nI_leI (a := 3) (by decide) (by omega)).mp z) (by omega))
    unfold lwR_22 P_X5_keep at e
    rw [if_pos hc] at e
    have a6 : kp1 g 6 = g 6 := by
      unfold kp1
      rw [e6, kat hl, mU_ne _ _ (by omega)]
    have ev : kp2 g 6 18 6 = nI (k + 1) := by
      unfold kp2
      rw [mU_same, mP_s, a6, e6]; exact nI_1 k
    have bo : ∀ i, i ≠ 6 → i ≠ 2 + k → kp2 g i = g i := fun i hi hn => by
      unfold kp2 kp1
      rw [mU_ne _ _ hi, e6, kat hl, mU_ne _ _ hn]
    have bk : kp2 g (2 + k) = P_X0_takeFrom (g (2 + k)) (g 0) := by
      unfold kp2 kp1
      rw [mU_ne _ _ (by omega), e6, kat hl, mU_same]
    have hm : Md sA (kp2 g) (P_X5_answer (kp2 g) (kp2 g 6 18 6)).2 := kl_P_X5_answer (S := sA) (Md.rf (g := kp2 g))
    rw [hm.1 7 (by decide) (by decide) (by decide), bo 7 (by decide) (by omega), keep_n hl h0.1.2.2.2.1] at e
    have eg := congrArg Prod.snd (Option.some.inj e)
    dsimp only at eg
    have ek : k' = k + 1 := by
      have a1 := z.1.2.2.2.2.1
      rw [← eg, mU_ne _ _ (by decide), hm.2.1 18 6 (by decide), ev] at a1
      exact (nI_j (by omega) (by have := z.1.1.2.2.1; omega) a1).symm
    subst ek
    rw [← eg]
    have cell : ∀ q, (mP (mP (cpC (g 7) 0 (576 + 288 * k) 288) 20 2 (nI (k + 1))) 20 1 0) 21 q = if 21 = 21 ∧ 576 + 288 * k ≤ q ∧ q < 576 + 288 * k + 288 then g 7 21 (0 + (q - (576 + 288 * k))) else g 7 21 q := fun q => rfl
    constructor
    · rw [mU_same, mU_ne _ _ (show (0 : Nat) ≠ 7 by decide)]
      have hC' : CR (kp2 g 0) (g 7 21) := by rw [bo 0 (by decide) (by omega)]; exact hC
      refine hC'.k hm.k (fun q hq => ?_)
      have := sB_lt q hq
      rw [cell, if_neg (by omega)]
    · intro i hi
      rw [mU_same, mU_ne _ _ (by omega), hm.1 _ (by omega) (by omega) (by omega)]
      by_cases y : i = k
      · subst y
        rw [bk]
        refine CR.tf (hC.k Kp.rf (fun q hq => ?_))
        have := sB_lt q hq
        show (mP (mP (cpC (g 7) 0 (576 + 288 * i) 288) 20 2 (nI (i + 1))) 20 1 0) 21 (576 + 288 * i + q) = _
        rw [cell, if_pos (by omega), show 0 + (576 + 288 * i + q - (576 + 288 * i)) = q from by omega]
      · rw [bo _ (by omega) (by omega)]
        refine (hK i (by omega)).k Kp.rf (fun q hq => ?_)
        have := sB_lt q hq
        show (mP (mP (cpC (g 7) 0 (576 + 288 * k) 288) 20 2 (nI (k + 1))) 20 1 0) 21 (576 + 288 * i + q) = _
        rw [cell, if_neg (by omega)]
theorem sh_23 {k t : Nat} {g : mG} (h : R2 k t g) (a : Nat → Int32) : ∃ v w g2, lwR_23 g a = some ((v, w), g2) ∧ (∃ k, R2 k t g2) ∧ v = w := by
  obtain ⟨hR, hC, hK⟩ := id h
  obtain ⟨h0, hb, hf⟩ := id hR
  obtain ⟨v, w, g2, e, ⟨k', z⟩, q⟩ := sf_23 hR a
  refine ⟨v, w, g2, e, ⟨k', z, ?_⟩, q⟩
  have hk := h0.1.2.2.1
  have e6 := h0.2.2.2.2.1
  unfold lwR_23 P_X5_back at e
  cases k with
  | zero =>
    have hm : Md sA g (P_X5_refuse g 5).2 := kl_P_X5_refuse (S := sA) (Md.rf (g := g))
    rw [e6, if_neg (show ¬ 1 ≤ nI 0 by decide), hm.1 7 (by decide) (by decide) (by decide), back_0 h0.1.2.2.2.1] at e
    have eg : mU (P_X5_refuse g 5).2 7 (mP (g 7) 20 1 5) = g2 := congrArg Prod.snd (Option.some.inj e)
    have ek : k' = 0 := by
      have a1 := z.1.2.2.2.2.1
      rw [← eg, mU_ne _ _ (by decide), hm.2.1 18 6 (by decide), e6] at a1
      exact (nI_j (by decide) (by have := z.1.1.2.2.1; omega) a1).symm
    subst ek
    rw [← eg]
    refine ⟨?_, fun i hi => absurd hi (by omega)⟩
    rw [mU_same, mU_ne _ _ (show (0 : Nat) ≠ 7 by decide)]
    exact hC.k hm.k (fun _ _ => rfl)
  | succ i =>
    have hl : i < 3 := by omega
    have hc : 1 ≤ g 6 18 6 := by
      rw [e6]
      exact (nI_leI (a := 1) (by decide) (by omega)).mpr (by omega)
    rw [if_pos hc] at e
    have a6 : bk1 g 6 = mP (g 6) 18 6 (nI i) := by
      unfold bk1
      rw [mU_same, e6, ← nI_1, Int32.add_sub_cancel]
    have ao : ∀ j, j ≠ 6 → bk1 g j = g j := fun j hj => by
      unfold bk1
      rw [mU_ne _ _ hj]
    have e1 : bk1 g 6 18 6 = nI i := by rw [a6, mP_s]
    have b0 : bk2 g 0 = P_X0_takeFrom (g 0) (g (2 + i)) := by
      unfold bk2
      rw [mU_same, e1, kat hl, ao 0 (by decide), ao _ (by omega)]
    have bo : ∀ j, j ≠ 0 → j ≠ 6 → bk2 g j = g j := fun j h0 h6 => by
      unfold bk2
      rw [mU_ne _ _ h0, ao j h6]
    have ev : bk2 g 6 18 6 = nI i := by
      unfold bk2
      rw [mU_ne _ _ (by decide)]; exact e1
    have hm : Md sA (bk2 g) (P_X5_answer (bk2 g) (bk2 g 6 18 6)).2 := kl_P_X5_answer (S := sA) (Md.rf (g := bk2 g))
    rw [hm.1 7 (by decide) (by decide) (by decide), bo 7 (by decide) (by decide), back_n hl h0.1.2.2.2.1] at e
    have eg := congrArg Prod.snd (Option.some.inj e)
    dsimp only at eg
    have ek : k' = i := by
      have a1 := z.1.2.2.2.2.1
      rw [← eg, mU_ne _ _ (by decide), hm.2.1 18 6 (by decide), ev] at a1
      exact (nI_j (by omega) (by have := z.1.1.2.2.1; omega) a1).symm
    subst ek
    rw [← eg]
    have cell : ∀ q, (mP (cpC (mP (g 7) 20 2 (nI k')) (576 + 288 * k') 0 288) 20 1 0) 21 q = if 21 = 21 ∧ 0 ≤ q ∧ q < 0 + 288 then g 7 21 (576 + 288 * k' + (q - 0)) else g 7 21 q := fun q => rfl
    constructor
    · rw [mU_same, mU_ne _ _ (show (0 : Nat) ≠ 7 by decide)]
      have hC' : CR (bk2 g 0) (fun q => g 7 21 (576 + 288 * k' + q)) := by rw [b0]; exact (hK k' (by omega)).tf
      refine hC'.k hm.k (fun q hq => ?_)
      have := sB_lt q hq
      rw [cell, if_pos (by omega), Nat.sub_zero]
    · intro j hj
      rw [mU_same, mU_ne _ _ (by omega), hm.1 _ (by omega) (by omega) (by omega), bo _ (by omega) (by omega)]
      refine (hK j (by omega)).k Kp.rf (fun q hq => ?_)
      show (mP (cpC (mP (g 7) 20 2 (nI k')) (576 + 288 * k') 0 288) 20 1 0) 21 (576 + 288 * j + q) = _
      rw [cell, if_neg (by omega)]
theorem sh_1 {k t : Nat} {g : mG} (h : R2 k t g) (a : Nat → Int32) : ∃ v w g2, lwR_1 g a = some ((v, w), g2) ∧ (∃ t, R2 k t g2) ∧ v = w := by
  obtain ⟨hR, hC, hK⟩ := id h
  obtain ⟨v, w, g2, e, ⟨t', z⟩, q⟩ := sf_1 hR a
  refine ⟨v, w, g2, e, ⟨t', z, ?_⟩, q⟩
  have hk := hR.1.1.2.2.1
  have ef := feed_eq (x1 := a 1) (x2 := a 2) (x3 := a 3) (x4 := a 4) (x5 := a 5) hR.1.2.2.1 hR.1.2.1
  have hc : ∀ g1 : mG, (∀ i, i ≠ 5 → i ≠ 6 → g1 i = g i) → ∀ m : mC, m 21 = g 7 21 → CR (mU g1 7 m 0) (mU g1 7 m 7 21) ∧ ∀ i, i < k → CR (mU g1 7 m (2 + i)) (fun q => mU g1 7 m 7 21 (576 + 288 * i + q)) := fun g1 f1 m hm => by
    constructor
    · rw [mU_same, mU_ne _ _ (show (0 : Nat) ≠ 7 by decide), f1 0 (by decide) (by decide), hm]; exact hC
    · intro i hi
      rw [mU_same, mU_ne _ _ (by omega), f1 _ (by omega) (by omega), hm]; exact hK i hi
  have fo : ∀ i, i ≠ 5 → i ≠ 6 → (P_X5_feed g (a 1) (a 2) (a 3) (a 4) (a 5)).2 i = g i := by
    intro i h5 h6
    have st : ∀ (x s : Int32) (G : mG), (∀ i, i ≠ 5 → i ≠ 6 → G i = g i) → ∀ i, i ≠ 5 → i ≠ 6 → tp1 x s G i = g i := fun x s G hG i h5 h6 => by
      unfold tp1
      rw [mU_ne _ _ h6, mU_ne _ _ h5]; exact hG i h5 h6
    have s4 : ∀ (x : Int32) (G : mG), (∀ i, i ≠ 5 → i ≠ 6 → G i = g i) → ∀ i, i ≠ 5 → i ≠ 6 → P_X5_tapeFour G x i = g i := fun x G hG => st x 0 _ (st x 8 _ (st x 16 _ (st x 24 _ hG)))
    unfold P_X5_feed
    split
    · exact s4 _ _ (s4 _ _ (s4 _ _ (s4 _ _ (s4 _ _ (fun _ _ _ => rfl))))) i h5 h6
    · rfl
  unfold lwR_1 at e
  rw [fo 7 (by decide) (by decide), ef] at e
  by_cases h6 : t ≤ 680
  · rw [if_pos h6] at e
    have eg := congrArg Prod.snd (Option.some.inj e)
    dsimp only at eg
    rw [← eg]
    exact hc _ fo _ (fd5_o _ _ _ _ _ _).1
  · rw [if_neg h6] at e
    have eg := congrArg Prod.snd (Option.some.inj e)
    dsimp only at eg
    rw [← eg]
    exact hc _ fo _ rfl
theorem R2_0 : CR ((mU g0 7 zM2) 0) ((mU g0 7 zM2) 7 21) ∧ ∀ i, i < 0 → CR ((mU g0 7 zM2) (2 + i)) (fun q => (mU g0 7 zM2) 7 21 (576 + 288 * i + q)) := by
  refine ⟨⟨0, ⟨by decide, fun p hp => absurd hp (by omega), fun p hp => absurd hp (by omega), rfl, rfl⟩, ⟨rfl, rfl⟩, ⟨0, by decide, rfl, rfl⟩, ⟨0, by decide, rfl, rfl⟩, rfl⟩, fun i hi => absurd hi (by omega)⟩
