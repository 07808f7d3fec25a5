/-! The tapes, the faults, on both sides alike -/
def TB (t : Nat) (g : mG) : Prop := ∀ i, i < t → g 5 19 i = g 7 22 i ∧ isB (g 5 19 i)
def FT (g : mG) : Prop := (g 6 18 8 &&& 1 = 0 ∧ g 7 20 17 = -1 ∧ g 7 20 15 = -1 ∧ g 7 20 16 = -1) ∨ (¬ g 6 18 8 &&& 1 = 0 ∧ g 7 20 17 = g 5 16 9 ∧ g 7 20 15 = g 5 16 10 ∧ g 7 20 16 = g 5 16 11)
def R1 (k t : Nat) (g : mG) : Prop := R0 k t g ∧ TB t g ∧ FT g
theorem R1.up {k t : Nat} {g g1 : mG} {c : mC} (h : R1 k t g) (hm : Md sN g g1) (hp : H (g 7) c) : R1 k t (mU g1 7 c) := by
  obtain ⟨h0, h1, h2⟩ := h
  have hm' := hm
  obtain ⟨m1, m2, m3⟩ := hm
  have e5 : mU g1 7 c 5 = g 5 := by rw [mU_ne _ _ (by decide)]; exact m1 5 (by decide) (by decide) (by decide)
  have e7 : mU g1 7 c 7 = c := mU_same _ _ _
  have e6 : mU g1 7 c 6 18 8 = g 6 18 8 := by rw [mU_ne _ _ (by decide)]; exact m2 18 8 (by decide)
  have p22 : c 22 = g 7 22 := hp.2.2.2.1 22 (by decide) (by decide)
  have p20 : ∀ q, q = 15 ∨ q = 16 ∨ q = 17 → c 20 q = g 7 20 q := fun q hq => hp.2.2.2.2 q (by omega) (by omega) (by omega) (by omega)
  refine ⟨h0.up hm' hp, fun i hi => ?_, ?_⟩
  · rw [e5, e7, p22]; exact h1 i hi
  · unfold FT
    rw [e5, e7, e6, p20 15 (by omega), p20 16 (by omega), p20 17 (by omega)]
    exact h2
theorem R1.st {k t : Nat} {g g1 : mG} {v : Int32} {o : Option (Int32 × mC)} (h : R1 k t g) (hm : Md sN g g1) (ho : ok (fun p : Int32 × mC => H (g 7) p.2) o) : ∃ w g2, mBo none o (fun q => some ((v, q.1), mU g1 7 q.2)) = some ((v, w), g2) ∧ R1 k t g2 := by
  obtain ⟨p, rfl, hp⟩ := ho
  exact ⟨p.1, mU g1 7 p.2, rfl, h.up hm hp⟩
-- feed: byte by byte
theorem isB_8 (x : Int32) : isB (x.toInt8.toInt32) := ⟨x.toInt8, rfl⟩
/-- what one byte leaves, on both sides -/
def Fb (n : Nat) (g0 g : mG) (r : mC) : Prop := FdC n g0 g ∧ (∀ i, i < n → g 5 19 i = r 22 i ∧ isB (g 5 19 i)) ∧ (∀ q, g 5 16 q = g0 5 16 q) ∧ r 20 8 = nI n ∧ (∀ q, q ≠ 8 → r 20 q = g0 7 20 q) ∧ r 21 = g0 7 21
theorem Fb.s {n : Nat} {g0 g : mG} {r : mC} (h : Fb n g0 g r) (hn : n < 700) {x s s' : Int32} (hs : s &&& 31 = ((8 : Int32) * s') &&& 31) : Fb (n + 1) g0 (tp1 x s g) (fr1B x s' r) := by
  obtain ⟨h1, h2, h3, h4, h5, h6⟩ := h
  have e5 : tp1 x s g 5 = mP (g 5) 19 n ((x >>> (s &&& 31)).toInt8.toInt32).toInt8.toInt32 := by
    unfold tp1
    rw [mU_ne _ _ (by decide), mU_same]
    unfold P_X3_putByte
    rw [h1.2.2, if_neg (nI_pos (by omega)), if_neg (fun z => by have := (nI_leI (a := 700) (by decide) (by omega)).mp z; omega), nI_clamp (by omega)]
  have e22 : ∀ i, fr1B x s' r 22 i = if i = n then ((x >>> (s &&& 31)).toInt8.toInt32).toInt8.toInt32 else r 22 i := fun i => by
    unfold fr1B
    rw [h4, nI_clamp (by omega), hs]
    show (if 22 = 20 ∧ i = 8 then _ else if 22 = 22 ∧ i = n then _ else r 22 i) = _
    rw [if_neg (by omega)]
    by_cases z : i = n
    · rw [if_pos ⟨rfl, z⟩, if_pos z]
    · rw [if_neg (fun y => z y.2), if_neg z]
  refine ⟨h1.s, fun i hi => ?_, fun q => ?_, fr1B_t h4, fun q hq => ?_, ?_⟩
  · rw [e5, e22]
    by_cases z : i = n
    · rw [if_pos z, z, mP_s]
      exact ⟨rfl, isB_8 _⟩
    · rw [if_neg z, mP_n _ _ _ z]
      exact h2 i (by omega)
  · rw [e5, mP_other _ _ _ _ _ (by decide)]; exact h3 q
  · unfold fr1B
    rw [mP_n _ _ _ hq, mP_other _ _ _ _ _ (by decide)]; exact h5 q hq
  · exact h6
theorem Fb.four {n : Nat} {g0 g : mG} {r : mC} (h : Fb n g0 g r) (hn : n + 4 ≤ 700) {x : Int32} : Fb (n + 4) g0 (P_X5_tapeFour g x) (fr4 x r) := by
  have a := h.s (x := x) (by omega) (s := 24) (s' := 3) (by decide)
  have b := a.s (x := x) (by omega) (s := 16) (s' := 2) (by decide)
  have c := b.s (x := x) (by omega) (s := 8) (s' := 1) (by decide)
  exact c.s (x := x) (by omega) (s := 0) (s' := 0) (by decide)
theorem sf_1 {k t : Nat} {g : mG} (h : R1 k t g) (a : Nat → Int32) : ∃ v w g2, lwR_1 g a = some ((v, w), g2) ∧ (∃ t, R1 k t g2) ∧ v = w := by
  obtain ⟨h0, hb, hf⟩ := h
  have hk := h0.1.2.2.1
  unfold lwR_1 P_X5_feed
  by_cases h6 : t ≤ 680
  · have hc : g 6 18 7 + 20 ≤ 700 := by
      rw [h0.2.2.2.1]
      show nI t + nI 20 ≤ nI 700
      rw [nI_add]
      exact (nI_leI (by omega) (by decide)).mpr (by omega)
    rw [if_pos hc]
    have st : Fb t g g (g 7) := ⟨⟨fun _ _ _ => rfl, fun _ _ _ => rfl, h0.2.2.2.1⟩, hb, fun _ => rfl, h0.2.2.1, fun _ _ => rfl, rfl⟩
    have hF : Fb (t + 4 + 4 + 4 + 4 + 4) g (P_X5_tapeFour (P_X5_tapeFour (P_X5_tapeFour (P_X5_tapeFour (P_X5_tapeFour g (a 1)) (a 2)) (a 3)) (a 4)) (a 5)) (fd5 (g 7) (a 1) (a 2) (a 3) (a 4) (a 5)) := ((((st.four (by omega)).four (by omega)).four (by omega)).four (by omega)).four (by omega)
    generalize P_X5_tapeFour (P_X5_tapeFour (P_X5_tapeFour (P_X5_tapeFour (P_X5_tapeFour g (a 1)) (a 2)) (a 3)) (a 4)) (a 5) = g1 at hF ⊢
    obtain ⟨⟨f1, f2, f3⟩, b2, b3, b4, b5, b6⟩ := hF
    dsimp only
    rw [f1 7 (by decide) (by decide), feed_eq h0.2.2.1 h0.2.1, if_pos h6]
    generalize fd5 (g 7) (a 1) (a 2) (a 3) (a 4) (a 5) = r1 at *
    refine ⟨_, _, _, rfl, ⟨t + 20, ⟨?_, by omega, ?_, ?_, ?_, ?_, fun i hi => ?_⟩, fun i hi => ?_, ?_⟩, f3⟩
    · rw [mU_same]; exact h0.1.eq b6 (b5 2 (by decide))
    · rw [mU_same]; exact b4
    · rw [mU_ne _ _ (by decide)]; exact f3
    · rw [mU_ne _ _ (by decide), f2 18 6 (by decide)]; exact h0.2.2.2.2.1
    · rw [mU_ne _ _ (by decide), f1 0 (by decide) (by decide)]; exact h0.2.2.2.2.2.1
    · rw [mU_ne _ _ (by omega), f1 _ (by omega) (by omega)]; exact h0.2.2.2.2.2.2 i hi
    · rw [mU_same, mU_ne _ _ (by decide)]; exact b2 i hi
    · show FT (mU g1 7 r1)
      unfold FT
      rw [mU_same, mU_ne _ _ (show (6 : Nat) ≠ 7 by decide), mU_ne _ _ (show (5 : Nat) ≠ 7 by decide), f2 18 8 (by decide), b3, b3, b3, b5 15 (by decide), b5 16 (by decide), b5 17 (by decide)]
      exact hf
  · have hc : ¬ g 6 18 7 + 20 ≤ 700 := by
      rw [h0.2.2.2.1]
      show ¬ nI t + nI 20 ≤ nI 700
      rw [nI_add]
      have := h0.2.1
      exact fun z => h6 (by have := (nI_leI (by omega) (by decide)).mp z; omega)
    rw [if_neg hc]
    dsimp only
    rw [feed_eq h0.2.2.1 h0.2.1, if_neg h6]
    refine ⟨_, _, _, rfl, ⟨t, ?_⟩, rfl⟩
    rw [mU_self]; exact ⟨h0, hb, hf⟩
-- load
/-- the reference behind its loop: a good text -/
theorem j120_good {r2 r' : mC} (h : L r2 r') (z : Z14 r') : ∃ p, J_X6_load_120 r' = some p ∧ p.1 = r' 21 0 ∧ (∀ q, kp q = true → p.2 21 q = r' 21 q) ∧ p.2 20 15 = -1 ∧ p.2 20 16 = -1 ∧ p.2 20 17 = 0 := by
  have h1 : L r2 (mP r' 20 17 (r' 20 14)) := h.m (by decide)
  unfold J_X6_load_120
  rw [if_pos (show (mP r' 20 17 (r' 20 14)) 20 14 ≤ 0 by show r' 20 14 ≤ 0; rw [z.1]; decide)]
  obtain ⟨c1, e1, g1⟩ := tk_P_X6_starts (G.rf h1.1)
  rw [e1]
  simp only [mBo]
  rw [show P_X6_of c1 0 = some (c1 21 0) from of_n (k := 0) (by decide)]
  refine ⟨_, rfl, g1.2.1 0 rfl, fun q hq => g1.2.1 q hq, ?_, ?_, ?_⟩
  · exact (g1.2.2.2 15 (by decide) (by decide) (by decide)).trans z.2.1
  · exact (g1.2.2.2 16 (by decide) (by decide) (by decide)).trans z.2.2
  · exact (g1.2.2.2 17 (by decide) (by decide) (by decide)).trans z.1
/-- the reference behind its loop: a fault -/
theorem j120_bad {r' : mC} (z : ¬ r' 20 14 ≤ 0) : ∃ p, J_X6_load_120 r' = some p ∧ p.1 = -1 ∧ (∀ q, q < 288 → p.2 21 q = r' 21 (288 + q)) ∧ p.2 20 15 = r' 20 15 ∧ p.2 20 16 = r' 20 16 ∧ p.2 20 17 = r' 20 14 := by
  unfold J_X6_load_120
  rw [if_neg (show ¬ (mP r' 20 17 (r' 20 14)) 20 14 ≤ 0 from z)]
  show ∃ p, mBo none (P_X6_copies (mP r' 20 17 (r' 20 14)) (nI 288) (nI 0)) _ = _ ∧ _
  rw [copies_eq (mP r' 20 17 (r' 20 14)) (a := 288) (b := 0) (by decide) (by decide) (by decide)]
  refine ⟨_, rfl, rfl, fun q hq => ?_, rfl, rfl, rfl⟩
  show (if 21 = 21 ∧ 0 ≤ q ∧ q < 0 + 288 then r' 21 (288 + (q - 0)) else _) = _
  rw [if_pos (by omega), Nat.sub_zero]
theorem u6_o (G : mG) (c : mC) : mU G 6 c 5 = G 5 ∧ mU G 6 c 0 = G 0 ∧ mU G 6 c 6 = c := ⟨mU_ne G c (by decide), mU_ne G c (by decide), mU_same _ _ _⟩
theorem ans_o (G : mG) (v : Int32) : (P_X5_answer G v).2 5 = G 5 ∧ (P_X5_answer G v).2 6 18 8 = G 6 18 8 ∧ (P_X5_answer G v).2 0 = G 0 ∧ (P_X5_answer G v).1 = v := by
  obtain ⟨a, b, c⟩ := u6_o G (mP (G 6) 18 9 0)
  refine ⟨a, ?_, b, rfl⟩
  show mU G 6 (mP (G 6) 18 9 0) 6 18 8 = _
  rw [c, mP_n _ _ _ (by decide)]
theorem ref_o (G : mG) (v : Int32) : (P_X5_refuse G v).2 5 = G 5 ∧ (P_X5_refuse G v).2 6 18 8 = G 6 18 8 ∧ (P_X5_refuse G v).2 0 = G 0 ∧ (P_X5_refuse G v).1 = -1 := by
  obtain ⟨a, b, c⟩ := u6_o G (mP (G 6) 18 9 v)
  refine ⟨a, ?_, b, rfl⟩
  show mU G 6 (mP (G 6) 18 9 v) 6 18 8 = _
  rw [c, mP_n _ _ _ (by decide)]
/-- what load does on the class's side -/
theorem cl_load2 {t : Nat} {g : mG} (e : g 6 18 7 = nI t) {x : Int32} (hx : ¬ P_X6_isFrom x 0 (nI t) = 0) : (P_X5_load g x).2 5 = P_X3_readText (g 5) x ∧ (P_X5_load g x).2 6 18 8 = 1 ∧ (((P_X3_readText (g 5) x) 16 9 = 0 ∧ (P_X5_load g x).1 = (P_X3_readText (g 5) x) 1 0 ∧ (P_X5_load g x).2 0 = P_X0_beginAnew (P_X2_takeFrom (g 0) (P_X3_readText (g 5) x))) ∨ (¬ (P_X3_readText (g 5) x) 16 9 = 0 ∧ (P_X5_load g x).1 = -1 ∧ (P_X5_load g x).2 0 = g 0)) := by
  have hx' := hx
  rw [isF_t] at hx'
  by_cases q : x < 0
  · rw [if_pos q] at hx'; exact absurd rfl hx'
  rw [if_neg q] at hx'
  have q2 : x ≤ nI t := Decidable.byContradiction (fun z => hx' (if_neg z))
  have e0 : P_X5_load g x = mBd (mU (mU (mU g 6 (mP (g 6) 18 7 0)) 6 (mP ((mU g 6 (mP (g 6) 18 7 0)) 6) 18 8 1)) 5 (P_X3_readText (g 5) x)) (fun g1 => (if (g1 5 16 9) = 0 then (mBd (α := mG) (mU g1 0 (P_X2_takeFrom (g1 0) (g1 5))) (fun g2 => (mBd (α := mG) (mU g2 0 (P_X0_beginAnew (g2 0))) (fun g3 => (mBd (α := Int32 × mG) (P_X5_answer g3 (g3 0 1 0)) (fun p4 => (p4.1, p4.2))))))) else (mBd (α := Int32 × mG) (P_X5_refuse g1 9) (fun p5 => (p5.1, p5.2))))) := by
    unfold P_X5_load
    rw [if_neg q, e, if_pos q2]
    rfl
  rw [e0, mBd_eq]
  generalize hg1 : mU (mU (mU g 6 (mP (g 6) 18 7 0)) 6 (mP ((mU g 6 (mP (g 6) 18 7 0)) 6) 18 8 1)) 5 (P_X3_readText (g 5) x) = g1
  have f5 : g1 5 = P_X3_readText (g 5) x := by rw [← hg1]; exact mU_same _ _ _
  have f0 : g1 0 = g 0 := by rw [← hg1]; rfl
  have f6 : g1 6 18 8 = 1 := by rw [← hg1]; rfl
  rw [← f5]
  by_cases w : g1 5 16 9 = 0
  · rw [if_pos w, mBd_eq, mBd_eq, mBd_eq]
    have g20 : mU g1 0 (P_X2_takeFrom (g1 0) (g1 5)) 0 = P_X2_takeFrom (g1 0) (g1 5) := mU_same _ _ _
    rw [g20, f0]
    obtain ⟨o1, o2, o3, o4⟩ := ans_o (mU (mU g1 0 (P_X2_takeFrom (g 0) (g1 5))) 0 (P_X0_beginAnew (P_X2_takeFrom (g 0) (g1 5)))) (mU (mU g1 0 (P_X2_takeFrom (g 0) (g1 5))) 0 (P_X0_beginAnew (P_X2_takeFrom (g 0) (g1 5))) 0 1 0)
    refine ⟨o1.trans ?_, o2.trans ?_, Or.inl ⟨w, o4.trans ?_, o3.trans (mU_same _ _ _)⟩⟩
    · rw [mU_ne _ _ (by decide), mU_ne _ _ (by decide)]
    · rw [mU_ne _ _ (by decide), mU_ne _ _ (by decide)]; exact f6
    · rw [mU_same]
      exact (kn_P_X0_beginAnew (c0 := P_X2_takeFrom (g 0) (g1 5)) Kp.rf 1 0 rfl).trans (tf2_n _ _)
  · rw [if_neg w, mBd_eq]
    obtain ⟨o1, o2, o3, o4⟩ := ref_o g1 9
    exact ⟨o1, o2.trans f6, Or.inr ⟨w, o4, o3.trans f0⟩⟩
/-- a load that is not refused for its length: both sides -/
theorem load_both {k t : Nat} {g : mG} (h : R0 k t g) (hb : TB t g) {x : Int32} (hx : ¬ P_X6_isFrom x 0 (nI t) = 0) : ∃ p r' r2, P_X6_load (g 7) x = some p ∧ Ld (g 7) p.2 ∧ J_X6_load_120 r' = some p ∧ (L r2 r' ∧ (∀ k, k < 288 → r2 21 (288 + k) = g 7 21 k) ∧ (r2 21 1 = 0 ∧ r2 21 4 = 0 ∧ r2 21 6 = 0 ∧ r2 21 10 = 0)) ∧ Te (P_X3_readText (g 5) x) r' ∧ NF (P_X3_readText (g 5) x) := by
  obtain ⟨n, hn, rfl⟩ : ∃ n, n ≤ t ∧ x = nI n := isF_w (b := t) (by have := h.2.1; omega) rfl hx
  obtain ⟨p, ep, hp⟩ := t_load h.1.1 h.2.1 h.2.2.1 (x := nI n)
  rcases hp with ⟨z, _⟩ | ⟨_, hl⟩
  · exact absurd z hx
  obtain ⟨r', r2, e1, hL, hT, hN⟩ := read_eq (n := n) (c := g 5) h.1.1 (by have := h.2.1; omega) (fun i hi => hb i (by omega))
  have e2 : P_X6_load (g 7) (nI n) = J_X6_load_120 r' := by
    unfold P_X6_load
    rw [h.2.2.1, mBd_eq, if_neg hx]
    exact e1
  exact ⟨p, r', r2, ep, hl, e2.symm.trans ep, hL, hT, hN⟩
theorem sf_2 {k t : Nat} {g : mG} (h : R1 k t g) (a : Nat → Int32) : ∃ v w g2, lwR_2 g a = some ((v, w), g2) ∧ (∃ t, R1 k t g2) ∧ v = w := by
  obtain ⟨h0, hb, hf⟩ := id h
  have hk := h0.1.2.2.1
  by_cases hx : P_X6_isFrom (a 1) 0 (nI t) = 0
  · -- refused for its length
    unfold lwR_2
    rcases cl_load h0.2.2.2.1 h0.2.2.2.2.2.1 (x := a 1) with ⟨q, e⟩ | ⟨q, _⟩
    · have hm : Md sN g (J_X5_load_12 g).2 := kl_J_X5_load_12 (S := sN) (Md.rf (g := g))
      have er : P_X6_load (g 7) (a 1) = some (-1, mP (g 7) 20 1 1) := by
        unfold P_X6_load
        rw [h0.2.2.1, mBd_eq, if_pos hx]
        rfl
      rw [e, hm.1 7 (by decide) (by decide) (by decide), er]
      exact ⟨_, _, _, rfl, ⟨t, h.up hm (h0.1.hh.m (Or.inl rfl))⟩, rfl⟩
    · exact absurd hx q
  · obtain ⟨p, r', r2, ep, hl, ej, hL, hT, hN⟩ := load_both h0 hb hx
    obtain ⟨c5, c6, cc⟩ := cl_load2 h0.2.2.2.1 hx
    rcases cl_load h0.2.2.2.1 h0.2.2.2.2.2.1 (x := a 1) with ⟨q, _⟩ | ⟨_, l1, l2, l3, l4⟩
    · exact absurd q hx
    unfold lwR_2
    rw [l1 7 (by decide) (by decide) (by decide), ep]
    have hR0 : R0 k 0 (mU (P_X5_load g (a 1)).2 7 p.2) := by
      refine ⟨?_, by decide, ?_, ?_, ?_, ?_, fun i hi => ?_⟩
      · rw [mU_same]; exact h0.1.ld hl
      · rw [mU_same]; exact hl.2.2.2.2
      · rw [mU_ne _ _ (by decide)]; exact l2
      · rw [mU_ne _ _ (by decide), l3]; exact h0.2.2.2.2.1
      · rw [mU_ne _ _ (by decide)]; exact l4
      · rw [mU_ne _ _ (by omega), l1 _ (by omega) (by omega) (by omega)]; exact h0.2.2.2.2.2.2 i hi
    rcases hT with ⟨t1, t2, t3⟩ | hF
    · obtain ⟨p', e', j1, j2, j3, j4, j5⟩ := j120_good hL.1 t2
      have pe : p' = p := Option.some.inj (e'.symm.trans ej)
      subst pe
      obtain ⟨N, _, n1, n2, _⟩ := t3
      rcases cc with ⟨_, d2, _⟩ | ⟨d1, _⟩
      · refine ⟨_, _, _, rfl, ⟨0, hR0, fun i hi => absurd hi (by omega), Or.inr ?_⟩, ?_⟩
        · rw [mU_same, mU_ne _ _ (show (6 : Nat) ≠ 7 by decide), mU_ne _ _ (show (5 : Nat) ≠ 7 by decide), c5, c6, j3, j4, j5, t1, (hN t1).1, (hN t1).2]
          exact ⟨by decide, rfl, rfl, rfl⟩
        · rw [d2, j1, n1, n2]
      · exact absurd t1 d1
    · obtain ⟨p', e', j1, j2, j3, j4, j5⟩ := j120_bad hF.2.2.2.2
      have pe : p' = p := Option.some.inj (e'.symm.trans ej)
      subst pe
      rcases cc with ⟨d1, _⟩ | ⟨_, d2, _⟩
      · exact absurd d1 hF.1
      · refine ⟨_, _, _, rfl, ⟨0, hR0, fun i hi => absurd hi (by omega), Or.inr ?_⟩, ?_⟩
        · rw [mU_same, mU_ne _ _ (show (6 : Nat) ≠ 7 by decide), mU_ne _ _ (show (5 : Nat) ≠ 7 by decide), c5, c6, j3, j4, j5]
          exact ⟨by decide, hF.2.1, hF.2.2.1, hF.2.2.2.1⟩
        · rw [d2, j1]
theorem sf_22 {k t : Nat} {g : mG} (h : R1 k t g) (a : Nat → Int32) : ∃ v w g2, lwR_22 g a = some ((v, w), g2) ∧ (∃ k, R1 k t g2) ∧ v = w := by
  obtain ⟨h0, hb, hf⟩ := id h
  obtain ⟨v, w, g2, e, ⟨k', z⟩, q⟩ := sg_22 h0 a
  refine ⟨v, w, g2, e, ⟨k', z, ?_⟩, q⟩
  have hk := h0.1.2.2.1
  have e6 := h0.2.2.2.2.1
  unfold lwR_22 P_X5_keep at e
  by_cases h3 : k = 3
  · subst h3
    have hm : Md sN g (P_X5_refuse g 3).2 := kl_P_X5_refuse (S := sN) (Md.rf (g := g))
    rw [e6, if_neg (show ¬ nI 3 < 3 by decide), hm.1 7 (by decide) (by decide) (by decide), keep_3 h0.1.2.2.2.1] at e
    have e2 := Option.some.inj e
    have eg : mU (P_X5_refuse g 3).2 7 (mP (g 7) 20 1 3) = g2 := congrArg Prod.snd e2
    rw [← eg]
    exact (h.up hm (h0.1.hh.m (Or.inl rfl))).2
  · have hl : k < 3 := by omega
    have hc : g 6 18 6 < 3 := by
      rw [e6]
      exact Int32.not_le.mp (fun z => absurd ((nI_leI (a := 3) (by decide) (by omega)).mp z) (by omega))
    rw [if_pos hc] at e
    have a6 : kp1 g 6 = g 6 := by
      unfold kp1
      rw [e6, kat hl, mU_ne _ _ (by omega)]
    have b6 : kp2 g 6 18 8 = g 6 18 8 := by
      unfold kp2
      rw [mU_same, mP_n _ _ _ (by decide), a6]
    have bo : ∀ i, i ≠ 6 → i ≠ 2 + k → kp2 g i = g i := fun i hi hn => by
      unfold kp2 kp1
      rw [mU_ne _ _ hi, e6, kat hl, mU_ne _ _ hn]
    have hm : Md sN (kp2 g) (P_X5_answer (kp2 g) (kp2 g 6 18 6)).2 := kl_P_X5_answer (S := sN) (Md.rf (g := kp2 g))
    rw [hm.1 7 (by decide) (by decide) (by decide), bo 7 (by decide) (by omega), keep_n hl h0.1.2.2.2.1] at e
    have eg := congrArg Prod.snd (Option.some.inj e)
    dsimp only at eg
    rw [← eg]
    constructor
    · intro i hi
      rw [mU_same, mU_ne _ _ (by decide), hm.1 5 (by decide) (by decide) (by decide), bo 5 (by decide) (by omega)]
      exact hb i hi
    · unfold FT
      rw [mU_same, mU_ne _ _ (show (6 : Nat) ≠ 7 by decide), mU_ne _ _ (show (5 : Nat) ≠ 7 by decide), hm.1 5 (by decide) (by decide) (by decide), bo 5 (by decide) (by omega), hm.2.1 18 8 (by decide), b6]
      exact hf
theorem sf_23 {k t : Nat} {g : mG} (h : R1 k t g) (a : Nat → Int32) : ∃ v w g2, lwR_23 g a = some ((v, w), g2) ∧ (∃ k, R1 k t g2) ∧ v = w := by
  obtain ⟨h0, hb, hf⟩ := id h
  obtain ⟨v, w, g2, e, ⟨k', z⟩, q⟩ := sg_23 h0 a
  refine ⟨v, w, g2, e, ⟨k', z, ?_⟩, q⟩
  have hk := h0.1.2.2.1
  have e6 := h0.2.2.2.2.1
  unfold lwR_23 P_X5_back at e
  cases k with
  | zero =>
    have hm : Md sN g (P_X5_refuse g 5).2 := kl_P_X5_refuse (S := sN) (Md.rf (g := g))
    rw [e6, if_neg (show ¬ 1 ≤ nI 0 by decide), hm.1 7 (by decide) (by decide) (by decide), back_0 h0.1.2.2.2.1] at e
    have eg : mU (P_X5_refuse g 5).2 7 (mP (g 7) 20 1 5) = g2 := congrArg Prod.snd (Option.some.inj e)
    rw [← eg]
    exact (h.up hm (h0.1.hh.m (Or.inl rfl))).2
  | succ i =>
    have hl : i < 3 := by omega
    have hc : 1 ≤ g 6 18 6 := by
      rw [e6]
      exact (nI_leI (a := 1) (by decide) (by omega)).mpr (by omega)
    rw [if_pos hc] at e
    have b6 : bk2 g 6 18 8 = g 6 18 8 := by
      unfold bk2 bk1
      rw [mU_ne _ _ (by decide), mU_same, mP_n _ _ _ (by decide)]
    have bo : ∀ j, j ≠ 0 → j ≠ 6 → bk2 g j = g j := fun j h0 h6 => by
      unfold bk2 bk1
      rw [mU_ne _ _ h0, mU_ne _ _ h6]
    have hm : Md sN (bk2 g) (P_X5_answer (bk2 g) (bk2 g 6 18 6)).2 := kl_P_X5_answer (S := sN) (Md.rf (g := bk2 g))
    rw [hm.1 7 (by decide) (by decide) (by decide), bo 7 (by decide) (by decide), back_n hl h0.1.2.2.2.1] at e
    have eg := congrArg Prod.snd (Option.some.inj e)
    dsimp only at eg
    rw [← eg]
    constructor
    · intro j hj
      rw [mU_same, mU_ne _ _ (by decide), hm.1 5 (by decide) (by decide) (by decide), bo 5 (by decide) (by decide)]
      exact hb j hj
    · unfold FT
      rw [mU_same, mU_ne _ _ (show (6 : Nat) ≠ 7 by decide), mU_ne _ _ (show (5 : Nat) ≠ 7 by decide), hm.1 5 (by decide) (by decide) (by decide), bo 5 (by decide) (by decide), hm.2.1 18 8 (by decide), b6]
      exact hf
theorem fault_v {g : mG} (hf : FT g) (x : Int32) : P_X6_fault (g 7) x = some (P_X5_fault g x) := by
  unfold P_X6_fault P_X5_fault
  rcases hf with ⟨f1, f2, f3, f4⟩ | ⟨f1, f2, f3, f4⟩
  · rw [if_pos f1, f2, f3, f4]
    by_cases z0 : x = 0
    · rw [if_pos z0]
    rw [if_neg z0]
    by_cases z1 : x = 1
    · rw [if_pos z1]
    rw [if_neg z1]
    by_cases z2 : x = 2
    · rw [if_pos z2]
    rw [if_neg z2]
  · rw [if_neg f1, f2, f3, f4]
    by_cases z0 : x = 0
    · rw [if_pos z0, if_pos z0]
    rw [if_neg z0, if_neg z0]
    by_cases z1 : x = 1
    · rw [if_pos z1, if_pos z1]
    rw [if_neg z1, if_neg z1]
    by_cases z2 : x = 2
    · rw [if_pos z2, if_pos z2]
    rw [if_neg z2, if_neg z2]
theorem sf_3 {k t : Nat} {g : mG} (h : R1 k t g) (a : Nat → Int32) : ∃ v w g2, lwR_3 g a = some ((v, w), g2) ∧ R1 k t g2 ∧ v = w := by
  have e := fault_v h.2.2 (a 1)
  unfold lwR_3
  rw [e]
  exact ⟨_, _, _, rfl, h, rfl⟩
theorem sf_0 {k t : Nat} {g : mG} (h : R1 k t g) (a : Nat → Int32) : ∃ v w g2, lwR_0 g a = some ((v, w), g2) ∧ R1 k t g2 := by
  obtain ⟨w, e, _⟩ := t_status (c := g 7)
  unfold lwR_0
  rw [e]
  exact ⟨_, _, _, rfl, h⟩
theorem R1_0 : TB 0 (mU g0 7 zM2) ∧ FT (mU g0 7 zM2) := ⟨fun i hi => absurd hi (by omega), Or.inl ⟨rfl, rfl, rfl, rfl⟩⟩
theorem sf_4 {k t : Nat} {g : mG} (h : R1 k t g) (a : Nat → Int32) : ∃ v w g2, lwR_4 g a = some ((v, w), g2) ∧ R1 k t g2 := by
  have hm : Md sN g (P_X5_many g (a 1)).2 := kl_P_X5_many (S := sN) (Md.rf (g := g))
  obtain ⟨w, g2, e1, e2⟩ := h.st (v := (P_X5_many g (a 1)).1) hm (show ok (fun p : Int32 × mC => H (g 7) p.2) (P_X6_many (g 7) (a 1)) from hk_P_X6_many h.1.1.hh)
  refine ⟨(P_X5_many g (a 1)).1, w, g2, ?_, e2⟩
  unfold lwR_4
  rw [hm.1 7 (by decide) (by decide) (by decide)]
  exact e1
theorem sf_5 {k t : Nat} {g : mG} (h : R1 k t g) (a : Nat → Int32) : ∃ v w g2, lwR_5 g a = some ((v, w), g2) ∧ R1 k t g2 := by
  have hm : Md sN g (P_X5_ring g (a 1) (a 2)).2 := kl_P_X5_ring (S := sN) (Md.rf (g := g))
  obtain ⟨w, g2, e1, e2⟩ := h.st (v := (P_X5_ring g (a 1) (a 2)).1) hm (show ok (fun p : Int32 × mC => H (g 7) p.2) (P_X6_ring_ (g 7) (a 1) (a 2)) from hk_P_X6_ring_ h.1.1.hh)
  refine ⟨(P_X5_ring g (a 1) (a 2)).1, w, g2, ?_, e2⟩
  unfold lwR_5
  rw [hm.1 7 (by decide) (by decide) (by decide)]
  exact e1
theorem sf_6 {k t : Nat} {g : mG} (h : R1 k t g) (a : Nat → Int32) : ∃ v w g2, lwR_6 g a = some ((v, w), g2) ∧ R1 k t g2 := by
  have hm : Md sN g (P_X5_phase g (a 1) (a 2)).2 := kl_P_X5_phase (S := sN) (Md.rf (g := g))
  obtain ⟨w, g2, e1, e2⟩ := h.st (v := (P_X5_phase g (a 1) (a 2)).1) hm (show ok (fun p : Int32 × mC => H (g 7) p.2) (P_X6_phase (g 7) (a 1) (a 2)) from hk_P_X6_phase h.1.1.hh)
  refine ⟨(P_X5_phase g (a 1) (a 2)).1, w, g2, ?_, e2⟩
  unfold lwR_6
  rw [hm.1 7 (by decide) (by decide) (by decide)]
  exact e1
theorem sf_7 {k t : Nat} {g : mG} (h : R1 k t g) (a : Nat → Int32) : ∃ v w g2, lwR_7 g a = some ((v, w), g2) ∧ R1 k t g2 := by
  have hm : Md sN g (P_X5_marked g (a 1) (a 2)).2 := kl_P_X5_marked (S := sN) (Md.rf (g := g))
  obtain ⟨w, g2, e1, e2⟩ := h.st (v := (P_X5_marked g (a 1) (a 2)).1) hm (show ok (fun p : Int32 × mC => H (g 7) p.2) (P_X6_marked (g 7) (a 1) (a 2)) from hk_P_X6_marked h.1.1.hh)
  refine ⟨(P_X5_marked g (a 1) (a 2)).1, w, g2, ?_, e2⟩
  unfold lwR_7
  rw [hm.1 7 (by decide) (by decide) (by decide)]
  exact e1
theorem sf_8 {k t : Nat} {g : mG} (h : R1 k t g) (a : Nat → Int32) : ∃ v w g2, lwR_8 g a = some ((v, w), g2) ∧ R1 k t g2 := by
  have hm : Md sN g (P_X5_brake g (a 1) (a 2)).2 := kl_P_X5_brake (S := sN) (Md.rf (g := g))
  obtain ⟨w, g2, e1, e2⟩ := h.st (v := (P_X5_brake g (a 1) (a 2)).1) hm (show ok (fun p : Int32 × mC => H (g 7) p.2) (P_X6_brake (g 7) (a 1) (a 2)) from hk_P_X6_brake h.1.1.hh)
  refine ⟨(P_X5_brake g (a 1) (a 2)).1, w, g2, ?_, e2⟩
  unfold lwR_8
  rw [hm.1 7 (by decide) (by decide) (by decide)]
  exact e1
theorem sf_9 {k t : Nat} {g : mG} (h : R1 k t g) (a : Nat → Int32) : ∃ v w g2, lwR_9 g a = some ((v, w), g2) ∧ R1 k t g2 := by
  have hm : Md sN g (P_X5_sum g (a 1)).2 := kl_P_X5_sum (S := sN) (Md.rf (g := g))
  obtain ⟨w, g2, e1, e2⟩ := h.st (v := (P_X5_sum g (a 1)).1) hm (show ok (fun p : Int32 × mC => H (g 7) p.2) (P_X6_sum (g 7) (a 1)) from hk_P_X6_sum h.1.1.hh)
  refine ⟨(P_X5_sum g (a 1)).1, w, g2, ?_, e2⟩
  unfold lwR_9
  rw [hm.1 7 (by decide) (by decide) (by decide)]
  exact e1
theorem sf_10 {k t : Nat} {g : mG} (h : R1 k t g) (a : Nat → Int32) : ∃ v w g2, lwR_10 g a = some ((v, w), g2) ∧ R1 k t g2 := by
  have hm : Md sN g (P_X5_event g (a 1) (a 2)).2 := kl_P_X5_event (S := sN) (Md.rf (g := g))
  obtain ⟨w, g2, e1, e2⟩ := h.st (v := (P_X5_event g (a 1) (a 2)).1) hm (show ok (fun p : Int32 × mC => H (g 7) p.2) (P_X6_event (g 7) (a 1) (a 2)) from hk_P_X6_event h.1.1.hh)
  refine ⟨(P_X5_event g (a 1) (a 2)).1, w, g2, ?_, e2⟩
  unfold lwR_10
  rw [hm.1 7 (by decide) (by decide) (by decide)]
  exact e1
theorem sf_11 {k t : Nat} {g : mG} (h : R1 k t g) (a : Nat → Int32) : ∃ v w g2, lwR_11 g a = some ((v, w), g2) ∧ R1 k t g2 := by
  have hm : Md sN g (P_X5_mark g (a 1) (a 2) (a 3)).2 := kn_P_X5_mark (Md.rf (g := g))
  obtain ⟨w, g2, e1, e2⟩ := h.st (v := (P_X5_mark g (a 1) (a 2) (a 3)).1) hm (show ok (fun p : Int32 × mC => H (g 7) p.2) (P_X6_mark_ (g 7) (a 1) (a 2) (a 3)) from hk_P_X6_mark_ h.1.1.hh)
  refine ⟨(P_X5_mark g (a 1) (a 2) (a 3)).1, w, g2, ?_, e2⟩
  unfold lwR_11
  rw [hm.1 7 (by decide) (by decide) (by decide)]
  exact e1
theorem sf_12 {k t : Nat} {g : mG} (h : R1 k t g) (a : Nat → Int32) : ∃ v w g2, lwR_12 g a = some ((v, w), g2) ∧ R1 k t g2 := by
  have hm : Md sN g (P_X5_clock g (a 1) (a 2)).2 := kn_P_X5_clock (Md.rf (g := g))
  obtain ⟨w, g2, e1, e2⟩ := h.st (v := (P_X5_clock g (a 1) (a 2)).1) hm (show ok (fun p : Int32 × mC => H (g 7) p.2) (P_X6_clock (g 7) (a 1) (a 2)) from hk_P_X6_clock h.1.1.hh)
  refine ⟨(P_X5_clock g (a 1) (a 2)).1, w, g2, ?_, e2⟩
  unfold lwR_12
  rw [hm.1 7 (by decide) (by decide) (by decide)]
  exact e1
theorem sf_13 {k t : Nat} {g : mG} (h : R1 k t g) (a : Nat → Int32) : ∃ v w g2, lwR_13 g a = some ((v, w), g2) ∧ R1 k t g2 := by
  have hm : Md sN g (P_X5_call g (a 1) (if a 2 = 0 then 0 else 1)).2 := kn_P_X5_call (Md.rf (g := g))
  obtain ⟨w, g2, e1, e2⟩ := h.st (v := (P_X5_call g (a 1) (if a 2 = 0 then 0 else 1)).1) hm (show ok (fun p : Int32 × mC => H (g 7) p.2) (P_X6_call (g 7) (a 1) (if a 2 = 0 then 0 else 1)) from hk_P_X6_call h.1.1.hh)
  refine ⟨(P_X5_call g (a 1) (if a 2 = 0 then 0 else 1)).1, w, g2, ?_, e2⟩
  unfold lwR_13
  rw [hm.1 7 (by decide) (by decide) (by decide)]
  exact e1
theorem sf_14 {k t : Nat} {g : mG} (h : R1 k t g) (a : Nat → Int32) : ∃ v w g2, lwR_14 g a = some ((v, w), g2) ∧ R1 k t g2 := by
  have hm : Md sN g (P_X5_come g (a 1) (a 2)).2 := kn_P_X5_come (Md.rf (g := g))
  obtain ⟨w, g2, e1, e2⟩ := h.st (v := (P_X5_come g (a 1) (a 2)).1) hm (show ok (fun p : Int32 × mC => H (g 7) p.2) (P_X6_come (g 7) (a 1) (a 2)) from hk_P_X6_come h.1.1.hh)
  refine ⟨(P_X5_come g (a 1) (a 2)).1, w, g2, ?_, e2⟩
  unfold lwR_14
  rw [hm.1 7 (by decide) (by decide) (by decide)]
  exact e1
theorem sf_15 {k t : Nat} {g : mG} (h : R1 k t g) (a : Nat → Int32) : ∃ v w g2, lwR_15 g a = some ((v, w), g2) ∧ R1 k t g2 := by
  have hm : Md sN g (P_X5_ask g (a 1)).2 := kn_P_X5_ask (Md.rf (g := g))
  obtain ⟨w, g2, e1, e2⟩ := h.st (v := (P_X5_ask g (a 1)).1) hm (show ok (fun p : Int32 × mC => H (g 7) p.2) (P_X6_ask (g 7) (a 1)) from hk_P_X6_ask h.1.1.hh)
  refine ⟨(P_X5_ask g (a 1)).1, w, g2, ?_, e2⟩
  unfold lwR_15
  rw [hm.1 7 (by decide) (by decide) (by decide)]
  exact e1
theorem sf_16 {k t : Nat} {g : mG} (h : R1 k t g) (a : Nat → Int32) : ∃ v w g2, lwR_16 g a = some ((v, w), g2) ∧ R1 k t g2 := by
  have hm : Md sN g (P_X5_let g (a 1)).2 := kn_P_X5_let (Md.rf (g := g))
  obtain ⟨w, g2, e1, e2⟩ := h.st (v := (P_X5_let g (a 1)).1) hm (show ok (fun p : Int32 × mC => H (g 7) p.2) (P_X6_let (g 7) (a 1)) from hk_P_X6_let h.1.1.hh)
  refine ⟨(P_X5_let g (a 1)).1, w, g2, ?_, e2⟩
  unfold lwR_16
  rw [hm.1 7 (by decide) (by decide) (by decide)]
  exact e1
theorem sf_17 {k t : Nat} {g : mG} (h : R1 k t g) (a : Nat → Int32) : ∃ v w g2, lwR_17 g a = some ((v, w), g2) ∧ R1 k t g2 := by
  have hm : Md sN g (P_X5_brakes g (a 1) (a 2) (a 3) (a 4) (a 5) (a 6)).2 := kn_P_X5_brakes (Md.rf (g := g))
  obtain ⟨w, g2, e1, e2⟩ := h.st (v := (P_X5_brakes g (a 1) (a 2) (a 3) (a 4) (a 5) (a 6)).1) hm (show ok (fun p : Int32 × mC => H (g 7) p.2) (P_X6_brakes (g 7) (a 1) (a 2) (a 3) (a 4) (a 5) (a 6)) from hk_P_X6_brakes h.1.1.hh)
  refine ⟨(P_X5_brakes g (a 1) (a 2) (a 3) (a 4) (a 5) (a 6)).1, w, g2, ?_, e2⟩
  unfold lwR_17
  rw [hm.1 7 (by decide) (by decide) (by decide)]
  exact e1
theorem sf_18 {k t : Nat} {g : mG} (h : R1 k t g) (a : Nat → Int32) : ∃ v w g2, lwR_18 g a = some ((v, w), g2) ∧ R1 k t g2 := by
  have hm : Md sN g (P_X5_stick g (a 1) (if a 2 = 0 then 0 else 1)).2 := kn_P_X5_stick (Md.rf (g := g))
  obtain ⟨w, g2, e1, e2⟩ := h.st (v := (P_X5_stick g (a 1) (if a 2 = 0 then 0 else 1)).1) hm (show ok (fun p : Int32 × mC => H (g 7) p.2) (P_X6_stick (g 7) (a 1) (if a 2 = 0 then 0 else 1)) from hk_P_X6_stick h.1.1.hh)
  refine ⟨(P_X5_stick g (a 1) (if a 2 = 0 then 0 else 1)).1, w, g2, ?_, e2⟩
  unfold lwR_18
  rw [hm.1 7 (by decide) (by decide) (by decide)]
  exact e1
theorem sf_19 {k t : Nat} {g : mG} (h : R1 k t g) (a : Nat → Int32) : ∃ v w g2, lwR_19 g a = some ((v, w), g2) ∧ R1 k t g2 := by
  have hm : Md sN g (P_X5_reset g).2 := kn_P_X5_reset (Md.rf (g := g))
  obtain ⟨w, g2, e1, e2⟩ := h.st (v := (P_X5_reset g).1) hm (show ok (fun p : Int32 × mC => H (g 7) p.2) (P_X6_reset (g 7)) from hk_P_X6_reset h.1.1.hh)
  refine ⟨(P_X5_reset g).1, w, g2, ?_, e2⟩
  unfold lwR_19
  rw [hm.1 7 (by decide) (by decide) (by decide)]
  exact e1
theorem sf_20 {k t : Nat} {g : mG} (h : R1 k t g) (a : Nat → Int32) : ∃ v w g2, lwR_20 g a = some ((v, w), g2) ∧ R1 k t g2 := by
  have hm : Md sN g (P_X5_tick g (a 1)).2 := kn_P_X5_tick (Md.rf (g := g))
  obtain ⟨w, g2, e1, e2⟩ := h.st (v := (P_X5_tick g (a 1)).1) hm (show ok (fun p : Int32 × mC => H (g 7) p.2) (P_X6_tick (g 7) (a 1)) from hk_P_X6_tick h.1.1.hh)
  refine ⟨(P_X5_tick g (a 1)).1, w, g2, ?_, e2⟩
  unfold lwR_20
  rw [hm.1 7 (by decide) (by decide) (by decide)]
  exact e1
theorem sf_21 {k t : Nat} {g : mG} (h : R1 k t g) (a : Nat → Int32) : ∃ v w g2, lwR_21 g a = some ((v, w), g2) ∧ R1 k t g2 := by
  have hm : Md sN g (P_X5_run g (a 1) (a 2)).2 := kn_P_X5_run (Md.rf (g := g))
  obtain ⟨w, g2, e1, e2⟩ := h.st (v := (P_X5_run g (a 1) (a 2)).1) hm (show ok (fun p : Int32 × mC => H (g 7) p.2) (P_X6_run (g 7) (a 1) (a 2)) from hk_P_X6_run h.1.1.hh)
  refine ⟨(P_X5_run g (a 1) (a 2)).1, w, g2, ?_, e2⟩
  unfold lwR_21
  rw [hm.1 7 (by decide) (by decide) (by decide)]
  exact e1
theorem sf_24 {k t : Nat} {g : mG} (h : R1 k t g) (a : Nat → Int32) : ∃ v w g2, lwR_24 g a = some ((v, w), g2) ∧ R1 k t g2 := by
  have hm : Md sN g (P_X5_foes g (a 1) (a 2)).2 := kl_P_X5_foes (S := sN) (Md.rf (g := g))
  obtain ⟨w, g2, e1, e2⟩ := h.st (v := (P_X5_foes g (a 1) (a 2)).1) hm (show ok (fun p : Int32 × mC => H (g 7) p.2) (P_X6_foes (g 7) (a 1) (a 2)) from hk_P_X6_foes h.1.1.hh)
  refine ⟨(P_X5_foes g (a 1) (a 2)).1, w, g2, ?_, e2⟩
  unfold lwR_24
  rw [hm.1 7 (by decide) (by decide) (by decide)]
  exact e1
theorem sf_25 {k t : Nat} {g : mG} (h : R1 k t g) (a : Nat → Int32) : ∃ v w g2, lwR_25 g a = some ((v, w), g2) ∧ R1 k t g2 := by
  have hm : Md sN g (P_X5_sets g (a 1)).2 := kt_sets (S := sN) (Md.rf (g := g))
  obtain ⟨w, g2, e1, e2⟩ := h.st (v := (P_X5_sets g (a 1)).1) hm (show ok (fun p : Int32 × mC => H (g 7) p.2) (P_X6_sets (g 7) (a 1)) from hk_P_X6_sets h.1.1.hh)
  refine ⟨(P_X5_sets g (a 1)).1, w, g2, ?_, e2⟩
  unfold lwR_25
  rw [hm.1 7 (by decide) (by decide) (by decide)]
  exact e1
theorem sf_26 {k t : Nat} {g : mG} (h : R1 k t g) (a : Nat → Int32) : ∃ v w g2, lwR_26 g a = some ((v, w), g2) ∧ R1 k t g2 := by
  have hm : Md sN g (P_X5_when g (a 1)).2 := kl_P_X5_when (S := sN) (Md.rf (g := g))
  obtain ⟨w, g2, e1, e2⟩ := h.st (v := (P_X5_when g (a 1)).1) hm (show ok (fun p : Int32 × mC => H (g 7) p.2) (P_X6_when (g 7) (a 1)) from hk_P_X6_when h.1.1.hh)
  refine ⟨(P_X5_when g (a 1)).1, w, g2, ?_, e2⟩
  unfold lwR_26
  rw [hm.1 7 (by decide) (by decide) (by decide)]
  exact e1
theorem sf_27 {k t : Nat} {g : mG} (h : R1 k t g) (a : Nat → Int32) : ∃ v w g2, lwR_27 g a = some ((v, w), g2) ∧ R1 k t g2 := by
  have hm : Md sN g (P_X5_worst g (a 1)).2 := kl_P_X5_worst (S := sN) (Md.rf (g := g))
  obtain ⟨w, g2, e1, e2⟩ := h.st (v := (P_X5_worst g (a 1)).1) hm (show ok (fun p : Int32 × mC => H (g 7) p.2) (P_X6_worst (g 7) (a 1)) from hk_P_X6_worst h.1.1.hh)
  refine ⟨(P_X5_worst g (a 1)).1, w, g2, ?_, e2⟩
  unfold lwR_27
  rw [hm.1 7 (by decide) (by decide) (by decide)]
  exact e1
theorem sf_28 {k t : Nat} {g : mG} (h : R1 k t g) (a : Nat → Int32) : ∃ v w g2, lwR_28 g a = some ((v, w), g2) ∧ R1 k t g2 := by
  have hm : Md sN g (P_X5_cleared g).2 := kl_P_X5_cleared (S := sN) (Md.rf (g := g))
  obtain ⟨w, g2, e1, e2⟩ := h.st (v := (P_X5_cleared g).1) hm (show ok (fun p : Int32 × mC => H (g 7) p.2) (P_X6_cleared (g 7)) from hk_P_X6_cleared h.1.1.hh)
  refine ⟨(P_X5_cleared g).1, w, g2, ?_, e2⟩
  unfold lwR_28
  rw [hm.1 7 (by decide) (by decide) (by decide)]
  exact e1
theorem sf_29 {k t : Nat} {g : mG} (h : R1 k t g) (a : Nat → Int32) : ∃ v w g2, lwR_29 g a = some ((v, w), g2) ∧ R1 k t g2 := by
  have hm : Md sN g (P_X5_instep g).2 := kl_P_X5_instep (S := sN) (Md.rf (g := g))
  obtain ⟨w, g2, e1, e2⟩ := h.st (v := (P_X5_instep g).1) hm (show ok (fun p : Int32 × mC => H (g 7) p.2) (P_X6_instep (g 7)) from hk_P_X6_instep h.1.1.hh)
  refine ⟨(P_X5_instep g).1, w, g2, ?_, e2⟩
  unfold lwR_29
  rw [hm.1 7 (by decide) (by decide) (by decide)]
  exact e1
theorem sf_30 {k t : Nat} {g : mG} (h : R1 k t g) (a : Nat → Int32) : ∃ v w g2, lwR_30 g a = some ((v, w), g2) ∧ R1 k t g2 := by
  have hm : Md sN g (P_X5_broken g (a 1)).2 := kl_P_X5_broken (S := sN) (Md.rf (g := g))
  obtain ⟨w, g2, e1, e2⟩ := h.st (v := (P_X5_broken g (a 1)).1) hm (show ok (fun p : Int32 × mC => H (g 7) p.2) (P_X6_broken (g 7) (a 1)) from hk_P_X6_broken h.1.1.hh)
  refine ⟨(P_X5_broken g (a 1)).1, w, g2, ?_, e2⟩
  unfold lwR_30
  rw [hm.1 7 (by decide) (by decide) (by decide)]
  exact e1
theorem sf_31 {k t : Nat} {g : mG} (h : R1 k t g) (a : Nat → Int32) : ∃ v w g2, lwR_31 g a = some ((v, w), g2) ∧ R1 k t g2 := by
  have hm : Md sN g (P_X5_paper g (a 1) (a 2)).2 := kl_P_X5_paper (S := sN) (Md.rf (g := g))
  obtain ⟨w, g2, e1, e2⟩ := h.st (v := (P_X5_paper g (a 1) (a 2)).1) hm (show ok (fun p : Int32 × mC => H (g 7) p.2) (P_X6_paper (g 7) (a 1) (a 2)) from hk_P_X6_paper h.1.1.hh)
  refine ⟨(P_X5_paper g (a 1) (a 2)).1, w, g2, ?_, e2⟩
  unfold lwR_31
  rw [hm.1 7 (by decide) (by decide) (by decide)]
  exact e1
theorem sf_32 {k t : Nat} {g : mG} (h : R1 k t g) (a : Nat → Int32) : ∃ v w g2, lwR_32 g a = some ((v, w), g2) ∧ R1 k t g2 := by
  have hm : Md sN g (P_X5_bestMax g (a 1) (a 2)).2 := kl_P_X5_bestMax (S := sN) (Md.rf (g := g))
  obtain ⟨w, g2, e1, e2⟩ := h.st (v := (P_X5_bestMax g (a 1) (a 2)).1) hm (show ok (fun p : Int32 × mC => H (g 7) p.2) (P_X6_bestMax (g 7) (a 1) (a 2)) from hk_P_X6_bestMax h.1.1.hh)
  refine ⟨(P_X5_bestMax g (a 1) (a 2)).1, w, g2, ?_, e2⟩
  unfold lwR_32
  rw [hm.1 7 (by decide) (by decide) (by decide)]
  exact e1
theorem sf_33 {k t : Nat} {g : mG} (h : R1 k t g) (a : Nat → Int32) : ∃ v w g2, lwR_33 g a = some ((v, w), g2) ∧ R1 k t g2 := by
  have hm : Md sN g (P_X5_cheapest g (a 1)).2 := kl_P_X5_cheapest (S := sN) (Md.rf (g := g))
  obtain ⟨w, g2, e1, e2⟩ := h.st (v := (P_X5_cheapest g (a 1)).1) hm (show ok (fun p : Int32 × mC => H (g 7) p.2) (P_X6_cheapest (g 7) (a 1)) from hk_P_X6_cheapest h.1.1.hh)
  refine ⟨(P_X5_cheapest g (a 1)).1, w, g2, ?_, e2⟩
  unfold lwR_33
  rw [hm.1 7 (by decide) (by decide) (by decide)]
  exact e1
