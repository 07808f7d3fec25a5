/-! The two readers side by side: a token -/
def sM (j k : Nat) : Bool := !(Nat.beq j 16 && Nat.beq k 6)
theorem Kp.rd {S : Nat → Nat → Bool} {c0 c : mC} (h : Kp S c0 c) (j k : Nat) (e : S j k = true) : c j k = c0 j k := h j k e
theorem J100_f (c : mC) : Kp sM c (J_X3_step_100 c) := by
  show pp (Kp sM c) _
  unfold J_X3_step_100
  refine pp_wh (fun s : Int32 × mC => Kp sM c s.2) tm_X3_step_110 ?_ (Kp.rf.w rfl)
  rintro ⟨x1, s⟩ h
  have h : Kp sM c s := h
  unfold B_X3_step_110
  dsimp only
  exact pp2_if (fun _ => pp2_if (fun _ => pp2_r h) (fun _ => pp2_if (fun _ => pp2_r h) (fun _ => pp2_bd (fun _ => pp2_l (h.w rfl))))) (fun _ => pp2_r h)
theorem num_loop {b : Nat → Int32} {s e : Nat} (he : e ≤ 700) (h3 : e ≤ s + 3) (hs : s ≤ e) : ∀ j x (c : mC) a, x + j = e → s ≤ x → c 16 5 = 2 → c 16 3 = nI e → c 16 4 = nI s → c 16 6 = nI a → (∀ i, x ≤ i → i < e → c 19 i = b i ∧ kd (b i) = 2 ∧ isB (b i)) → mWh (fun _ _ => 0) B_X3_step_110 (nI x, c) 16 6 = nI (nv b j x a) := by
  intro j
  induction j with
  | zero =>
    intro x c a hx hsx h5 h3' h4 h6 hb
    rw [mWh_eq tm_X3_step_110]
    have eB : B_X3_step_110 (nI x, c) = .inr c := by
      unfold B_X3_step_110
      dsimp only
      rw [if_pos h5, h3', if_pos ((nI_leI (by omega) (by omega)).mpr (by omega))]
    rw [eB]
    exact h6
  | succ j ih =>
    intro x c a hx hsx h5 h3' h4 h6 hb
    obtain ⟨b1, b2, b3⟩ := hb x (Nat.le_refl _) (by omega)
    obtain ⟨ed, hd⟩ := dg_e (b3.f.2.2.2.2 b2)
    rw [mWh_eq tm_X3_step_110]
    have eS : P_X3_signAt c (nI x) = b x := by
      unfold P_X3_signAt
      rw [if_neg (nI_pos (by omega)), if_neg (fun z => by have := (nI_leI (a := 700) (by decide) (by omega)).mp z; omega), nI_clamp (by omega), b1]
    have ev : ((nI a * 10) + b x) - 48 = nI (10 * a + dg (b x)) := by
      rw [show nI a * 10 = nI (10 * a) from by rw [Nat.mul_comm]; exact (Int32.ofNat_mul a 10).symm, show nI (10 * a) + b x = nI (10 * a + (48 + dg (b x))) from by rw [← nI_add, ← ed], show 10 * a + (48 + dg (b x)) = 10 * a + dg (b x) + 48 from by omega, ← nI_add (10 * a + dg (b x)) 48]
      exact Int32.add_sub_cancel _ _
    have eB : B_X3_step_110 (nI x, c) = .inl (nI (x + 1), mP c 16 6 (nI (10 * a + dg (b x)))) := by
      unfold B_X3_step_110 mBd
      dsimp only
      rw [if_pos h5, h3', if_neg (fun z => by have := (nI_leI (by omega) (by omega)).mp z; omega), h4, if_neg (show ¬ nI s + 3 ≤ nI x from fun z => by rw [show (3 : Int32) = nI 3 from rfl, nI_add] at z; have := (nI_leI (by omega) (by omega)).mp z; omega), eS, h6, ev, nI_1]
    rw [eB]
    exact ih (x + 1) (mP c 16 6 (nI (10 * a + dg (b x)))) (10 * a + dg (b x)) (by omega) (by omega) h5 h3' h4 rfl (fun i h1 h2 => hb i (by omega) h2)
/-- the token that is looked at, alike on both sides -/
def Tok (n : Nat) (b : Nat → Int32) (c r : mC) : Prop := c 16 4 = r 20 11 ∧ ((c 16 5 = 0 ∧ r 20 10 = 0) ∨ ∃ s e, s < e ∧ e ≤ n ∧ c 16 4 = nI s ∧ c 16 3 = nI e ∧ r 20 12 = nI e ∧ ((c 16 5 = 1 ∧ r 20 10 = 2 ∧ ∀ j, s ≤ j → j < e → kd (b j) = 1) ∨ (c 16 5 = 2 ∧ r 20 10 = 3 ∧ ∃ m, m < 1000 ∧ c 16 6 = nI m ∧ r 20 13 = nI m) ∨ (c 16 5 = 3 ∧ r 20 10 = 4)))
/-- a bad token: the class has its fault, the reference will have it -/
def Bad (c r : mC) (l : Int32) : Prop := c 16 9 = 1 ∧ c 16 10 = r 20 11 ∧ c 16 11 = l ∧ r 20 10 = 1
theorem fail_0 {c : mC} {x : Int32} (h : c 16 9 = 0) : P_X3_fail c x = mP (mP (mP c 16 9 x) 16 10 (c 16 4)) 16 11 (c 16 7) := by
  unfold P_X3_fail
  rw [if_pos h]
  rfl
theorem fail_n {c : mC} {x : Int32} (h : ¬ c 16 9 = 0) : P_X3_fail c x = c := by
  unfold P_X3_fail
  rw [if_neg h]
/-- behind the place: the rest of a step -/
theorem st_63 {c : mC} {s1 : Int32} (h0 : c 16 9 = 0) (hb : c 16 5 = 5 ∨ (c 16 5 = 2 ∧ ¬ s1 - c 16 4 ≤ 3)) : (J_X3_step_63 c s1) 16 9 = 1 ∧ (J_X3_step_63 c s1) 16 10 = c 16 4 ∧ (J_X3_step_63 c s1) 16 11 = c 16 7 ∧ (J_X3_step_63 c s1) 16 4 = c 16 4 := by
  have e : J_X3_step_63 c s1 = J_X3_step_95 (mP c 16 3 s1) := by
    unfold J_X3_step_63
    rcases hb with h | ⟨h, h2⟩
    · rw [if_pos (show (mP c 16 3 s1) 16 5 = 5 from h)]
    · rw [if_neg (show ¬ (mP c 16 3 s1) 16 5 = 5 by show ¬ c 16 5 = 5; rw [h]; decide), if_pos (show (mP c 16 3 s1) 16 5 = 2 from h), if_neg (show ¬ (mP c 16 3 s1) 16 3 - (mP c 16 3 s1) 16 4 ≤ 3 from h2)]
  have f := J100_f (P_X3_fail (mP c 16 3 s1) 1)
  rw [e]
  unfold J_X3_step_95 mBd
  rw [fail_0 (show (mP c 16 3 s1) 16 9 = 0 from h0)] at f ⊢
  exact ⟨f 16 9 rfl, f 16 10 rfl, f 16 11 rfl, f 16 4 rfl⟩
theorem st_63g {c : mC} {s1 : Int32} (hg : ¬ c 16 5 = 5 ∧ (c 16 5 = 2 → s1 - c 16 4 ≤ 3)) : J_X3_step_63 c s1 = J_X3_step_100 (mP c 16 3 s1) := by
  unfold J_X3_step_63
  rw [if_neg (show ¬ (mP c 16 3 s1) 16 5 = 5 from hg.1)]
  by_cases h : c 16 5 = 2
  · rw [if_pos (show (mP c 16 3 s1) 16 5 = 2 from h), if_pos (show (mP c 16 3 s1) 16 3 - (mP c 16 3 s1) 16 4 ≤ 3 from hg.2 h)]
  · rw [if_neg (show ¬ (mP c 16 3 s1) 16 5 = 2 from h)]
theorem kd_5 : ∀ k : Fin 256, kd (⟨⟨⟨k⟩⟩⟩ : Int8).toInt32 = 1 ∨ kd (⟨⟨⟨k⟩⟩⟩ : Int8).toInt32 = 2 ∨ kd (⟨⟨⟨k⟩⟩⟩ : Int8).toInt32 = 3 ∨ kd (⟨⟨⟨k⟩⟩⟩ : Int8).toInt32 = 4 ∨ kd (⟨⟨⟨k⟩⟩⟩ : Int8).toInt32 = 5 := by decide +kernel
theorem isB.k {v : Int32} (h : isB v) : kd v = 1 ∨ kd v = 2 ∨ kd v = 3 ∨ kd v = 4 ∨ kd v = 5 := by
  obtain ⟨⟨⟨⟨k⟩⟩⟩, rfl⟩ := h
  exact kd_5 k
theorem adv {n : Nat} {b : Nat → Int32} {c r : mC} {q : Nat} (X : CX n b c r) (hq : q ≤ n) (e1 : c 16 3 = nI q) (e2 : r 20 12 = nI q) (h0 : c 16 9 = 0) : ∃ r', P_X6_ahead r = some r' ∧ Kp sR r r' ∧ Kp sS c (P_X3_step c) ∧ (((P_X3_step c) 16 9 = 0 ∧ Tok n b (P_X3_step c) r') ∨ Bad (P_X3_step c) r' (c 16 7)) := by
  have hn := X.1
  have hS : Kp sS c (P_X3_step c) := ks_P_X3_step (c0 := c) Kp.rf
  have hb := behind_eq X 4 (n - q) q (by omega)
  have hl := nx_le b 4 (n - q) q
  have hend := nx_end b 4 (n - q) q
  have hr := blank_eq (c := c) (n - q) q r X e2 (by omega)
  generalize nx b 4 (n - q) q = s at hb hl hend hr
  -- the class
  have X1 : CX n b (mP c 16 4 (nI s)) (mP r 20 12 (nI s)) := (X.c rfl rfl).r rfl rfl
  have eP : P_X3_step c = mBd (P_X3_kindAt (mP c 16 4 (nI s)) (nI s)) (fun v2 => (if v2 = 1 then (J_X3_step_42 (mP (mP c 16 4 (nI s)) 16 5 v2)) else (if v2 = 2 then (J_X3_step_42 (mP (mP c 16 4 (nI s)) 16 5 v2)) else (J_X3_step_63 (mP (mP c 16 4 (nI s)) 16 5 v2) (nI s + 1))))) := by
    unfold P_X3_step
    rw [e1, hb]
    rfl
  have eR : P_X6_ahead r = mWh none B_X6_ahead_0 (mP r 20 12 (nI s)) := hr
  rw [mWh_eq tm_X6_ahead_0] at eR
  generalize hr1 : mP r 20 12 (nI s) = r1 at eR X1
  have r12 : r1 20 12 = nI s := by rw [← hr1]; rfl
  have k1 : Kp sR r r1 := by rw [← hr1]; exact Kp.rf.w rfl
  by_cases hs : s < n
  · have hk4 : ¬ kd (b s) = 4 := by
      rcases hend with z | z
      · omega
      · exact z.2
    have bB := (X.2.2.2 s hs).2.2
    have fB := bB.f
    have eK : P_X3_kindAt (mP c 16 4 (nI s)) (nI s) = kd (b s) := kindAt_n X1 hs
    rw [eK] at eP
    have eR2 : P_X6_ahead r = (if b s &&& 255 = (-1) then (some (mP (mP r1 20 11 (nI s)) 20 10 0)) else (mBd (α := Int32) (P_X6_isSmall (b s &&& 255)) (fun v4 => (if v4 = 0 then (mBd (α := Int32) (P_X6_isDigit (b s &&& 255)) (fun v5 => (if v5 = 0 then (if b s &&& 255 = 59 then (J_X6_ahead_226 (mP (mP r1 20 11 (nI s)) 20 12 (nI s + 1)) 4) else (J_X6_ahead_226 (mP (mP r1 20 11 (nI s)) 20 12 (nI s + 1)) 1)) else (mWh none B_X6_ahead_123 (mP (mP r1 20 11 (nI s)) 20 13 0))))) else (mWh none B_X6_ahead_76 (mP r1 20 11 (nI s))))))) := by
      rw [eR]
      have eB : B_X6_ahead_0 r1 = .inr (if b s &&& 255 = (-1) then (some (mP (mP r1 20 11 (nI s)) 20 10 0)) else (mBd (α := Int32) (P_X6_isSmall (b s &&& 255)) (fun v4 => (if v4 = 0 then (mBd (α := Int32) (P_X6_isDigit (b s &&& 255)) (fun v5 => (if v5 = 0 then (if b s &&& 255 = 59 then (J_X6_ahead_226 (mP (mP r1 20 11 (nI s)) 20 12 (nI s + 1)) 4) else (J_X6_ahead_226 (mP (mP r1 20 11 (nI s)) 20 12 (nI s + 1)) 1)) else (mWh none B_X6_ahead_123 (mP (mP r1 20 11 (nI s)) 20 13 0))))) else (mWh none B_X6_ahead_76 (mP r1 20 11 (nI s))))))) := by
        unfold B_X6_ahead_0
        rw [r12, byteAt_n X1 hs]
        simp only [mBo]
        rw [if_neg (fun z => hk4 (fB.1.1.mp (Or.inl z))), if_neg (fun z => hk4 (fB.1.1.mp (Or.inr z)))]
        have e11 : (mP r1 20 11 (nI s)) 20 12 = nI s := r12
        rw [e11, byteAt_n (X1.r (r' := mP r1 20 11 (nI s)) rfl rfl) hs]
      rw [eB]
    rw [if_neg fB.2.1] at eR2
    unfold mBd at eR2
    dsimp only at eR2
    rw [fB.1.2.1] at eR2
    have kw : ∀ k, k = 1 ∨ k = 2 → kd (b s) = k → ∃ e, e = nx b k (n - s) s ∧ s < e ∧ e ≤ n ∧ (∀ j, s ≤ j → j < e → kd (b j) = k) ∧ P_X3_step c = J_X3_step_63 (mP (mP c 16 4 (nI s)) 16 5 k) (nI e) := fun k hk hd => by
      have a1 := nx_le b k (n - s) s
      have a2 : s < nx b k (n - s) s := by
        obtain ⟨m, hm⟩ : ∃ m, n - s = m + 1 := ⟨n - s - 1, by omega⟩
        rw [hm, nx_s, if_pos hd]
        have := (nx_le b k m (s + 1)).1
        omega
      refine ⟨_, rfl, a2, by omega, nx_all b k (n - s) s, ?_⟩
      have eb : P_X3_behind (mP (mP c 16 4 (nI s)) 16 5 k) (nI s) k = nI (nx b k (n - s) s) := behind_eq (X.c (c' := mP (mP c 16 4 (nI s)) 16 5 k) rfl rfl) k (n - s) s (by omega)
      have e42 : J_X3_step_42 (mP (mP c 16 4 (nI s)) 16 5 k) = J_X3_step_63 (mP (mP c 16 4 (nI s)) 16 5 k) (nI (nx b k (n - s) s)) := by
        rw [← eb]; rfl
      rw [eP, hd]
      unfold mBd
      dsimp only
      rcases hk with rfl | rfl
      · rw [if_pos rfl]; exact e42
      · rw [if_neg (by decide), if_pos rfl]; exact e42
    rcases bB.k with hk | hk | hk | hk | hk
    · -- a word
      obtain ⟨e, he, l1, l2, l3, ec⟩ := kw 1 (Or.inl rfl) hk
      rw [if_pos hk, if_neg (by decide)] at eR2
      have ew := word_eq (c := c) (n - s) s (mP r1 20 11 (nI s)) ((X.r (r' := r) rfl rfl).r (by rw [← hr1]; rfl) (by rw [← hr1]; rfl)) r12 (by omega)
      rw [← he] at ew
      rw [ew] at eR2
      refine ⟨_, eR2, ((k1.w rfl).w rfl).w rfl, hS, Or.inl ?_⟩
      rw [ec, st_63g ⟨by show ¬ (1 : Int32) = 5; decide, fun z => absurd (show (1 : Int32) = 2 from z) (by decide)⟩]
      have f := J100_f (mP (mP (mP c 16 4 (nI s)) 16 5 1) 16 3 (nI e))
      exact ⟨(f 16 9 rfl).trans h0, (f 16 4 rfl), Or.inr ⟨s, e, l1, l2, f 16 4 rfl, f 16 3 rfl, rfl, Or.inl ⟨f 16 5 rfl, rfl, l3⟩⟩⟩
    · -- a number
      obtain ⟨e, he, l1, l2, l3, ec⟩ := kw 2 (Or.inr rfl) hk
      rw [show (if kd (b s) = 1 then (1 : Int32) else 0) = 0 from if_neg (by rw [hk]; decide), if_pos rfl, fB.1.2.2, if_pos hk, if_neg (by decide)] at eR2
      obtain ⟨r', d1, d2, d3, d4, d5, d6⟩ := digit_eq (c := c) (n - s) s (mP (mP r1 20 11 (nI s)) 20 13 0) 0 ((X.r (r' := r) rfl rfl).r (by rw [← hr1]; rfl) (by rw [← hr1]; rfl)) r12 (by omega) rfl (by decide)
      rw [← he] at d4 d5 d6
      rw [d1] at eR2
      refine ⟨r', eR2, Kp.tr ((k1.w rfl).w rfl) d2, hS, ?_⟩
      have d3' : r' 20 11 = nI s := d3
      have d5' : r' 20 10 = if nI e - nI s ≤ 3 then 3 else 1 := d5
      rw [nI_subn (by omega)] at d5'
      by_cases w : e - s ≤ 3
      · left
        rw [if_pos (show nI (e - s) ≤ 3 from (nI_leI (b := 3) (by omega) (by decide)).mpr w)] at d5'
        rw [ec, st_63g ⟨by show ¬ (2 : Int32) = 5; decide, fun _ => by show nI e - nI s ≤ 3; rw [nI_subn (by omega)]; exact (nI_leI (b := 3) (by omega) (by decide)).mpr w⟩]
        have f := J100_f (mP (mP (mP c 16 4 (nI s)) 16 5 2) 16 3 (nI e))
        obtain ⟨v1, v2⟩ := d6 0 (by decide) (by omega)
        refine ⟨(f 16 9 rfl).trans h0, (f 16 4 rfl).trans d3'.symm, Or.inr ⟨s, e, l1, l2, f 16 4 rfl, f 16 3 rfl, d4, Or.inr (Or.inl ⟨f 16 5 rfl, d5', _, v2, ?_, v1⟩)⟩⟩
        exact num_loop (b := b) (s := s) (e := e) (by omega) (by omega) (by omega) (e - s) s (mP (mP (mP (mP c 16 4 (nI s)) 16 5 2) 16 3 (nI e)) 16 6 0) 0 (by omega) (Nat.le_refl _) rfl rfl rfl rfl (fun i h1 h2 => ⟨(X.2.2.2 i (by omega)).1, l3 i h1 h2, (X.2.2.2 i (by omega)).2.2⟩)
      · right
        have w2 : ¬ nI (e - s) ≤ 3 := fun z => w ((nI_leI (b := 3) (by omega) (by decide)).mp z)
        rw [if_neg w2] at d5'
        have g := st_63 (c := mP (mP c 16 4 (nI s)) 16 5 2) (s1 := nI e) h0 (Or.inr ⟨rfl, by show ¬ nI e - nI s ≤ 3; rw [nI_subn (by omega)]; exact w2⟩)
        rw [ec]
        exact ⟨g.1, g.2.1.trans d3'.symm, g.2.2.1, d5'⟩
    · -- a sign
      rw [show (if kd (b s) = 1 then (1 : Int32) else 0) = 0 from if_neg (by rw [hk]; decide), if_pos rfl, fB.1.2.2, show (if kd (b s) = 2 then (1 : Int32) else 0) = 0 from if_neg (by rw [hk]; decide), if_pos rfl, if_pos (fB.2.2.1.mpr hk)] at eR2
      rw [hk] at eP
      have ec : P_X3_step c = J_X3_step_63 (mP (mP c 16 4 (nI s)) 16 5 3) (nI (s + 1)) := by
        rw [eP]
        unfold mBd
        dsimp only
        rw [if_neg (by decide), if_neg (by decide), nI_1]
      refine ⟨_, eR2, ((k1.w rfl).w rfl).w rfl, hS, Or.inl ?_⟩
      rw [ec, st_63g ⟨by show ¬ (3 : Int32) = 5; decide, fun z => absurd (show (3 : Int32) = 2 from z) (by decide)⟩]
      have f := J100_f (mP (mP (mP c 16 4 (nI s)) 16 5 3) 16 3 (nI (s + 1)))
      exact ⟨(f 16 9 rfl).trans h0, (f 16 4 rfl), Or.inr ⟨s, s + 1, by omega, by omega, f 16 4 rfl, f 16 3 rfl, nI_1 s, Or.inr (Or.inr ⟨f 16 5 rfl, rfl⟩)⟩⟩
    · exact absurd hk hk4
    · -- none
      rw [show (if kd (b s) = 1 then (1 : Int32) else 0) = 0 from if_neg (by rw [hk]; decide), if_pos rfl, fB.1.2.2, show (if kd (b s) = 2 then (1 : Int32) else 0) = 0 from if_neg (by rw [hk]; decide), if_pos rfl, if_neg (fun z => by rw [fB.2.2.1.mp z] at hk; exact absurd hk (by decide))] at eR2
      rw [hk] at eP
      have ec : P_X3_step c = J_X3_step_63 (mP (mP c 16 4 (nI s)) 16 5 5) (nI s + 1) := by
        rw [eP]
        unfold mBd
        dsimp only
        rw [if_neg (by decide), if_neg (by decide)]
      refine ⟨_, eR2, ((k1.w rfl).w rfl).w rfl, hS, Or.inr ?_⟩
      have g := st_63 (c := mP (mP c 16 4 (nI s)) 16 5 5) (s1 := nI s + 1) h0 (Or.inl rfl)
      rw [ec]
      exact ⟨g.1, g.2.1, g.2.2.1, rfl⟩
  · -- the end
    have hk : P_X3_kindAt (mP c 16 4 (nI s)) (nI s) = 0 := kindAt_e X1 (by omega) (by omega)
    rw [hk] at eP
    have ec : P_X3_step c = J_X3_step_63 (mP (mP c 16 4 (nI s)) 16 5 0) (nI s + 1) := by
      rw [eP]
      unfold mBd
      dsimp only
      rw [if_neg (by decide), if_neg (by decide)]
    have eR2 : P_X6_ahead r = some (mP (mP r1 20 11 (nI s)) 20 10 0) := by
      rw [eR]
      have eB : B_X6_ahead_0 r1 = .inr (some (mP (mP r1 20 11 (nI s)) 20 10 0)) := by
        unfold B_X6_ahead_0
        rw [r12, byteAt_e X1 (by omega) (by omega)]
        simp only [mBo]
        rw [if_neg (by decide), if_neg (by decide)]
        have e11 : (mP r1 20 11 (nI s)) 20 12 = nI s := r12
        rw [e11, byteAt_e (X1.r (r' := mP r1 20 11 (nI s)) rfl rfl) (by omega) (by omega)]
        simp only [mBo]
        rfl
      rw [eB]
    refine ⟨_, eR2, (k1.w rfl).w rfl, hS, Or.inl ?_⟩
    rw [ec, st_63g ⟨by show ¬ (0 : Int32) = 5; decide, fun z => absurd (show (0 : Int32) = 2 from z) (by decide)⟩]
    have f := J100_f (mP (mP (mP c 16 4 (nI s)) 16 5 0) 16 3 (nI s + 1))
    exact ⟨(f 16 9 rfl).trans h0, f 16 4 rfl, Or.inl ⟨f 16 5 rfl, rfl⟩⟩
