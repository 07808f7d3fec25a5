/-! The two readers side by side: numbers, words, ends of lines, sets -/
/-- what lines were told -/
def Td (t u : Int32) : Prop := ∃ a, a < 16 ∧ t = nI a ∧ u = nI (a % 4 + a / 4 % 2 * 2048 + a / 8 * 4096)
theorem td_all : ∀ a, a < 16 → ((nI a &&& 4 = 0 ↔ P_X6_has (nI (a % 4 + a / 4 % 2 * 2048 + a / 8 * 4096)) 11 = 0) ∧ (nI a &&& 8 = 0 ↔ P_X6_has (nI (a % 4 + a / 4 % 2 * 2048 + a / 8 * 4096)) 12 = 0) ∧ (∀ m, m < 2 → (nI a &&& P_X5_bit (nI m) = 0 ↔ P_X6_has (nI (a % 4 + a / 4 % 2 * 2048 + a / 8 * 4096)) (nI m) = 0))) := by decide +kernel
theorem td_up : ∀ a, a < 16 → (∃ d, d < 16 ∧ nI a ||| 4 = nI d ∧ nI (a % 4 + a / 4 % 2 * 2048 + a / 8 * 4096) ||| ((1 : Int32) <<< ((11 : Int32) &&& 31)) = nI (d % 4 + d / 4 % 2 * 2048 + d / 8 * 4096)) ∧ (∃ d, d < 16 ∧ nI a ||| 8 = nI d ∧ nI (a % 4 + a / 4 % 2 * 2048 + a / 8 * 4096) ||| ((1 : Int32) <<< ((12 : Int32) &&& 31)) = nI (d % 4 + d / 4 % 2 * 2048 + d / 8 * 4096)) ∧ (∀ m, m < 2 → ∃ d, d < 16 ∧ nI a ||| P_X5_bit (nI m) = nI d ∧ nI (a % 4 + a / 4 % 2 * 2048 + a / 8 * 4096) ||| ((1 : Int32) <<< (nI m &&& 31)) = nI (d % 4 + d / 4 % 2 * 2048 + d / 8 * 4096)) := by decide +kernel
/-- the class's fault is the reference's -/
def Fa (c r : mC) : Prop := ¬ c 16 9 = 0 ∧ r 20 14 = c 16 9 ∧ r 20 15 = c 16 10 ∧ r 20 16 = c 16 11 ∧ ¬ r 20 14 ≤ 0
/-- no fault on the reference's side -/
def Z14 (r : mC) : Prop := r 20 14 = 0 ∧ r 20 15 = -1 ∧ r 20 16 = -1
theorem Fa.k {c c' r : mC} (h : Fa c r) (k : Kp sF c c') : Fa c' r := by
  obtain ⟨h1, h2, h3, h4, h5⟩ := h
  unfold Fa
  rw [k 16 9 rfl, k 16 10 rfl, k 16 11 rfl]
  exact ⟨h1, h2, h3, h4, h5⟩
def TS (n : Nat) (b : Nat → Int32) (c r : mC) : Prop := CX n b c r ∧ Z14 r ∧ c 16 7 = r 20 18 ∧ Td (c 16 8) (r 20 19) ∧ ((c 16 9 = 0 ∧ Tok n b c r) ∨ Bad c r (c 16 7))
theorem Tok.p {n : Nat} {b : Nat → Int32} {c r : mC} (T : Tok n b c r) (h : ¬ c 16 5 = 0) : ∃ e, e ≤ n ∧ c 16 3 = nI e ∧ r 20 12 = nI e := by
  rcases T.2 with ⟨z, _⟩ | ⟨s, e, _, he, _, p1, p2, _⟩
  · exact absurd z h
  · exact ⟨e, he, p1, p2⟩
theorem Tok.k {n : Nat} {b : Nat → Int32} {c r : mC} (T : Tok n b c r) : (c 16 5 = 2 ↔ r 20 10 = 3) ∧ (c 16 5 = 3 ↔ r 20 10 = 4) ∧ (c 16 5 = 0 ↔ r 20 10 = 0) ∧ (c 16 5 = 1 ↔ r 20 10 = 2) ∧ ¬ r 20 10 = 1 := by
  rcases T.2 with ⟨z, w⟩ | ⟨s, e, _, he, _, p1, p2, ⟨z, w, _⟩ | ⟨z, w, _⟩ | ⟨z, w⟩⟩ <;> rw [z, w] <;> decide
theorem Tok.n {n : Nat} {b : Nat → Int32} {c r : mC} (T : Tok n b c r) (h : c 16 5 = 2) : ∃ m, m < 1000 ∧ c 16 6 = nI m ∧ r 20 13 = nI m := by
  rcases T.2 with ⟨z, w⟩ | ⟨s, e, _, he, _, p1, p2, ⟨z, w, _⟩ | ⟨z, w, m⟩ | ⟨z, w⟩⟩
  · rw [z] at h; exact absurd h (by decide)
  · rw [z] at h; exact absurd h (by decide)
  · exact m
  · rw [z] at h; exact absurd h (by decide)
theorem sR_o {r r' : mC} (k : Kp sR r r') : ∀ j, j ≠ 20 → r' j = r j := fun j hj => by
  funext q
  refine k j q ?_
  unfold sR
  rw [show Nat.beq j 20 = false from by
    cases z : Nat.beq j 20 with
    | false => rfl
    | true => exact absurd (Nat.eq_of_beq_eq_true z) hj]
  rfl
theorem ts_step {n : Nat} {b : Nat → Int32} {c r : mC} (X : CX n b c r) (h14 : Z14 r) (h7 : c 16 7 = r 20 18) (h8 : Td (c 16 8) (r 20 19)) (h0 : c 16 9 = 0) {e : Nat} (he : e ≤ n) (p1 : c 16 3 = nI e) (p2 : r 20 12 = nI e) : ∃ r', P_X6_ahead r = some r' ∧ TS n b (P_X3_step c) r' ∧ Kp sR r r' := by
  obtain ⟨r', a1, a2, a3, a4⟩ := adv X he p1 p2 h0
  have c7 : P_X3_step c 16 7 = c 16 7 := a3 16 7 rfl
  refine ⟨r', a1, ⟨(X.c (a3 16 2 rfl) (funext (fun k => a3 19 k rfl))).r (a2 20 9 rfl) (funext (fun k => a2 23 k rfl)), ⟨(a2 20 14 rfl).trans h14.1, (a2 20 15 rfl).trans h14.2.1, (a2 20 16 rfl).trans h14.2.2⟩, ?_, ?_, ?_⟩, a2⟩
  · rw [c7, a2 20 18 rfl]; exact h7
  · rw [a3 16 8 rfl, a2 20 19 rfl]; exact h8
  · rw [c7]; exact a4
theorem fl_t {c r : mC} {x : Int32} (h14 : Z14 r) (h7 : c 16 7 = r 20 18) (h0 : c 16 9 = 0) (h4 : c 16 4 = r 20 11) (h10 : ¬ r 20 10 = 1) (hx : ¬ x ≤ 0) : ok (fun p : Int32 × mC => p.1 = 0 ∧ Fa (P_X3_fail c x) p.2) (P_X6_fails r x) := by
  unfold P_X6_fails
  rw [if_pos h14.1, if_neg h10]
  refine ok_s ⟨rfl, ?_⟩
  rw [fail_0 h0]
  exact ⟨fun z => hx (show x ≤ 0 by rw [show x = 0 from z]; decide), rfl, h4.symm, h7.symm, hx⟩
theorem fl_b {c r : mC} {x : Int32} (h14 : Z14 r) (h7 : c 16 7 = r 20 18) (B : Bad c r (c 16 7)) : ok (fun p : Int32 × mC => p.1 = 0 ∧ Fa c p.2) (P_X6_fails r x) := by
  obtain ⟨b1, b2, b3, b4⟩ := B
  unfold P_X6_fails
  rw [if_pos h14.1, if_pos b4]
  refine ok_s ⟨rfl, ?_, b1.symm, b2.symm, ?_, (by decide : ¬ (1 : Int32) ≤ 0)⟩
  · rw [b1]; decide
  · show r 20 18 = c 16 11
    rw [b3, h7]
theorem isF_or {x a b : Int32} : P_X6_isFrom x a b = 0 ↔ (x < a ∨ b < x) := by
  unfold P_X6_isFrom J_X6_isFrom_14
  by_cases q : x < a
  · rw [if_pos q]; exact ⟨fun _ => Or.inl q, fun _ => rfl⟩
  · rw [if_neg q]
    by_cases q2 : b < x
    · rw [if_pos q2]; exact ⟨fun _ => Or.inr q2, fun _ => rfl⟩
    · rw [if_neg q2]
      exact ⟨fun z => absurd z (by decide), fun z => z.elim (fun z => absurd z q) (fun z => absurd z q2)⟩
/-- a good end of a row of the reader, or a fault on both sides -/
def Rs (n : Nat) (b : Nat → Int32) (c' r : mC) (p : Int32 × mC) : Prop := (p.1 = 1 ∧ TS n b c' p.2 ∧ ∀ j, j ≠ 20 → p.2 j = r j) ∨ (p.1 = 0 ∧ Fa c' p.2)
/-- the same, with the number that was taken -/
def Rn (n : Nat) (b : Nat → Int32) (q : Int32 × mC) (r : mC) (P : Int32 → Prop) (p : Int32 × mC) : Prop := (p.1 = 1 ∧ TS n b q.2 p.2 ∧ (∀ j, j ≠ 20 → p.2 j = r j) ∧ p.2 20 20 = q.1 ∧ P q.1) ∨ (p.1 = 0 ∧ Fa q.2 p.2)
theorem num_eq {n : Nat} {b : Nat → Int32} {c r : mC} (h : TS n b c r) (lo hi : Int32) : ok (Rn n b (P_X3_takeNumber c lo hi) r (fun v => ¬ P_X6_isFrom v lo hi = 0)) (P_X6_takesNumber r lo hi) := by
  obtain ⟨X, h14, h7, h8, ht⟩ := h
  rcases ht with ⟨h0, T⟩ | B
  · by_cases k : c 16 5 = 2
    · obtain ⟨m, hm, e6, e13⟩ := T.n k
      obtain ⟨e, he, p3, p12⟩ := T.p (by rw [k]; decide)
      unfold P_X6_takesNumber
      rw [if_pos (T.k.1.mp k)]
      refine ok_bd (fun v1 e1 => ok_if (fun q => ?_) (fun q => ?_))
      · have q' := isF_or.mp (e1.trans q)
        rw [e13] at q'
        have ec : P_X3_takeNumber c lo hi = (0, P_X3_fail c 4) := by
          unfold P_X3_takeNumber
          rw [if_pos h0, if_pos k, e6]
          by_cases z : nI m < lo
          · rw [if_pos z]; rfl
          · rw [if_neg z, if_neg (Int32.not_le.mpr (q'.resolve_left z))]; rfl
        rw [ec]
        exact ok_bo (fl_t (x := 4) h14 h7 h0 T.1 T.k.2.2.2.2 (by decide)) (fun p z => ok_s (Or.inr ⟨z.1, z.2⟩))
      · have q1 : ¬ P_X6_isFrom (nI m) lo hi = 0 := fun z => q (e1.symm.trans (by rw [e13]; exact z))
        have q' : ¬ (nI m < lo ∨ hi < nI m) := fun z => q1 (isF_or.mpr z)
        have ec : P_X3_takeNumber c lo hi = (nI m, P_X3_step c) := by
          unfold P_X3_takeNumber
          rw [if_pos h0, if_pos k, e6, if_neg (fun z => q' (Or.inl z)), if_pos (Int32.not_lt.mp (fun z => q' (Or.inr z)))]
          rfl
        obtain ⟨r', a1, a2, a3⟩ := ts_step (c := c) (r := mP r 20 20 (r 20 13)) (X.r rfl rfl) h14 h7 h8 h0 he p3 p12
        rw [ec]
        unfold P_X6_takes
        rw [a1]
        refine ok_s (Or.inl ⟨rfl, a2, fun j hj => ?_, ?_, q1⟩)
        · show r' j = r j
          rw [sR_o a3 j hj, mP_other _ _ _ _ _ hj]
        · show r' 20 20 = nI m
          rw [a3 20 20 rfl]
          exact e13
    · have ec : P_X3_takeNumber c lo hi = (0, P_X3_fail c 2) := by
        unfold P_X3_takeNumber
        rw [if_pos h0, if_neg k]
        rfl
      unfold P_X6_takesNumber
      rw [ec, if_neg (fun z => k (T.k.1.mpr z))]
      exact ok_bo (fl_t (x := 2) h14 h7 h0 T.1 T.k.2.2.2.2 (by decide)) (fun p z => ok_s (Or.inr ⟨z.1, z.2⟩))
  · have ec : P_X3_takeNumber c lo hi = (0, c) := by
      unfold P_X3_takeNumber
      rw [if_neg (by rw [B.1]; decide)]
    unfold P_X6_takesNumber
    rw [ec, if_neg (by rw [B.2.2.2]; decide)]
    exact ok_bo (fl_b (x := 2) h14 h7 B) (fun p z => ok_s (Or.inr ⟨z.1, z.2⟩))
theorem word_tk {n : Nat} {b : Nat → Int32} {c r : mC} (h : TS n b c r) {i : Nat} (hi : i < 17) : ok (Rs n b (P_X3_takeWord (wd i) c) r) (P_X6_takesWord r (nI i)) := by
  obtain ⟨X, h14, h7, h8, ht⟩ := h
  rcases ht with ⟨h0, T⟩ | B
  · obtain ⟨v, ev, hv, hk, hw⟩ := key_eq X T
    unfold P_X6_takesWord P_X3_takeWord mBd
    rw [ev, if_pos h0, hw i hi]
    refine ok_if (fun q => ?_) (fun q => ?_)
    · have k1 : c 16 5 = 1 := hk.resolve_left (fun z => by
        rw [q] at z
        have : ¬ nI i < 0 := nI_pos (by omega)
        rw [z] at this; exact this (by decide))
      obtain ⟨e, he, p3, p12⟩ := T.p (by rw [k1]; decide)
      obtain ⟨r', a1, a2, a3⟩ := ts_step X h14 h7 h8 h0 he p3 p12
      rw [if_pos q]
      dsimp only
      rw [if_neg (by decide)]
      unfold P_X6_takes
      rw [a1]
      exact ok_s (Or.inl ⟨rfl, a2, sR_o a3⟩)
    · rw [if_neg q]
      dsimp only
      rw [if_pos rfl]
      exact ok_bo (fl_t (x := 2) h14 h7 h0 T.1 T.k.2.2.2.2 (by decide)) (fun p z => ok_s (Or.inr ⟨z.1, z.2⟩))
  · have ek : P_X6_key r = some (-1) := by
      unfold P_X6_key
      rw [if_neg (by rw [B.2.2.2]; decide)]
    unfold P_X6_takesWord P_X3_takeWord
    rw [ek, if_neg (show ¬ c 16 9 = 0 by rw [B.1]; decide)]
    refine ok_if (fun q => ?_) (fun q => ?_)
    · exfalso
      have : ¬ nI i < 0 := nI_pos (by omega)
      rw [← q] at this; exact this (by decide)
    · exact ok_bo (fl_b (x := 2) h14 h7 B) (fun p z => ok_s (Or.inr ⟨z.1, z.2⟩))
theorem end_eq {n : Nat} {b : Nat → Int32} {c r : mC} (h : TS n b c r) : ok (Rs n b (P_X3_endLine c) r) (J_X6_aLine_56 r 1) := by
  obtain ⟨X, h14, h7, h8, ht⟩ := h
  unfold J_X6_aLine_56
  rw [if_neg (by decide)]
  rcases ht with ⟨h0, T⟩ | B
  · unfold P_X3_endLine mBd
    rw [if_pos h0]
    by_cases k : c 16 5 = 3
    · obtain ⟨e, he, p3, p12⟩ := T.p (by rw [k]; decide)
      have h7' : (mP c 16 7 (c 16 7 + 1)) 16 7 = (mP r 20 18 (r 20 18 + 1)) 20 18 := by
        show c 16 7 + 1 = r 20 18 + 1
        rw [h7]
      obtain ⟨r', a1, a2, a3⟩ := ts_step (c := mP c 16 7 (c 16 7 + 1)) (r := mP r 20 18 (r 20 18 + 1)) ((X.c rfl rfl).r rfl rfl) h14 h7' h8 h0 he p3 p12
      rw [if_pos k, if_pos (T.k.2.1.mp k)]
      unfold P_X6_takes
      rw [a1]
      refine ok_s (Or.inl ⟨rfl, a2, fun j hj => ?_⟩)
      show r' j = r j
      rw [sR_o a3 j hj, mP_other _ _ _ _ _ hj]
    · rw [if_neg k, if_neg (fun z => k (T.k.2.1.mpr z))]
      exact ok_bo (fl_t (x := 2) h14 h7 h0 T.1 T.k.2.2.2.2 (by decide)) (fun p z => ok_s (Or.inr ⟨z.1, z.2⟩))
  · have ec : P_X3_endLine c = c := by
      unfold P_X3_endLine
      rw [if_neg (show ¬ c 16 9 = 0 by rw [B.1]; decide)]
    rw [ec, if_neg (by rw [B.2.2.2]; decide)]
    exact ok_bo (fl_b (x := 2) h14 h7 B) (fun p z => ok_s (Or.inr ⟨z.1, z.2⟩))
-- foes
def fo (R S : Nat → Int32) (p q : Nat) : Bool := decide (¬ p = q) && (decide (R p = R q) || decide (¬ S p = S q))
def FO (R S : Nat → Int32) (p : Nat) : Nat → Int32
  | 0 => 0
  | m + 1 => FO R S p m ||| (if fo R S p m = true then (1 : Int32) <<< (nI m &&& 31) else 0)
theorem FO_s (R S : Nat → Int32) (p m : Nat) : FO R S p (m + 1) = FO R S p m ||| (if fo R S p m = true then (1 : Int32) <<< (nI m &&& 31) else 0) := rfl
theorem FO_c {R S R' S' : Nat → Int32} {p N : Nat} (hp : R p = R' p ∧ S p = S' p) (h : ∀ q, q < N → R q = R' q ∧ S q = S' q) : ∀ m, m ≤ N → FO R S p m = FO R' S' p m := by
  intro m
  induction m with
  | zero => intro _; rfl
  | succ m ih =>
    intro hm
    rw [FO_s, FO_s, ih (by omega)]
    have : fo R S p m = fo R' S' p m := by
      unfold fo
      rw [hp.1, hp.2, (h m (by omega)).1, (h m (by omega)).2]
    rw [this]
/-- what the plan holds, on both sides: f is the reference's block -/
def PX (N : Nat) (c : mC) (f : Nat → Int32) : Prop := N ≤ 8 ∧ (∀ p, p < N → c 2 p = f (32 + 18 * p) ∧ c 3 p = f (32 + 18 * p + 1) ∧ ∀ k, k < 10 → c 5 (p * 10 + k) = f (32 + 18 * p + 2 + k)) ∧ (∀ p, p < N → c 4 p = FO (c 2) (c 3) p N) ∧ (∀ p, N ≤ p → p < 8 → c 4 p = 0) ∧ c 1 1 = f 2 ∧ c 1 2 = f 3 ∧ ∀ w, w < 10 → c 6 w = f (176 + w)
def PE (c : mC) (f : Nat → Int32) : Prop := ∃ N, PX N c f ∧ c 1 0 = nI N ∧ f 0 = nI N
theorem areFoes_n {r : mC} {p q : Nat} (hp : p < 8) (hq : q < 8) : P_X6_areFoes r (nI p) (nI q) = some (if fo (fun p => r 21 (32 + 18 * p)) (fun p => r 21 (32 + 18 * p + 1)) p q = true then 1 else 0) := by
  have e0 : ∀ p, p < 8 → P_X6_ofPhase r (nI p) 0 = some (r 21 (32 + 18 * p)) := fun p hp => ofP_n (w := 0) hp (by decide)
  have e1 : ∀ p, p < 8 → P_X6_ofPhase r (nI p) 1 = some (r 21 (32 + 18 * p + 1)) := fun p hp => ofP_n (w := 1) hp (by decide)
  unfold P_X6_areFoes J_X6_areFoes_39 J_X6_areFoes_35 fo
  by_cases z : p = q
  · rw [if_pos (by rw [z]), decide_eq_false (fun y => y z), Bool.false_and]
    rfl
  · rw [if_neg (fun y => z (nI_j (by omega) (by omega) y)), decide_eq_true z, Bool.true_and, e0 p hp, e0 q hq]
    simp only [mBo]
    by_cases w : r 21 (32 + 18 * p) = r 21 (32 + 18 * q)
    · rw [if_pos w, decide_eq_true w, Bool.true_or]
      rfl
    · rw [if_neg w, decide_eq_false w, Bool.false_or, e1 p hp, e1 q hq]
      simp only [mBo]
      by_cases y : r 21 (32 + 18 * p + 1) = r 21 (32 + 18 * q + 1)
      · rw [if_pos y, decide_eq_false (fun z => z y)]
        rfl
      · rw [if_neg y, decide_eq_true y]
        rfl
theorem foesOf_n {r : mC} {p N : Nat} (hp : p < 8) (hN : N ≤ 8) (e : r 21 0 = nI N) : P_X6_foesOf r (nI p) = some (FO (fun p => r 21 (32 + 18 * p)) (fun p => r 21 (32 + 18 * p + 1)) p N) := by
  have key : ∀ m q, q + m = N → mWh none (B_X6_foesOf_4 r (nI p)) (FO (fun p => r 21 (32 + 18 * p)) (fun p => r 21 (32 + 18 * p + 1)) p q, nI q) = some (FO (fun p => r 21 (32 + 18 * p)) (fun p => r 21 (32 + 18 * p + 1)) p N) := by
    intro m
    induction m with
    | zero =>
      intro q hq
      have e2 : q = N := by omega
      subst e2
      rw [mWh_eq tm_X6_foesOf_4]
      have eB : B_X6_foesOf_4 r (nI p) (FO (fun p => r 21 (32 + 18 * p)) (fun p => r 21 (32 + 18 * p + 1)) p q, nI q) = .inr (some (FO (fun p => r 21 (32 + 18 * p)) (fun p => r 21 (32 + 18 * p + 1)) p q)) := by
        unfold B_X6_foesOf_4
        dsimp only
        rw [show P_X6_of r 0 = some (r 21 0) from of_n (k := 0) (by decide), e]
        simp only [mBo]
        rw [if_pos (Int32.le_refl _)]
      rw [eB]
    | succ m ih =>
      intro q hq
      rw [mWh_eq tm_X6_foesOf_4]
      have eB : B_X6_foesOf_4 r (nI p) (FO (fun p => r 21 (32 + 18 * p)) (fun p => r 21 (32 + 18 * p + 1)) p q, nI q) = .inl (FO (fun p => r 21 (32 + 18 * p)) (fun p => r 21 (32 + 18 * p + 1)) p (q + 1), nI (q + 1)) := by
        unfold B_X6_foesOf_4 J_X6_foesOf_30
        dsimp only
        rw [show P_X6_of r 0 = some (r 21 0) from of_n (k := 0) (by decide), e]
        simp only [mBo]
        rw [if_neg (fun z => by have := (nI_leI (by omega) (by omega)).mp z; omega), areFoes_n hp (by omega)]
        simp only [mBo]
        rw [FO_s, nI_1]
        by_cases w : fo (fun p => r 21 (32 + 18 * p)) (fun p => r 21 (32 + 18 * p + 1)) p q = true
        · rw [if_pos w, if_pos w, if_neg (by decide)]
        · rw [if_neg w, if_neg w, if_pos rfl]
      rw [eB]
      exact ih (q + 1) (by omega)
  exact key N 0 (by omega)
theorem and1 (x : Int32) : x &&& 1 = 0 ∨ x &&& 1 = 1 := by
  have h : ∀ y : UInt32, y &&& 1 = 0 ∨ y &&& 1 = 1 := by
    intro y
    have h1 : (y &&& 1).toNat = y.toNat % 2 := by rw [UInt32.toNat_and]; exact Nat.and_one_is_mod _
    have h2 : y.toNat % 2 = 0 ∨ y.toNat % 2 = 1 := by omega
    rcases h2 with h2 | h2
    · left; exact UInt32.toNat_inj.mp (by rw [h1, h2]; rfl)
    · right; exact UInt32.toNat_inj.mp (by rw [h1, h2]; rfl)
  rcases h x.toUInt32 with z | z
  · left; exact (show x &&& 1 = Int32.ofUInt32 (x.toUInt32 &&& 1) from rfl).trans (congrArg Int32.ofUInt32 z)
  · right; exact (show x &&& 1 = Int32.ofUInt32 (x.toUInt32 &&& 1) from rfl).trans (congrArg Int32.ofUInt32 z)
theorem inSet_n {x : Int32} {p : Nat} (hp : p < 8) : P_X5_inSet x (nI p) = P_X6_has x (nI p) := by
  unfold P_X5_inSet P_X6_has J_X5_inSet_22
  rw [if_neg (nI_pos (by omega)), if_neg (show ¬ (8 : Int32) ≤ nI p from nI_ge (a := p) (b := 8) (by omega) (by decide))]
  rcases and1 (x >>> (nI p &&& 31)) with z | z
  · rw [if_pos z, z, if_neg (by decide)]
  · rw [if_neg (by rw [z]; decide), if_pos z]
theorem foes_c {N : Nat} {c : mC} {f : Nat → Int32} (h : PX N c f) {p : Nat} (hp : p < N) : P_X2_foesOf c (nI p) = FO (fun p => f (32 + 18 * p)) (fun p => f (32 + 18 * p + 1)) p N := by
  obtain ⟨hN, h2, h3, _⟩ := h
  have e : P_X2_foesOf c (nI p) = c 4 p := by
    show cl 8 (c 4) (nI p) = _
    unfold cl
    rw [if_neg (nI_in (by omega) (by decide)), nI_clamp (by omega)]
  rw [e, h3 p hp]
  exact FO_c ⟨(h2 p hp).1, (h2 p hp).2.1⟩ (fun q hq => ⟨(h2 q hq).1, (h2 q hq).2.1⟩) N (Nat.le_refl _)
theorem peace_eq {c r : mC} (h : PE c (r 21)) (x : Int32) : P_X6_isPeace r x = some (if P_X2_holdsFoes c x = 0 then 1 else 0) := by
  obtain ⟨N, hx, e1, e2⟩ := h
  have hN := hx.1
  have key : ∀ m p, p + m = N → (mWh 0 (B_X2_firstWithFoe_2 c x) (nI p) = -1 ∧ mWh none (B_X6_isPeace_2 r x) (nI p) = some 1) ∨ (¬ mWh 0 (B_X2_firstWithFoe_2 c x) (nI p) = -1 ∧ mWh none (B_X6_isPeace_2 r x) (nI p) = some 0) := by
    intro m
    induction m with
    | zero =>
      intro p hp
      left
      have e : p = N := by omega
      subst e
      rw [mWh_eq tm_X2_firstWithFoe_2, mWh_eq tm_X6_isPeace_2]
      have eB : B_X2_firstWithFoe_2 c x (nI p) = .inr (-1) := by
        unfold B_X2_firstWithFoe_2
        rw [e1, if_pos (Int32.le_refl _)]
      have eB2 : B_X6_isPeace_2 r x (nI p) = .inr (some 1) := by
        unfold B_X6_isPeace_2
        rw [show P_X6_of r 0 = some (r 21 0) from of_n (k := 0) (by decide), e2]
        simp only [mBo]
        rw [if_pos (Int32.le_refl _)]
      rw [eB, eB2]
      exact ⟨rfl, rfl⟩
    | succ m ih =>
      intro p hp
      have hlt : p < N := by omega
      rw [mWh_eq tm_X2_firstWithFoe_2, mWh_eq tm_X6_isPeace_2]
      have nl : ¬ nI N ≤ nI p := fun z => by have := (nI_leI (by omega) (by omega)).mp z; omega
      have eB : B_X2_firstWithFoe_2 c x (nI p) = if P_X6_has x (nI p) = 0 then .inl (nI (p + 1)) else if (FO (fun p => r 21 (32 + 18 * p)) (fun p => r 21 (32 + 18 * p + 1)) p N) &&& x = 0 then .inl (nI (p + 1)) else .inr (nI p) := by
        unfold B_X2_firstWithFoe_2 mBd J_X2_firstWithFoe_30
        dsimp only
        rw [e1, if_neg nl, inSet_n (by omega), foes_c hx hlt, nI_1]
      have eB2 : B_X6_isPeace_2 r x (nI p) = if P_X6_has x (nI p) = 0 then .inl (nI (p + 1)) else if (FO (fun p => r 21 (32 + 18 * p)) (fun p => r 21 (32 + 18 * p + 1)) p N) &&& x = 0 then .inl (nI (p + 1)) else .inr (some 0) := by
        unfold B_X6_isPeace_2 mBd J_X6_isPeace_31
        dsimp only
        rw [show P_X6_of r 0 = some (r 21 0) from of_n (k := 0) (by decide), e2]
        simp only [mBo]
        rw [if_neg nl, foesOf_n (by omega) hN e2, nI_1]
      rw [eB, eB2]
      by_cases z : P_X6_has x (nI p) = 0
      · rw [if_pos z, if_pos z]; exact ih (p + 1) (by omega)
      · rw [if_neg z, if_neg z]
        by_cases w : (FO (fun p => r 21 (32 + 18 * p)) (fun p => r 21 (32 + 18 * p + 1)) p N) &&& x = 0
        · rw [if_pos w, if_pos w]; exact ih (p + 1) (by omega)
        · rw [if_neg w, if_neg w]
          right
          refine ⟨fun y => ?_, rfl⟩
          have : ¬ nI p < 0 := nI_pos (by omega)
          rw [show nI p = -1 from y] at this
          exact this (by decide)
  have e : P_X2_holdsFoes c x = if P_X2_firstWithFoe c x = -1 then 0 else 1 := rfl
  rcases key N 0 (by omega) with ⟨a, d⟩ | ⟨a, d⟩
  · have e3 : P_X2_holdsFoes c x = 0 := by rw [e, if_pos (show P_X2_firstWithFoe c x = -1 from a)]
    rw [e3, if_pos rfl]
    exact d
  · have e3 : P_X2_holdsFoes c x = 1 := by rw [e, if_neg (show ¬ P_X2_firstWithFoe c x = -1 from a)]
    rw [e3, if_neg (by decide)]
    exact d
theorem all_n : ∀ N, N < 9 → ∀ m, m < 1000 → ((nI m >>> (nI N &&& 31) = 0) ↔ ¬ (((1 : Int32) <<< (nI N &&& 31)) - 1 < nI m)) ∧ (nI m >>> (nI N &&& 31) = 0 → m ≤ 255) := by decide +kernel
theorem set_eq {n : Nat} {b : Nat → Int32} {c r : mC} (h : TS n b c r) (hp : PE c (r 21)) : ok (Rn n b (P_X3_takeSet c) r (fun _ => True)) (P_X6_aSet r) := by
  obtain ⟨N, hx, e1, e2⟩ := id hp
  obtain ⟨X, h14, h7, h8, ht⟩ := id h
  rcases ht with ⟨h0, T⟩ | B
  · by_cases k : c 16 5 = 2
    · obtain ⟨m, hm, e6, e13⟩ := T.n k
      obtain ⟨e, he, p3, p12⟩ := T.p (by rw [k]; decide)
      have a0 := all_n N (by have := hx.1; omega) m hm
      have eA : P_X2_hasAll c (nI m) = if nI m >>> (nI N &&& 31) = 0 then 1 else 0 := by
        unfold P_X2_hasAll J_X2_hasAll_16 P_X2_allSet mBd
        dsimp only
        rw [if_neg (nI_pos (by omega)), e1]
        by_cases z : nI m >>> (nI N &&& 31) = 0
        · rw [if_pos z, if_neg (a0.1.mp z)]
        · rw [if_neg z, if_pos (Decidable.not_not.mp (fun y => z (a0.1.mpr y)))]
      -- a fault here: takeNumber leaves it
      have tf : ∀ c2 : mC, ¬ c2 16 9 = 0 → J_X3_takeSet_56 c2 = (0, c2) := fun c2 h2 => by
        unfold J_X3_takeSet_56 P_X3_takeNumber mBd
        rw [if_neg h2]
      have ff : ∀ x : Int32, ¬ x = 0 → ¬ (P_X3_fail c x) 16 9 = 0 := fun x hx => by
        rw [fail_0 h0]; exact hx
      unfold P_X6_aSet P_X3_takeSet mBd
      dsimp only
      rw [if_pos (T.k.1.mp k), if_pos h0, if_pos k, e6, eA, show P_X6_of r 0 = some (r 21 0) from of_n (k := 0) (by decide), e2, e13]
      simp only [mBo]
      refine ok_if (fun q => ?_) (fun q => ?_)
      · rw [if_pos q, if_neg (show ¬ (1 : Int32) = 0 by decide), peace_eq hp]
        by_cases w : P_X2_holdsFoes c (nI m) = 0
        · rw [if_pos w, if_pos w]
          dsimp only
          rw [if_neg (by decide)]
          have ec : J_X3_takeSet_56 c = (nI m, P_X3_step c) := by
            have hm2 := a0.2 q
            unfold J_X3_takeSet_56 P_X3_takeNumber mBd
            rw [if_pos h0, if_pos k, e6, if_neg (nI_pos (by omega)), if_pos (show nI m ≤ 255 from (nI_leI (b := 255) (by omega) (by decide)).mpr hm2)]
          obtain ⟨r', a1, a2, a3⟩ := ts_step (c := c) (r := mP r 20 20 (r 20 13)) (X.r rfl rfl) h14 h7 h8 h0 he p3 p12
          rw [e13] at a1 a3
          rw [ec]
          unfold P_X6_takes
          rw [a1]
          refine ok_s (Or.inl ⟨rfl, a2, fun j hj => ?_, ?_, trivial⟩)
          · show r' j = r j
            rw [sR_o a3 j hj, mP_other _ _ _ _ _ hj]
          · show r' 20 20 = nI m
            rw [a3 20 20 rfl]; rfl
        · rw [if_neg w, if_neg w]
          dsimp only
          rw [if_pos rfl, tf _ (ff 4 (by decide))]
          exact ok_bo (fl_t (x := 4) h14 h7 h0 T.1 T.k.2.2.2.2 (by decide)) (fun p z => ok_s (Or.inr ⟨z.1, z.2⟩))
      · rw [if_neg q, if_pos rfl, tf _ (ff 3 (by decide))]
        exact ok_bo (fl_t (x := 3) h14 h7 h0 T.1 T.k.2.2.2.2 (by decide)) (fun p z => ok_s (Or.inr ⟨z.1, z.2⟩))
    · have ec : P_X3_takeSet c = (0, P_X3_fail c 2) := by
        unfold P_X3_takeSet J_X3_takeSet_56 P_X3_takeNumber mBd
        simp only [if_pos h0, if_neg k]
      unfold P_X6_aSet
      rw [ec, if_neg (fun z => k (T.k.1.mpr z))]
      exact ok_bo (fl_t (x := 2) h14 h7 h0 T.1 T.k.2.2.2.2 (by decide)) (fun p z => ok_s (Or.inr ⟨z.1, z.2⟩))
  · have ec : P_X3_takeSet c = (0, c) := by
      have h9 : ¬ c 16 9 = 0 := by rw [B.1]; decide
      unfold P_X3_takeSet J_X3_takeSet_56 P_X3_takeNumber mBd
      simp only [if_neg h9]
    unfold P_X6_aSet
    rw [ec, if_neg (by rw [B.2.2.2]; decide)]
    exact ok_bo (fl_b (x := 2) h14 h7 B) (fun p z => ok_s (Or.inr ⟨z.1, z.2⟩))
