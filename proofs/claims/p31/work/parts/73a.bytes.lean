/-! The two readers side by side: bytes, tokens -/
theorem mP_id {c : mC} {j k : Nat} {v : Int32} (h : c j k = v) : mP c j k v = c := by
  funext j' k'
  unfold mP
  by_cases z : j' = j ∧ k' = k
  · rw [if_pos z, z.1, z.2, h]
  · rw [if_neg z]
theorem mP_mP (c : mC) (j k : Nat) (v w : Int32) : mP (mP c j k v) j k w = mP c j k w := by
  funext j' k'
  unfold mP
  by_cases z : j' = j ∧ k' = k
  · rw [if_pos z, if_pos z]
  · rw [if_neg z, if_neg z, if_neg z]
def k58 (v : Int32) : Int32 := if v = 10 then 4 else (if v = 32 then 4 else (if v = 59 then 3 else 5))
def k44 (v : Int32) : Int32 := if v < 48 then k58 v else (if 57 < v then k58 v else 2)
/-- the kind of a sign -/
def kd (v : Int32) : Int32 := if v < 97 then k44 v else (if 122 < v then k44 v else 1)
def isB (v : Int32) : Prop := ∃ w : Int8, v = w.toInt32
theorem byte_all : ∀ k : Fin 256, (((((⟨⟨⟨k⟩⟩⟩ : Int8).toInt32 &&& 255) = 32 ∨ ((⟨⟨⟨k⟩⟩⟩ : Int8).toInt32 &&& 255) = 10) ↔ kd (⟨⟨⟨k⟩⟩⟩ : Int8).toInt32 = 4) ∧ (P_X6_isSmall ((⟨⟨⟨k⟩⟩⟩ : Int8).toInt32 &&& 255) = if kd (⟨⟨⟨k⟩⟩⟩ : Int8).toInt32 = 1 then 1 else 0) ∧ (P_X6_isDigit ((⟨⟨⟨k⟩⟩⟩ : Int8).toInt32 &&& 255) = if kd (⟨⟨⟨k⟩⟩⟩ : Int8).toInt32 = 2 then 1 else 0)) ∧ (((⟨⟨⟨k⟩⟩⟩ : Int8).toInt32 &&& 255) ≠ -1) ∧ (((⟨⟨⟨k⟩⟩⟩ : Int8).toInt32 &&& 255) = 59 ↔ kd (⟨⟨⟨k⟩⟩⟩ : Int8).toInt32 = 3) ∧ ((kd (⟨⟨⟨k⟩⟩⟩ : Int8).toInt32 = 2 ∨ kd (⟨⟨⟨k⟩⟩⟩ : Int8).toInt32 = 1) → ((⟨⟨⟨k⟩⟩⟩ : Int8).toInt32 &&& 255) = (⟨⟨⟨k⟩⟩⟩ : Int8).toInt32) ∧ (kd (⟨⟨⟨k⟩⟩⟩ : Int8).toInt32 = 2 → 48 ≤ (⟨⟨⟨k⟩⟩⟩ : Int8).toInt32 ∧ (⟨⟨⟨k⟩⟩⟩ : Int8).toInt32 ≤ 57) := by decide +kernel
theorem isB.f {v : Int32} (h : isB v) : (((v &&& 255 = 32 ∨ v &&& 255 = 10) ↔ kd v = 4) ∧ (P_X6_isSmall (v &&& 255) = if kd v = 1 then 1 else 0) ∧ (P_X6_isDigit (v &&& 255) = if kd v = 2 then 1 else 0)) ∧ (v &&& 255 ≠ -1) ∧ (v &&& 255 = 59 ↔ kd v = 3) ∧ ((kd v = 2 ∨ kd v = 1) → v &&& 255 = v) ∧ (kd v = 2 → 48 ≤ v ∧ v ≤ 57) := by
  obtain ⟨⟨⟨⟨k⟩⟩⟩, rfl⟩ := h
  exact byte_all k
/-- the text: n bytes b, on both sides -/
def CX (n : Nat) (b : Nat → Int32) (c r : mC) : Prop := n ≤ 700 ∧ c 16 2 = nI n ∧ r 20 9 = nI n ∧ ∀ k, k < n → c 19 k = b k ∧ r 23 k = b k ∧ isB (b k)
theorem kindAt_n {n : Nat} {b : Nat → Int32} {c r : mC} (X : CX n b c r) {q : Nat} (hq : q < n) : P_X3_kindAt c (nI q) = kd (b q) := by
  obtain ⟨hn, e1, _, h⟩ := X
  unfold P_X3_kindAt
  rw [if_neg (nI_pos (by omega)), e1, if_neg (fun z => by have := (nI_leI (by omega) (by omega)).mp z; omega), if_pos (show nI q < 700 from (nI_ltI (b := 700) (by omega) (by decide)).mpr (by omega)), nI_clamp (by omega), (h q hq).1]
  rfl
theorem kindAt_e {n : Nat} {b : Nat → Int32} {c r : mC} (X : CX n b c r) {q : Nat} (hq : n ≤ q) (h2 : q ≤ 1000) : P_X3_kindAt c (nI q) = 0 := by
  obtain ⟨hn, e1, _, h⟩ := X
  unfold P_X3_kindAt
  rw [if_neg (nI_pos (by omega)), e1, if_pos ((nI_leI (by omega) (by omega)).mpr hq)]
  rfl
theorem byteAt_n {n : Nat} {b : Nat → Int32} {c r : mC} (X : CX n b c r) {q : Nat} (hq : q < n) : P_X6_byteAt r (nI q) = some (b q &&& 255) := by
  obtain ⟨hn, _, e1, h⟩ := X
  unfold P_X6_byteAt
  rw [e1, if_neg (fun z => by have := (nI_leI (by omega) (by omega)).mp z; omega), if_neg (nI_in (by omega) (by decide)), nI_clamp (by omega), (h q hq).2.1]
theorem byteAt_e {n : Nat} {b : Nat → Int32} {c r : mC} (X : CX n b c r) {q : Nat} (hq : n ≤ q) (h2 : q ≤ 1000) : P_X6_byteAt r (nI q) = some (-1) := by
  obtain ⟨hn, _, e1, h⟩ := X
  unfold P_X6_byteAt
  rw [e1, if_pos ((nI_leI (by omega) (by omega)).mpr hq)]
theorem CX.c {n : Nat} {b : Nat → Int32} {c c' r : mC} (X : CX n b c r) (h2 : c' 16 2 = c 16 2) (h : c' 19 = c 19) : CX n b c' r := by
  obtain ⟨hn, e1, e2, h3⟩ := X
  exact ⟨hn, h2.trans e1, e2, by rw [h]; exact h3⟩
theorem CX.r {n : Nat} {b : Nat → Int32} {c r r' : mC} (X : CX n b c r) (h2 : r' 20 9 = r 20 9) (h : r' 23 = r 23) : CX n b c r' := by
  obtain ⟨hn, e1, e2, h3⟩ := X
  exact ⟨hn, e1, h2.trans e2, by rw [h]; exact h3⟩
/-- the first place from q on (m bytes are left) whose sign isn't of the kind k -/
def nx (b : Nat → Int32) (k : Int32) : Nat → Nat → Nat
  | 0, q => q
  | m + 1, q => if kd (b q) = k then nx b k m (q + 1) else q
theorem nx_0 (b : Nat → Int32) (k : Int32) (q : Nat) : nx b k 0 q = q := rfl
theorem nx_s (b : Nat → Int32) (k : Int32) (m q : Nat) : nx b k (m + 1) q = if kd (b q) = k then nx b k m (q + 1) else q := rfl
theorem nx_le (b : Nat → Int32) (k : Int32) : ∀ m q, q ≤ nx b k m q ∧ nx b k m q ≤ q + m := by
  intro m
  induction m with
  | zero => intro q; exact ⟨Nat.le_refl _, Nat.le_refl _⟩
  | succ m ih =>
    intro q
    rw [nx_s]
    split
    · have := ih (q + 1); omega
    · omega
theorem nx_all (b : Nat → Int32) (k : Int32) : ∀ m q j, q ≤ j → j < nx b k m q → kd (b j) = k := by
  intro m
  induction m with
  | zero => intro q j h1 h2; rw [nx_0] at h2; omega
  | succ m ih =>
    intro q j h1 h2
    rw [nx_s] at h2
    split at h2
    next e =>
      by_cases z : j = q
      · rw [z]; exact e
      · exact ih (q + 1) j (by omega) h2
    next => omega
theorem nx_end (b : Nat → Int32) (k : Int32) : ∀ m q, nx b k m q = q + m ∨ (nx b k m q < q + m ∧ ¬ kd (b (nx b k m q)) = k) := by
  intro m
  induction m with
  | zero => intro q; left; rfl
  | succ m ih =>
    intro q
    rw [nx_s]
    split
    next => rcases ih (q + 1) with h | h
            · left; rw [h]; omega
            · right; exact ⟨by omega, h.2⟩
    next e => right; exact ⟨by omega, e⟩
theorem behind_eq {n : Nat} {b : Nat → Int32} {c r : mC} (X : CX n b c r) (k : Int32) : ∀ m q, q + m = n → P_X3_behind c (nI q) k = nI (nx b k m q) := by
  have hn := X.1
  intro m
  induction m with
  | zero =>
    intro q hq
    unfold P_X3_behind
    rw [mWh_eq tm_X3_behind_2]
    have e : B_X3_behind_2 c k (nI q) = .inr (nI q) := by
      unfold B_X3_behind_2 J_X3_behind_25
      rw [X.2.1, if_pos ((nI_leI (by omega) (by omega)).mpr (by omega))]
    rw [e, nx_0]
  | succ m ih =>
    intro q hq
    unfold P_X3_behind
    rw [mWh_eq tm_X3_behind_2, nx_s]
    by_cases z : kd (b q) = k
    · have e : B_X3_behind_2 c k (nI q) = .inl (nI (q + 1)) := by
        unfold B_X3_behind_2 mBd
        dsimp only
        rw [X.2.1, if_neg (fun z => by have := (nI_leI (by omega) (by omega)).mp z; omega), kindAt_n X (by omega), if_pos z, nI_1]
      rw [e, if_pos z]
      exact ih (q + 1) (by omega)
    · have e : B_X3_behind_2 c k (nI q) = .inr (nI q) := by
        unfold B_X3_behind_2 mBd J_X3_behind_25
        dsimp only
        rw [X.2.1, if_neg (fun z => by have := (nI_leI (by omega) (by omega)).mp z; omega), kindAt_n X (by omega), if_neg z]
      rw [e, if_neg z]
/-- what ahead leaves -/
def sR (j k : Nat) : Bool := !(Nat.beq j 20 && (Nat.beq k 10 || Nat.beq k 11 || Nat.beq k 12 || Nat.beq k 13))
theorem blank_eq {n : Nat} {b : Nat → Int32} {c : mC} : ∀ m q r, CX n b c r → r 20 12 = nI q → q + m = n → P_X6_ahead r = P_X6_ahead (mP r 20 12 (nI (nx b 4 m q))) := by
  intro m
  induction m with
  | zero =>
    intro q r X e hq
    rw [nx_0, mP_id e]
  | succ m ih =>
    intro q r X e hq
    rw [nx_s]
    by_cases z : kd (b q) = 4
    · rw [if_pos z]
      have f := ((X.2.2.2 q (by omega)).2.2).f.1.1
      have eB : B_X6_ahead_0 r = .inl (mP r 20 12 (nI (q + 1))) := by
        unfold B_X6_ahead_0
        rw [e, byteAt_n X (by omega)]
        simp only [mBo]
        rcases f.mpr z with w | w
        · rw [if_pos w]
          unfold J_X6_ahead_26
          rw [e, nI_1]
        · rw [if_neg (by rw [w]; decide), if_pos w]
          unfold J_X6_ahead_26
          rw [e, nI_1]
      have h := ih (q + 1) (mP r 20 12 (nI (q + 1))) (X.r rfl rfl) rfl (by omega)
      rw [mP_mP] at h
      rw [← h]
      show mWh none B_X6_ahead_0 r = _
      rw [mWh_eq tm_X6_ahead_0, eB]
      rfl
    · rw [if_neg z, mP_id e]
theorem word_eq {n : Nat} {b : Nat → Int32} {c : mC} : ∀ m q r, CX n b c r → r 20 12 = nI q → q + m = n → mWh none B_X6_ahead_76 r = some (mP (mP r 20 12 (nI (nx b 1 m q))) 20 10 2) := by
  intro m
  induction m with
  | zero =>
    intro q r X e hq
    rw [nx_0, mP_id e, mWh_eq tm_X6_ahead_76]
    have eB : B_X6_ahead_76 r = .inr (some (mP r 20 10 2)) := by
      unfold B_X6_ahead_76
      rw [e, byteAt_e X (by omega) (by have := X.1; omega)]
      rfl
    rw [eB]
  | succ m ih =>
    intro q r X e hq
    rw [nx_s, mWh_eq tm_X6_ahead_76]
    have f := ((X.2.2.2 q (by omega)).2.2).f.1.2.1
    by_cases z : kd (b q) = 1
    · rw [if_pos z] at f ⊢
      have eB : B_X6_ahead_76 r = .inl (mP r 20 12 (nI (q + 1))) := by
        unfold B_X6_ahead_76 mBd
        rw [e, byteAt_n X (by omega)]
        simp only [mBo]
        rw [f, if_neg (by decide), nI_1]
      rw [eB]
      have h := ih (q + 1) (mP r 20 12 (nI (q + 1))) (X.r rfl rfl) rfl (by omega)
      rw [mP_mP] at h
      exact h
    · rw [if_neg z] at f ⊢
      have eB : B_X6_ahead_76 r = .inr (some (mP r 20 10 2)) := by
        unfold B_X6_ahead_76 mBd
        rw [e, byteAt_n X (by omega)]
        simp only [mBo]
        rw [f, if_pos rfl]
      rw [eB, mP_id e]
/-- a digit's worth -/
def dg (v : Int32) : Nat := v.toNatClampNeg - 48
theorem dg_e {v : Int32} (h : 48 ≤ v ∧ v ≤ 57) : v = nI (48 + dg v) ∧ dg v ≤ 9 := by
  obtain ⟨h1, h2⟩ := h
  have h0 : ¬ v < 0 := fun z => absurd (Int32.lt_of_lt_of_le z (by decide : (0 : Int32) ≤ 48)) (Int32.not_lt.mpr h1)
  obtain ⟨p, hp, rfl⟩ := nI_of h0
  have l1 : 48 ≤ p := (nI_leI (a := 48) (by decide) (by omega)).mp h1
  have l2 : p ≤ 57 := (nI_leI (b := 57) (by omega) (by decide)).mp h2
  unfold dg
  rw [nI_clamp (by omega)]
  exact ⟨by rw [show 48 + (p - 48) = p from by omega], by omega⟩
/-- a number's worth, j digits from q on -/
def nv (b : Nat → Int32) : Nat → Nat → Nat → Nat
  | 0, _, a => a
  | j + 1, q, a => nv b j (q + 1) (10 * a + dg (b q))
theorem digit_eq {n : Nat} {b : Nat → Int32} {c : mC} : ∀ m q r a, CX n b c r → r 20 12 = nI q → q + m = n → r 20 13 = nI a → a ≤ 9999 → ∃ r', mWh none B_X6_ahead_123 r = some r' ∧ Kp sR r r' ∧ r' 20 11 = r 20 11 ∧ r' 20 12 = nI (nx b 2 m q) ∧ (r' 20 10 = if nI (nx b 2 m q) - r 20 11 ≤ 3 then 3 else 1) ∧ ∀ i, a < 10 ^ i → i + (nx b 2 m q - q) ≤ 3 → r' 20 13 = nI (nv b (nx b 2 m q - q) q a) ∧ nv b (nx b 2 m q - q) q a < 1000 := by
  have stop : ∀ q r a, r 20 12 = nI q → r 20 13 = nI a → B_X6_ahead_123 r = .inr (if ((r 20 12) - (r 20 11)) ≤ 3 then (J_X6_ahead_198 r 3) else (J_X6_ahead_198 r 1)) → ∃ r', mWh none B_X6_ahead_123 r = some r' ∧ Kp sR r r' ∧ r' 20 11 = r 20 11 ∧ r' 20 12 = nI q ∧ (r' 20 10 = if nI q - r 20 11 ≤ 3 then 3 else 1) ∧ ∀ i, a < 10 ^ i → i + (q - q) ≤ 3 → r' 20 13 = nI (nv b (q - q) q a) ∧ nv b (q - q) q a < 1000 := by
    intro q r a e e13 eB
    rw [mWh_eq tm_X6_ahead_123, eB]
    have hv : ∀ i, a < 10 ^ i → i + (q - q) ≤ 3 → a < 1000 := fun i h1 h2 => by
      have : 10 ^ i ≤ 10 ^ 3 := Nat.pow_le_pow_right (by decide) (by omega)
      omega
    have hz : q - q = 0 := by omega
    dsimp only
    rw [e]
    by_cases w : nI q - r 20 11 ≤ 3
    · rw [if_pos w, if_pos w]
      exact ⟨_, rfl, Kp.rf.w rfl, rfl, e, rfl, fun i h1 h2 => by rw [hz]; exact ⟨e13, hv i h1 h2⟩⟩
    · rw [if_neg w, if_neg w]
      exact ⟨_, rfl, Kp.rf.w rfl, rfl, e, rfl, fun i h1 h2 => by rw [hz]; exact ⟨e13, hv i h1 h2⟩⟩
  intro m
  induction m with
  | zero =>
    intro q r a X e hq e13 ha
    rw [nx_0]
    refine stop q r a e e13 ?_
    unfold B_X6_ahead_123 mBd
    rw [e, byteAt_e X (by omega) (by have := X.1; omega)]
    rfl
  | succ m ih =>
    intro q r a X e hq e13 ha
    rw [nx_s]
    have fB := ((X.2.2.2 q (by omega)).2.2).f
    have f := fB.1.2.2
    by_cases z : kd (b q) = 2
    · rw [if_pos z] at f ⊢
      obtain ⟨ed, hd⟩ := dg_e (fB.2.2.2.2 z)
      have hm : P_J9_min_7cf53 9999 ((((10 : Int32) * nI a) + (b q)) - 48) = nI (min 9999 (10 * a + dg (b q))) := by
        have ex : (((10 : Int32) * nI a) + (b q)) - 48 = nI (10 * a + dg (b q)) := by
          show (nI 10 * nI a + b q) - nI 48 = _
          rw [show nI 10 * nI a = nI (10 * a) from (Int32.ofNat_mul 10 a).symm, show nI (10 * a) + b q = nI (10 * a + (48 + dg (b q))) from by rw [← nI_add, ← ed], show 10 * a + (48 + dg (b q)) = 10 * a + dg (b q) + 48 from by omega, ← nI_add (10 * a + dg (b q)) 48, Int32.add_sub_cancel]
        rw [ex]
        unfold P_J9_min_7cf53
        by_cases y : nI (10 * a + dg (b q)) < (9999 : Int32)
        · have y2 := (nI_ltI (b := 9999) (by omega) (by decide)).mp y
          rw [if_pos y, Nat.min_eq_right (by omega)]
        · have y2 : ¬ 10 * a + dg (b q) < 9999 := fun w => y ((nI_ltI (b := 9999) (by omega) (by decide)).mpr w)
          rw [if_neg y, Nat.min_eq_left (by omega)]; rfl
      have eB : B_X6_ahead_123 r = .inl (mP (mP r 20 13 (nI (min 9999 (10 * a + dg (b q))))) 20 12 (nI (q + 1))) := by
        unfold B_X6_ahead_123 mBd
        rw [e, byteAt_n X (by omega)]
        simp only [mBo]
        rw [f, if_neg (by decide), fB.2.2.2.1 (Or.inl z), e13, hm]
        show Sum.inl (mP (mP r 20 13 (nI (min 9999 (10 * a + dg (b q))))) 20 12 (r 20 12 + 1)) = _
        rw [e, nI_1]
      obtain ⟨r', h1, h2, h3, h4, h5, h6⟩ := ih (q + 1) (mP (mP r 20 13 (nI (min 9999 (10 * a + dg (b q))))) 20 12 (nI (q + 1))) (min 9999 (10 * a + dg (b q))) (X.r rfl rfl) rfl (by omega) rfl (Nat.min_le_left _ _)
      rw [mWh_eq tm_X6_ahead_123, eB]
      have hl := (nx_le b 2 m (q + 1)).1
      refine ⟨r', h1, (Kp.tr ((Kp.rf.w rfl).w rfl) h2), h3, h4, h5, fun i hi hj => ?_⟩
      have es : nx b 2 m (q + 1) - q = (nx b 2 m (q + 1) - (q + 1)) + 1 := by omega
      have hp : 10 ^ (i + 1) ≤ 10 ^ 3 := Nat.pow_le_pow_right (by decide) (by omega)
      have hq2 : 10 ^ (i + 1) = 10 ^ i * 10 := Nat.pow_succ 10 i
      have hm2 : min 9999 (10 * a + dg (b q)) = 10 * a + dg (b q) := Nat.min_eq_right (by omega)
      have := h6 (i + 1) (by rw [hm2]; omega) (by omega)
      rw [hm2] at this
      rw [es]
      exact this
    · rw [if_neg z] at f ⊢
      refine stop q r a e e13 ?_
      unfold B_X6_ahead_123 mBd
      rw [e, byteAt_n X (by omega)]
      simp only [mBo]
      rw [f, if_pos rfl]
