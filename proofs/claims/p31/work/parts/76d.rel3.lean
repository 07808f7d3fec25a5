/-! The crossings alike: what the changing calls answer, what they leave -/
theorem up21' (r : mC) (k : Nat) (v : Int32) : (mP r 21 k v) 21 = upF (r 21) k v := up21 r k v
theorem mark_v {g : mG} (h : CR (g 0) (g 7 21)) (x1 x2 x3 : Int32) : ∃ m, P_X6_mark_ (g 7) x1 x2 x3 = some ((P_X5_mark g x1 x2 x3).1, m) ∧ CR ((P_X5_mark g x1 x2 x3).2 0) (m 21) := by
  obtain ⟨N, h1, ⟨h2, h3⟩, _⟩ := id h
  unfold P_X6_mark_ P_X5_mark J_X6_mark__25 J_X5_mark_32
  rw [mBd_eq]
  by_cases z : P_X6_isFrom x2 0 9 = 0
  · rw [if_pos z]
    rcases isF9.mp z with w | w
    · rw [if_pos w]; exact ⟨_, rfl, h⟩
    · by_cases y : x2 < 0
      · rw [if_pos y]; exact ⟨_, rfl, h⟩
      · rw [if_neg y, if_pos (Int32.not_lt.mp w)]; exact ⟨_, rfl, h⟩
  · have z2 : ¬ (x2 < 0 ∨ ¬ x2 < 10) := fun w => z (isF9.mpr w)
    have y : ¬ x2 < 0 := fun w => z2 (Or.inl w)
    have y2 : x2 < 10 := Decidable.byContradiction (fun w => z2 (Or.inr w))
    obtain ⟨k, hk, rfl⟩ := nI_of y
    have hk10 := (nI_ltI (b := 10) (by omega) (by decide)).mp y2
    rw [if_neg z, if_neg y, if_neg (Int32.not_le.mpr y2), mBd_eq, mBd_eq, mBd_eq, mBd_eq, (lm_n k hk10).1, (lm_n k hk10).2]
    by_cases w : P_X6_isFrom x3 (P_X6_leastOf (nI k)) (P_X6_mostOf (nI k)) = 0
    · rw [if_pos w]
      rcases isF_or.mp w with u | u
      · rw [if_pos u]; exact ⟨_, rfl, h⟩
      · by_cases u2 : x3 < P_X6_leastOf (nI k)
        · rw [if_pos u2]; exact ⟨_, rfl, h⟩
        · rw [if_neg u2, mBd_eq, if_neg (Int32.not_le.mpr u)]; exact ⟨_, rfl, h⟩
    · have w2 : ¬ (x3 < P_X6_leastOf (nI k) ∨ P_X6_mostOf (nI k) < x3) := fun u => w (isF_or.mpr u)
      rw [if_neg w, if_neg (fun u => w2 (Or.inl u)), mBd_eq, if_pos (Int32.not_lt.mp (fun u => w2 (Or.inr u))), mBd_eq, hasP_eq h]
      simp only [mBo]
      by_cases v : P_X2_hasPhase (g 0) x1 = 0
      · rw [if_pos v, if_pos v]; exact ⟨_, rfl, h⟩
      · obtain ⟨p, hp, rfl⟩ := hasP_n (r := g 7) h1.1 h2 v
        have hN := h1.1
        rw [if_neg v, if_neg v, mark_n h1 hp hk10, mBd_eq, mBd_eq, show (2 : Int32) + nI k = nI (2 + k) from nI_add 2 k]
        dsimp only
        rw [putsP_n (by omega) (by omega)]
        refine ⟨_, rfl, ?_⟩
        show CR ((P_X5_answer (mU g 0 (P_X2_putMark (g 0) (nI p) (nI k) x3)) (P_X2_markOf (g 0) (nI p) (nI k))).2 0) ((mP (mP (g 7) 21 (32 + 18 * p + (2 + k)) x3) 20 1 0) 21)
        rw [(ans_o _ _).2.2.1, mU_same, show (mP (mP (g 7) 21 (32 + 18 * p + (2 + k)) x3) 20 1 0) 21 = (mP (g 7) 21 (32 + 18 * p + (2 + k)) x3) 21 from rfl, up21, show 32 + 18 * p + (2 + k) = 32 + 18 * p + 2 + k from by omega]
        exact h.m hN h2 hp hk10
/-- FO as a number of 8 bits -/
def FN (R S : Nat → Int32) (p : Nat) : Nat → Nat
  | 0 => 0
  | m + 1 => FN R S p m + (if fo R S p m = true then 2 ^ m else 0)
theorem FN_s (R S : Nat → Int32) (p m : Nat) : FN R S p (m + 1) = FN R S p m + (if fo R S p m = true then 2 ^ m else 0) := rfl
theorem FN_lt (R S : Nat → Int32) (p : Nat) : ∀ m, FN R S p m < 2 ^ m := by
  intro m
  induction m with
  | zero => exact Nat.one_pos
  | succ m ih =>
    rw [FN_s, Nat.pow_succ]
    split <;> omega
theorem or_bit : ∀ m, m < 8 → ∀ a, a < 2 ^ m → nI a ||| ((1 : Int32) <<< (nI m &&& 31)) = nI (a + 2 ^ m) := by decide +kernel
theorem FO_FN (R S : Nat → Int32) (p : Nat) : ∀ m, m ≤ 8 → FO R S p m = nI (FN R S p m) := by
  intro m
  induction m with
  | zero => intro _; rfl
  | succ m ih =>
    intro hm
    rw [FO_s, FN_s, ih (by omega)]
    by_cases z : fo R S p m = true
    · rw [if_pos z, if_pos z]
      exact or_bit m (by omega) _ (FN_lt R S p m)
    · rw [if_neg z, if_neg z, or_z]; rfl
theorem FN_bit (R S : Nat → Int32) (p : Nat) {q : Nat} : ∀ m, q < m → FN R S p m / 2 ^ q % 2 = if fo R S p q = true then 1 else 0 := by
  intro m
  induction m with
  | zero => intro h; omega
  | succ m ih =>
    intro h
    rw [FN_s]
    by_cases z : q = m
    · subst z
      have l := FN_lt R S p q
      have hp : 0 < 2 ^ q := Nat.two_pow_pos q
      split
      · rw [Nat.add_div_right _ hp, Nat.div_eq_of_lt l]
      · rw [Nat.add_zero, Nat.div_eq_of_lt l]
    · have hq : q < m := by omega
      have e : 2 ^ m = 2 ^ q * 2 * 2 ^ (m - q - 1) := by
        rw [← Nat.pow_succ, ← Nat.pow_add, show q + 1 + (m - q - 1) = m from by omega]
      have i := ih hq
      by_cases w : fo R S p m = true
      · rw [if_pos w, e, Nat.mul_assoc, Nat.add_mul_div_left _ _ (Nat.two_pow_pos q), Nat.add_mod, Nat.mul_mod_right, Nat.add_zero, Nat.mod_mod]
        exact i
      · rw [if_neg w, Nat.add_zero]
        exact i
theorem has_bit : ∀ a, a < 256 → ∀ q, q < 8 → P_X6_has (nI a) (nI q) = if a / 2 ^ q % 2 = 1 then 1 else 0 := by decide +kernel
theorem FO_has {R S : Nat → Int32} {p q N : Nat} (hN : N ≤ 8) (hq : q < N) : P_X6_has (FO R S p N) (nI q) = if fo R S p q = true then 1 else 0 := by
  have l := FN_lt R S p N
  have l2 : 2 ^ N ≤ 2 ^ 8 := Nat.pow_le_pow_right (by decide) hN
  rw [FO_FN R S p N hN, has_bit _ (by omega) q (by omega), FN_bit R S p N hq]
  by_cases z : fo R S p q = true
  · rw [if_pos z, if_pos rfl, if_pos z]
  · rw [if_neg z, if_neg (show ¬ (0 : Nat) = 1 by decide), if_neg z]
theorem foes_v {g : mG} (h : CR (g 0) (g 7 21)) (x1 x2 : Int32) : ∃ m, P_X6_foes (g 7) x1 x2 = some ((P_X5_foes g x1 x2).1, m) := by
  obtain ⟨N, h1, ⟨h2, h3⟩, _⟩ := id h
  have hN := h1.1
  unfold P_X6_foes P_X5_foes J_X6_foes_37 J_X6_foes_31 J_X5_foes_28 J_X5_foes_58
  rw [hasP_eq h, mBd_eq]
  simp only [mBo]
  by_cases v : P_X2_hasPhase (g 0) x1 = 0
  · rw [if_pos v, if_pos v]; exact ⟨_, rfl⟩
  · rw [if_neg v, if_neg v, hasP_eq h, mBd_eq]
    dsimp only
    by_cases w : P_X2_hasPhase (g 0) x2 = 0
    · rw [if_pos w, if_pos w]; exact ⟨_, rfl⟩
    · obtain ⟨p, hp, rfl⟩ := hasP_n (r := g 7) hN h2 v
      obtain ⟨q, hq, rfl⟩ := hasP_n (r := g 7) hN h2 w
      rw [if_neg w, if_neg w, mBd_eq, mBd_eq, areFoes_n (by omega) (by omega), inSet_n (by omega)]
      dsimp only
      have e4 : P_X2_foesOf (g 0) (nI p) = FO ((g 0) 2) ((g 0) 3) p N := by
        show cl 8 ((g 0) 4) (nI p) = _
        rw [cl_n (by omega) (by decide)]
        exact h1.2.2.1 p hp
      have ec : fo ((g 0) 2) ((g 0) 3) p q = fo (fun p => g 7 21 (32 + 18 * p)) (fun p => g 7 21 (32 + 18 * p + 1)) p q := by
        unfold fo
        rw [(h1.2.1 p hp).1, (h1.2.1 q hq).1, (h1.2.1 p hp).2.1, (h1.2.1 q hq).2.1]
      rw [e4, FO_has hN hq, ec]
      by_cases u : fo (fun p => g 7 21 (32 + 18 * p)) (fun p => g 7 21 (32 + 18 * p + 1)) p q = true
      · rw [if_pos u, if_neg (show ¬ (1 : Int32) = 0 by decide), if_neg (show ¬ (1 : Int32) = 0 by decide)]; exact ⟨_, rfl⟩
      · rw [if_neg u, if_pos rfl, if_pos rfl]; exact ⟨_, rfl⟩
-- the sets of lamps that stick, of breaks that are wanted
theorem wb : ∀ w, w < 4 → ∀ m, m < 2 → (P_X6_has (nI w) (nI m) = 0 → ∃ d, d < 4 ∧ nI w ||| P_X5_bit (nI m) = nI d ∧ nI w ^^^ ((1 : Int32) <<< (nI m &&& 31)) = nI d) ∧ (¬ P_X6_has (nI w) (nI m) = 0 → ∃ d, d < 4 ∧ nI w &&& (P_X5_bit (nI m) ^^^ (-1)) = nI d ∧ nI w ^^^ ((1 : Int32) <<< (nI m &&& 31)) = nI d) ∧ (P_X6_has (nI w) (nI m) = 0 ∨ P_X6_has (nI w) (nI m) = 1) := by decide +kernel
theorem sb : ∀ s, s < 256 → ∀ p, p < 8 → (P_X6_has (nI s) (nI p) = 0 → s + 2 ^ p < 256 ∧ P_X5_withBit (nI s) (nI p) 1 = nI (s + 2 ^ p) ∧ nI s ^^^ ((1 : Int32) <<< (nI p &&& 31)) = nI (s + 2 ^ p)) ∧ (P_X6_has (nI s) (nI p) = 1 → P_X5_withBit (nI s) (nI p) 0 = nI (s - 2 ^ p) ∧ nI s ^^^ ((1 : Int32) <<< (nI p &&& 31)) = nI (s - 2 ^ p)) ∧ (P_X6_has (nI s) (nI p) = 0 ∨ P_X6_has (nI s) (nI p) = 1) := by decide +kernel
theorem PQ.f {N : Nat} {c c' : mC} {f f' : Nat → Int32} (h : PQ N c f) (k : ∀ j, 2 ≤ j → j ≤ 5 → c' j = c j) (k11 : c' 1 1 = c 1 1) (k12 : c' 1 2 = c 1 2) (kf : ∀ q, (q = 2 ∨ q = 3 ∨ 32 ≤ q) → f' q = f q) : PQ N c' f' := by
  obtain ⟨h1, h2, h3, h4, h5⟩ := h
  unfold PQ
  rw [k 2 (by decide) (by decide), k 3 (by decide) (by decide), k 4 (by decide) (by decide), k 5 (by decide) (by decide), k11, k12, kf 2 (by omega), kf 3 (by omega)]
  refine ⟨h1, fun p hp => ⟨?_, ?_, fun k hk => ?_⟩, h3, h4, h5⟩
  · rw [kf _ (by omega)]; exact (h2 p hp).1
  · rw [kf _ (by omega)]; exact (h2 p hp).2.1
  · rw [kf _ (by omega)]; exact (h2 p hp).2.2 k hk
theorem CR.w {c : mC} {f : Nat → Int32} {d : Nat} (h : CR c f) (hd : d < 4) : CR (mP c 0 11 (nI d)) (upF f 10 (nI d)) := by
  obtain ⟨N, h1, ⟨h2, h3⟩, ⟨s, h4, h5, h6⟩, _, h10⟩ := h
  refine ⟨N, h1.f (fun j a b => mP_other _ _ _ _ _ (by omega)) rfl rfl (fun q hq => upF_n (by omega)), ⟨h2, ?_⟩, ⟨s, h4, h5, ?_⟩, ⟨d, hd, rfl, rfl⟩, ?_⟩
  · rw [upF_n (by decide)]; exact h3
  · rw [upF_n (by decide)]; exact h6
  · rw [upF_n (by decide)]; exact h10
theorem CR.s {c : mC} {f : Nat → Int32} {d : Nat} (h : CR c f) (hd : d < 256) : CR (mP c 0 10 (nI d)) (upF f 6 (nI d)) := by
  obtain ⟨N, h1, ⟨h2, h3⟩, _, ⟨w, h7, h8, h9⟩, h10⟩ := h
  refine ⟨N, h1.f (fun j a b => mP_other _ _ _ _ _ (by omega)) rfl rfl (fun q hq => upF_n (by omega)), ⟨h2, ?_⟩, ⟨d, hd, rfl, rfl⟩, ⟨w, h7, h8, ?_⟩, ?_⟩
  · rw [upF_n (by decide)]; exact h3
  · rw [upF_n (by decide)]; exact h9
  · rw [upF_n (by decide)]; exact h10
theorem gr_o (G : mG) : (P_X5_grant G).2 0 = G 0 ∧ (P_X5_grant G).1 = 1 := ⟨(u6_o G (mP (G 6) 18 9 0)).2.1, rfl⟩
theorem de_o (G : mG) (v : Int32) : (P_X5_deny G v).2 0 = G 0 ∧ (P_X5_deny G v).1 = 0 := ⟨(u6_o G (mP (G 6) 18 9 v)).2.1, rfl⟩
theorem isBr {x : Int32} : P_X5_isBreak x = P_X6_isFrom x 0 1 := by
  unfold P_X5_isBreak J_X5_isBreak_9
  by_cases z : x = 0
  · rw [if_pos z, z]; rfl
  rw [if_neg z]
  by_cases z1 : x = 1
  · rw [if_pos z1, z1]; rfl
  rw [if_neg z1]
  symm
  rw [isF_or]
  by_cases w : x < 0
  · exact Or.inl w
  · right
    obtain ⟨p, hp, rfl⟩ := nI_of w
    have a : ¬ p = 0 := fun y => z (by rw [y]; rfl)
    have b : ¬ p = 1 := fun y => z1 (by rw [y]; rfl)
    exact (nI_ltI (a := 1) (by decide) (by omega)).mpr (by omega)
theorem ask_v {g : mG} (h : CR (g 0) (g 7 21)) (x1 : Int32) : ∃ m, P_X6_ask (g 7) x1 = some ((P_X5_ask g x1).1, m) ∧ CR ((P_X5_ask g x1).2 0) (m 21) := by
  obtain ⟨N, h1, ⟨h2, h3⟩, _, ⟨w, h7, h8, h9⟩, h10⟩ := id h
  unfold P_X6_ask P_X6_isWanted P_X5_ask
  rw [mBd_eq, mBd_eq, isBr]
  by_cases z : P_X6_isFrom x1 0 1 = 0
  · rw [if_pos z, if_pos z]; exact ⟨_, rfl, h⟩
  · obtain ⟨m, hm, rfl⟩ : ∃ m, m ≤ 1 ∧ x1 = nI m := isF_w (b := 1) (by decide) rfl z
    obtain ⟨b1, b2, b3⟩ := wb w h7 m (by omega)
    have e10 : P_X6_of (g 7) 10 = some (nI w) := by rw [show P_X6_of (g 7) 10 = some (g 7 21 10) from of_n (k := 10) (by decide), h9]
    rw [if_neg z, if_neg z, mBd_eq, e10, h8, inSet_n (by omega)]
    simp only [mBo]
    rw [mBd_eq]
    by_cases y : P_X6_has (nI w) (nI m) = 0
    · obtain ⟨d, hd, d1, d2⟩ := b1 y
      rw [if_pos y, if_neg (by rw [y]; decide), mBd_eq, mBd_eq, d1, d2, show ∀ v, P_X6_puts (g 7) 10 v = some (mP (g 7) 21 10 v) from fun v => puts_n (k := 10) (by decide)]
      refine ⟨_, rfl, ?_⟩
      show CR ((P_X5_grant (mU g 0 (mP (g 0) 0 11 (nI d)))).2 0) ((mP (g 7) 21 10 (nI d)) 21)
      rw [(gr_o _).1, mU_same, up21]
      exact h.w hd
    · have y1 := b3.resolve_left y
      rw [if_neg y, if_pos y1]; exact ⟨_, rfl, h⟩
theorem let_v {g : mG} (h : CR (g 0) (g 7 21)) (x1 : Int32) : ∃ m, P_X6_let (g 7) x1 = some ((P_X5_let g x1).1, m) ∧ CR ((P_X5_let g x1).2 0) (m 21) := by
  obtain ⟨N, h1, ⟨h2, h3⟩, _, ⟨w, h7, h8, h9⟩, h10⟩ := id h
  unfold P_X6_let P_X6_isWanted P_X5_let
  rw [mBd_eq, mBd_eq, isBr]
  by_cases z : P_X6_isFrom x1 0 1 = 0
  · rw [if_pos z, if_pos z]; exact ⟨_, rfl, h⟩
  · obtain ⟨m, hm, rfl⟩ : ∃ m, m ≤ 1 ∧ x1 = nI m := isF_w (b := 1) (by decide) rfl z
    obtain ⟨b1, b2, b3⟩ := wb w h7 m (by omega)
    have e10 : P_X6_of (g 7) 10 = some (nI w) := by rw [show P_X6_of (g 7) 10 = some (g 7 21 10) from of_n (k := 10) (by decide), h9]
    rw [if_neg z, if_neg z, mBd_eq, e10, h8, inSet_n (by omega)]
    simp only [mBo]
    rw [mBd_eq]
    by_cases y : P_X6_has (nI w) (nI m) = 0
    · rw [if_pos y, if_pos y]; exact ⟨_, rfl, h⟩
    · obtain ⟨d, hd, d1, d2⟩ := b2 y
      rw [if_neg y, if_neg y, mBd_eq, mBd_eq, d1, d2, show ∀ v, P_X6_puts (g 7) 10 v = some (mP (g 7) 21 10 v) from fun v => puts_n (k := 10) (by decide)]
      refine ⟨_, rfl, ?_⟩
      show CR ((P_X5_grant (mU g 0 (mP (g 0) 0 11 (nI d)))).2 0) ((mP (g 7) 21 10 (nI d)) 21)
      rw [(gr_o _).1, mU_same, up21]
      exact h.w hd
theorem stick_v {g : mG} (h : CR (g 0) (g 7 21)) (x1 x2 : Int32) (hx : x2 = 0 ∨ x2 = 1) : ∃ m, P_X6_stick (g 7) x1 x2 = some ((P_X5_stick g x1 x2).1, m) ∧ CR ((P_X5_stick g x1 x2).2 0) (m 21) := by
  obtain ⟨N, h1, ⟨h2, h3⟩, ⟨s, h4, h5, h6⟩, _, h10⟩ := id h
  have hN := h1.1
  unfold P_X6_stick P_X5_stick
  rw [hasP_eq h, mBd_eq]
  simp only [mBo]
  by_cases v : P_X2_hasPhase (g 0) x1 = 0
  · rw [if_pos v, if_pos v]; exact ⟨_, rfl, h⟩
  · obtain ⟨p, hp, rfl⟩ := hasP_n (r := g 7) hN h2 v
    obtain ⟨b1, b2, b3⟩ := sb s h4 p (by omega)
    have e6 : P_X6_of (g 7) 6 = some (nI s) := by rw [show P_X6_of (g 7) 6 = some (g 7 21 6) from of_n (k := 6) (by decide), h6]
    rw [if_neg v, if_neg v, mBd_eq, e6, h5, inSet_n (by omega)]
    dsimp only
    rw [mBd_eq]
    by_cases y : P_X6_has (nI s) (nI p) = x2
    · rw [if_pos y, if_pos y]; exact ⟨_, rfl, h⟩
    · rw [if_neg y, if_neg y, mBd_eq, mBd_eq, show ∀ v, P_X6_puts (g 7) 6 v = some (mP (g 7) 21 6 v) from fun v => puts_n (k := 6) (by decide)]
      have go : ∀ d, d < 256 → P_X5_withBit (nI s) (nI p) x2 = nI d → nI s ^^^ ((1 : Int32) <<< (nI p &&& 31)) = nI d → CR ((P_X5_grant (mU g 0 (mP (g 0) 0 10 (P_X5_withBit (nI s) (nI p) x2)))).2 0) ((mP (g 7) 21 6 (nI s ^^^ ((1 : Int32) <<< (nI p &&& 31)))) 21) := fun d hd d1 d2 => by
        rw [(gr_o _).1, mU_same, up21, d1, d2]
        exact h.s hd
      refine ⟨_, rfl, ?_⟩
      rcases hx with rfl | rfl
      · obtain ⟨d1, d2⟩ := b2 (b3.resolve_left y)
        exact go _ (Nat.lt_of_le_of_lt (Nat.sub_le _ _) h4) d1 d2
      · obtain ⟨hd, d1, d2⟩ := b1 (b3.resolve_right y)
        exact go _ hd d1 d2
