/-! The reference answers: the ground -/
def ok {α : Type} (Q : α → Prop) (o : Option α) : Prop := ∃ a, o = some a ∧ Q a
def ok2 {S α : Type} (I : S → Prop) (Q : α → Prop) (x : S ⊕ Option α) : Prop := (∃ s, x = .inl s ∧ I s) ∨ (∃ r, x = .inr r ∧ ok Q r)
theorem ok_s {α : Type} {Q : α → Prop} {a : α} (h : Q a) : ok Q (some a) := ⟨a, rfl, h⟩
theorem ok_mo {α : Type} {P Q : α → Prop} {o : Option α} (h : ok P o) (k : ∀ a, P a → Q a) : ok Q o := by
  obtain ⟨a, e, ha⟩ := h
  exact ⟨a, e, k a ha⟩
theorem ok_bo {α β : Type} {P : α → Prop} {Q : β → Prop} {o : Option α} {f : α → Option β} (h : ok P o) (k : ∀ a, P a → ok Q (f a)) : ok Q (mBo none o f) := by
  obtain ⟨a, rfl, ha⟩ := h
  exact k a ha
theorem ok_b2 {α β S : Type} {P : α → Prop} {I : S → Prop} {Q : β → Prop} {o : Option α} {f : α → S ⊕ Option β} (h : ok P o) (k : ∀ a, P a → ok2 I Q (f a)) : ok2 I Q (mBo (.inr none) o f) := by
  obtain ⟨a, rfl, ha⟩ := h
  exact k a ha
theorem ok_bd {α β : Type} {Q : β → Prop} {x : α} {f : α → Option β} (k : ∀ a, x = a → ok Q (f a)) : ok Q (mBd x f) := k x rfl
theorem ok2_bd {α β S : Type} {I : S → Prop} {Q : β → Prop} {x : α} {f : α → S ⊕ Option β} (k : ∀ a, x = a → ok2 I Q (f a)) : ok2 I Q (mBd x f) := k x rfl
theorem ok_if {β : Type} {Q : β → Prop} {p : Prop} {hd : Decidable p} {a b : Option β} (h1 : p → ok Q a) (h2 : ¬ p → ok Q b) : ok Q (@ite _ p hd a b) := by
  by_cases h : p
  · rw [if_pos h]; exact h1 h
  · rw [if_neg h]; exact h2 h
theorem ok2_if {β S : Type} {I : S → Prop} {Q : β → Prop} {p : Prop} {hd : Decidable p} {a b : S ⊕ Option β} (h1 : p → ok2 I Q a) (h2 : ¬ p → ok2 I Q b) : ok2 I Q (@ite _ p hd a b) := by
  by_cases h : p
  · rw [if_pos h]; exact h1 h
  · rw [if_neg h]; exact h2 h
theorem ok2_r {β S : Type} {I : S → Prop} {Q : β → Prop} {r : Option β} (h : ok Q r) : ok2 I Q (.inr r) := Or.inr ⟨r, rfl, h⟩
theorem ok2_l {β S : Type} {I : S → Prop} {Q : β → Prop} {s : S} (h : I s) : ok2 I Q (.inl s : S ⊕ Option β) := Or.inl ⟨s, rfl, h⟩
theorem ok_wh {S β : Type} {dv : Option β} {B : S → S ⊕ Option β} (I : S → Prop) {Q : β → Prop} (ht : mTm B) (hB : ∀ s, I s → ok2 I Q (B s)) {s : S} (hs : I s) : ok Q (mWh dv B s) := by
  obtain ⟨μ, hμ⟩ := id ht
  have key : ∀ (n : Nat) (s : S), μ s ≤ n → I s → ok Q (mWh dv B s) := by
    intro n
    induction n with
    | zero =>
      intro s hn hs
      rw [mWh_eq ht]
      rcases hB s hs with ⟨s', e, _⟩ | ⟨r, e, hr⟩
      · have := hμ s s' e
        omega
      · rw [e]; exact hr
    | succ n ih =>
      intro s hn hs
      rw [mWh_eq ht]
      rcases hB s hs with ⟨s', e, hs'⟩ | ⟨r, e, hr⟩
      · rw [e]
        have := hμ s s' e
        exact ih s' (by omega) hs'
      · rw [e]; exact hr
  exact key (μ s) s (Nat.le_refl _) hs
-- ranges
def r01 (x : Int32) : Prop := x = 0 ∨ x = 1
def r02 (x : Int32) : Prop := x = 0 ∨ x = 1 ∨ x = 2
def rB (x : Int32) : Prop := x = -1 ∨ x = 0 ∨ x = 1
def rP (x : Int32) : Prop := ∃ p, p < 8 ∧ x = nI p
def r08 (x : Int32) : Prop := ∃ p, p ≤ 8 ∧ x = nI p
def rL (x : Int32) : Prop := ∃ p, p ≤ 32 ∧ x = nI p
def rQ (x : Int32) : Prop := x = -1 ∨ rP x
theorem r01_0 : r01 0 := Or.inl rfl
theorem r01_1 : r01 1 := Or.inr rfl
theorem r02_0 : r02 0 := Or.inl rfl
theorem r08_0 : r08 0 := ⟨0, by decide, rfl⟩
theorem rP_0 : rP 0 := ⟨0, by decide, rfl⟩
theorem rQ_m : rQ (-1) := Or.inl rfl
theorem rQ_0 : rQ 0 := Or.inr rP_0
theorem rB_m : rB (-1) := Or.inl rfl
theorem r01_B {x : Int32} (h : r01 x) : rB x := Or.inr h
theorem rP_Q {x : Int32} (h : rP x) : rQ x := Or.inr h
theorem rQ_ne {x : Int32} (h : rQ x) (hn : ¬ x = -1) : rP x := h.resolve_left hn
theorem r01_P {x : Int32} (h : r01 x) : rP x := by
  rcases h with rfl | rfl
  · exact ⟨0, by decide, rfl⟩
  · exact ⟨1, by decide, rfl⟩
theorem rP_lt {x v : Int32} (h : r08 x) (hv : r08 v) (hn : ¬ v ≤ x) : rP x := by
  obtain ⟨p, hp, rfl⟩ := h
  obtain ⟨q, hq, rfl⟩ := hv
  refine ⟨p, ?_, rfl⟩
  have : ¬ q ≤ p := fun z => hn ((nI_leI (by omega) (by omega)).mpr z)
  omega
theorem rP_up {x : Int32} (h : rP x) : r08 (x + 1) := by
  obtain ⟨p, hp, rfl⟩ := h
  exact ⟨p + 1, by omega, nI_1 p⟩
theorem rQ_up {x : Int32} (h : rQ x) : r08 (x + 1) := by
  rcases h with rfl | h
  · exact ⟨0, by decide, by decide⟩
  · exact rP_up h
theorem r02_lt {x : Int32} (h : r02 x) (hn : ¬ 2 ≤ x) : r01 x := by
  rcases h with rfl | rfl | rfl
  · exact r01_0
  · exact r01_1
  · exact absurd (by decide) hn
theorem r01_up {x : Int32} (h : r01 x) : r02 (x + 1) := by
  rcases h with rfl | rfl
  · exact Or.inr (Or.inl (by decide))
  · exact Or.inr (Or.inr (by decide))
theorem r01_x {x : Int32} (h : r01 x) : r01 ((1 : Int32) - x) := by
  rcases h with rfl | rfl
  · exact Or.inr (by decide)
  · exact Or.inl (by decide)
/-- cells that a tick leaves (TICK and CLOCK apart) -/
def kp (k : Nat) : Bool := Nat.ble k 4 || Nat.beq k 6 || Nat.beq k 10 || (Nat.ble 32 k && Nat.blt k 176 && Nat.blt ((k - 32) % 18) 12) || (Nat.ble 176 k && Nat.blt k 192) || Nat.ble 288 k
def St (c : mC) : Prop := r08 (c 21 0) ∧ (rQ (c 21 16) ∧ rQ (c 21 19) ∧ rQ (c 21 24) ∧ rQ (c 21 27)) ∧ (∀ p, p < 8 → r01 (c 21 (32 + 18 * p))) ∧ rL (c 21 12) ∧ rB (c 21 7)
def G (c0 c : mC) : Prop := St c ∧ (∀ k, kp k = true → c 21 k = c0 21 k) ∧ (∀ j, j ≠ 20 → j ≠ 21 → c j = c0 j) ∧ (∀ k, k ≠ 3 → k ≠ 4 → k ≠ 5 → c 20 k = c0 20 k)
theorem G.rf {c : mC} (h : St c) : G c c := ⟨h, fun _ _ => rfl, fun _ _ _ => rfl, fun _ _ _ _ => rfl⟩
theorem kp_r : ∀ p, p < 8 → kp (32 + 18 * p) = true := by decide +kernel
theorem rd21 (c : mC) (k k' : Nat) (v : Int32) : mP c 21 k v 21 k' = if k' = k then v else c 21 k' := by
  unfold mP
  by_cases h : k' = k
  · rw [if_pos h, if_pos ⟨rfl, h⟩]
  · rw [if_neg h, if_neg (fun z => h z.2)]
theorem G.w {c0 c : mC} {k : Nat} {v : Int32} (h : G c0 c) (hk : kp k = false) (hv : (k = 16 ∨ k = 19 ∨ k = 24 ∨ k = 27) → rQ v) (h12 : k = 12 → rL v) (h7 : k = 7 → rB v) : G c0 (mP c 21 k v) := by
  obtain ⟨⟨s0, ⟨s1, s2, s3, s4⟩, s5, s6, s7⟩, g1, g2, g3⟩ := h
  have ne : ∀ k', kp k' = true → k' ≠ k := fun k' h' e => by rw [e, hk] at h'; cases h'
  refine ⟨⟨?_, ⟨?_, ?_, ?_, ?_⟩, ?_, ?_, ?_⟩, ?_, ?_, ?_⟩
  · rw [rd21, if_neg (ne 0 rfl)]; exact s0
  · rw [rd21]; split
    · exact hv (by omega)
    · exact s1
  · rw [rd21]; split
    · exact hv (by omega)
    · exact s2
  · rw [rd21]; split
    · exact hv (by omega)
    · exact s3
  · rw [rd21]; split
    · exact hv (by omega)
    · exact s4
  · intro p hp
    rw [rd21, if_neg (ne _ (kp_r p hp))]
    exact s5 p hp
  · rw [rd21]; split
    · exact h12 (by omega)
    · exact s6
  · rw [rd21]; split
    · exact h7 (by omega)
    · exact s7
  · intro k' h'
    rw [rd21, if_neg (ne k' h')]
    exact g1 k' h'
  · intro j h1 h2
    rw [mP_other _ _ _ _ _ h2]
    exact g2 j h1 h2
  · intro k' a b d
    rw [mP_other _ _ _ _ _ (by decide)]
    exact g3 k' a b d
theorem G.m {c0 c : mC} {k : Nat} {v : Int32} (h : G c0 c) (hk : k = 3 ∨ k = 4 ∨ k = 5) : G c0 (mP c 20 k v) := by
  obtain ⟨s, g1, g2, g3⟩ := h
  refine ⟨s, g1, fun j h1 h2 => ?_, fun k' a b d => ?_⟩
  · rw [mP_other _ _ _ _ _ h1]; exact g2 j h1 h2
  · show (if 20 = 20 ∧ k' = k then v else c 20 k') = _
    rw [if_neg (by omega)]
    exact g3 k' a b d
section LEAF2
variable {c0 c : mC} (h : G c0 c)
theorem of_n {m : mC} {k : Nat} (h : k < 1440) : P_X6_of m (nI k) = some (m 21 k) := by
  unfold P_X6_of
  rw [if_neg (nI_in h (by decide)), nI_clamp (by omega)]
theorem t_of (h : G c0 c) {x : Int32} (k : Nat) (hx : x = nI k) (hk : k < 1440) : ok (fun v => v = c 21 k) (P_X6_of c x) := by
  rw [hx, of_n hk]; exact ok_s rfl
theorem t_of0 (h : G c0 c) : ok r08 (P_X6_of c 0) := ok_mo (t_of h 0 rfl (by decide)) (fun v hv => by rw [hv]; exact h.1.1)
theorem t_of7 (h : G c0 c) : ok rB (P_X6_of c 7) := ok_mo (t_of h 7 rfl (by decide)) (fun v hv => by rw [hv]; exact h.1.2.2.2.2)
theorem t_puts (h : G c0 c) {x v : Int32} (k : Nat) (hx : x = nI k) (hk : kp k = false) (hn : k ≠ 16 ∧ k ≠ 19 ∧ k ≠ 24 ∧ k ≠ 27 ∧ k ≠ 12 ∧ k ≠ 7) : ok (G c0) (P_X6_puts c x v) := by
  have hk2 : k < 1440 := by
    by_cases z : 288 ≤ k
    · have : kp k = true := by
        unfold kp
        rw [Nat.ble_eq_true_of_le z, Bool.or_true]
      rw [hk] at this; cases this
    · omega
  rw [hx, puts_n hk2]
  exact ok_s (h.w hk (by omega) (by omega) (by omega))
theorem t_puts7 (h : G c0 c) {v : Int32} (hv : rB v) : ok (G c0) (P_X6_puts c 7 v) := by
  rw [show P_X6_puts c 7 v = some (mP c 21 7 v) from rfl]
  exact ok_s (h.w rfl (by omega) (by omega) (fun _ => hv))
theorem t_adds (h : G c0 c) {x v : Int32} (k : Nat) (hx : x = nI k) (hk : kp k = false) (hn : k ≠ 16 ∧ k ≠ 19 ∧ k ≠ 24 ∧ k ≠ 27 ∧ k ≠ 12 ∧ k ≠ 7) : ok (G c0) (P_X6_adds c x v) := by
  have hk2 : k < 1440 := by
    by_cases z : 288 ≤ k
    · have : kp k = true := by
        unfold kp
        rw [Nat.ble_eq_true_of_le z, Bool.or_true]
      rw [hk] at this; cases this
    · omega
  have e : P_X6_adds c (nI k) v = some (mP c 21 k (c 21 k + v)) := by
    unfold P_X6_adds
    rw [if_neg (nI_in hk2 (by decide)), if_neg (nI_in hk2 (by decide)), nI_clamp (by omega)]
  rw [hx, e]
  exact ok_s (h.w hk (by omega) (by omega) (by omega))
theorem t_ofRing (h : G c0 c) {x : Int32} (hx : r01 x) {y : Int32} (w : Nat) (hy : y = nI w) (hw : w < 8) : ok (fun v => v = c 21 (16 + 8 * x.toNatClampNeg + w)) (P_X6_ofRing c x y) := by
  subst hy
  rcases hx with rfl | rfl
  · have e : P_X6_ofRing c (nI 0) (nI w) = some (c 21 (16 + 8 * 0 + w)) := by
      unfold P_X6_ofRing mBd
      dsimp only
      rw [ring_n, of_n (by omega)]; rfl
    exact ⟨_, e, rfl⟩
  · have e : P_X6_ofRing c (nI 1) (nI w) = some (c 21 (16 + 8 * 1 + w)) := by
      unfold P_X6_ofRing mBd
      dsimp only
      rw [ring_n, of_n (by omega)]; rfl
    exact ⟨_, e, rfl⟩
theorem t_ofR0 (h : G c0 c) {x : Int32} (hx : r01 x) : ok (fun v => rQ v ∧ v = c 21 (16 + 8 * x.toNatClampNeg)) (P_X6_ofRing c x 0) := ok_mo (t_ofRing h hx 0 rfl (by decide)) (fun v hv => by
  subst hv
  refine ⟨?_, rfl⟩
  rcases hx with rfl | rfl
  · exact h.1.2.1.1
  · exact h.1.2.1.2.2.1)
theorem t_ofR3 (h : G c0 c) {x : Int32} (hx : r01 x) : ok rQ (P_X6_ofRing c x 3) := ok_mo (t_ofRing h hx 3 rfl (by decide)) (fun v hv => by
  subst hv
  rcases hx with rfl | rfl
  · exact h.1.2.1.2.1
  · exact h.1.2.1.2.2.2)
theorem kp_ring : ∀ k, 16 ≤ k → k < 32 → kp k = false := by
  have h : ∀ k, k < 32 → 16 ≤ k → kp k = false := by decide +kernel
  exact fun k h1 h2 => h k h2 h1
theorem t_putsR (h : G c0 c) {x : Int32} (hx : r01 x) {y v : Int32} (w : Nat) (hy : y = nI w) (hw : w < 8) (hv : w = 0 ∨ w = 3 → rQ v) : ok (G c0) (P_X6_putsRing c x y v) := by
  subst hy
  have key : ∀ r : Nat, r < 2 → ok (G c0) (P_X6_putsRing c (nI r) (nI w) v) := fun r hr => by
    rw [putsR_n hr hw]
    exact ok_s (h.w (kp_ring _ (by omega) (by omega)) (fun z => hv (by omega)) (by omega) (by omega))
  rcases hx with rfl | rfl
  · exact key 0 (by decide)
  · exact key 1 (by decide)
theorem phase_n (p w : Nat) : ((32 : Int32) + ((18 : Int32) * nI p)) + nI w = nI (32 + 18 * p + w) := by
  show (nI 32 + nI 18 * nI p) + nI w = _
  rw [show nI 18 * nI p = nI (18 * p) from (Int32.ofNat_mul 18 p).symm, nI_add, nI_add]
theorem ofP_n {m : mC} {p w : Nat} (hp : p < 8) (hw : w < 18) : P_X6_ofPhase m (nI p) (nI w) = some (m 21 (32 + 18 * p + w)) := by
  unfold P_X6_ofPhase
  rw [phase_n, of_n (by omega)]; rfl
theorem t_ofPhase (h : G c0 c) {x : Int32} (hx : rQ x) {y : Int32} (w : Nat) (hy : y = nI w) (hw : w < 18) : ok (fun _ => True) (P_X6_ofPhase c x y) := by
  subst hy
  rcases hx with rfl | ⟨p, hp, rfl⟩
  · have e : P_X6_ofPhase c (-1) (nI w) = some (c 21 (14 + w)) := by
      unfold P_X6_ofPhase
      rw [show (32 : Int32) + (18 : Int32) * (-1) = nI 14 from by decide, nI_add, of_n (by omega)]; rfl
    exact ⟨_, e, trivial⟩
  · exact ⟨_, ofP_n hp hw, trivial⟩
theorem t_ofP0 (h : G c0 c) {x : Int32} (hx : rP x) : ok r01 (P_X6_ofPhase c x 0) := by
  obtain ⟨p, hp, rfl⟩ := hx
  exact ⟨_, ofP_n (w := 0) hp (by decide), h.1.2.2.1 p hp⟩
theorem t_mark (h : G c0 c) {x : Int32} (hx : rQ x) {y : Int32} (w : Nat) (hy : y = nI w) (hw : w < 10) : ok (fun _ => True) (P_X6_mark c x y) := by
  unfold P_X6_mark
  refine ok_bo (t_ofPhase h hx (2 + w) (by rw [hy]; exact nI_add 2 w) (by omega)) (fun v _ => ok_s trivial)
theorem kp_ph : ∀ p, p < 8 → ∀ w, w < 18 → 12 ≤ w → kp (32 + 18 * p + w) = false := by decide +kernel
theorem t_putsP (h : G c0 c) {x : Int32} (hx : rP x) {y v : Int32} (w : Nat) (hy : y = nI w) (hw : w < 18) (h12 : 12 ≤ w) : ok (G c0) (P_X6_putsPhase c x y v) := by
  subst hy
  obtain ⟨p, hp, rfl⟩ := hx
  have e : P_X6_putsPhase c (nI p) (nI w) v = some (mP c 21 (32 + 18 * p + w) v) := by
    unfold P_X6_putsPhase
    rw [phase_n, puts_n (by omega)]; rfl
  rw [e]
  exact ok_s (h.w (kp_ph p hp w hw h12) (by omega) (by omega) (by omega))
theorem t_ofBreak (h : G c0 c) {x : Int32} (hx : rB x) {y : Int32} (w : Nat) (hy : y = nI w) (hw : w < 5) : ok (fun _ => True) (P_X6_ofBreak c x y) := by
  subst hy
  unfold P_X6_ofBreak
  rcases hx with rfl | rfl | rfl
  · rw [show (176 : Int32) + (5 : Int32) * (-1) = nI 171 from by decide, nI_add, of_n (by omega)]; exact ok_s trivial
  · rw [show (176 : Int32) + (5 : Int32) * 0 = nI 176 from by decide, nI_add, of_n (by omega)]; exact ok_s trivial
  · rw [show (176 : Int32) + (5 : Int32) * 1 = nI 181 from by decide, nI_add, of_n (by omega)]; exact ok_s trivial
theorem t_clears (h : G c0 c) {x : Int32} (hx : r01 x) : ok (G c0) (P_X6_clearsRing c x) := by
  have key : ∀ r : Nat, r < 2 → G c0 (clR r c) := fun r hr => by
    have hK : ∀ q, q ≤ 8 → G c0 (clK r q c) := by
      intro q
      induction q with
      | zero => intro _; rw [clK_0]; exact h
      | succ q ih =>
        intro hq
        rw [← clK_s]
        exact (ih (by omega)).w (kp_ring _ (by omega) (by omega)) (fun _ => rQ_0) (by omega) (by omega)
    unfold clR
    exact (((hK 8 (by decide)).w (kp_ring _ (by omega) (by omega)) (fun _ => rQ_m) (by omega) (by omega)).w (kp_ring _ (by omega) (by omega)) (by omega) (by omega) (by omega)).w (kp_ring _ (by omega) (by omega)) (fun _ => rQ_m) (by omega) (by omega)
  rcases hx with rfl | rfl
  · exact ⟨_, clears_eq (r := 0) (by decide) c, key 0 (by decide)⟩
  · exact ⟨_, clears_eq (r := 1) (by decide) c, key 1 (by decide)⟩
end LEAF2
