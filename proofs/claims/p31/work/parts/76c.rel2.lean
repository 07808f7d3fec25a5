/-! The crossings on both sides alike -/
def PQ (N : Nat) (c : mC) (f : Nat → Int32) : Prop := N ≤ 8 ∧ (∀ p, p < N → c 2 p = f (32 + 18 * p) ∧ c 3 p = f (32 + 18 * p + 1) ∧ ∀ k, k < 10 → c 5 (p * 10 + k) = f (32 + 18 * p + 2 + k)) ∧ (∀ p, p < N → c 4 p = FO (c 2) (c 3) p N) ∧ c 1 1 = f 2 ∧ c 1 2 = f 3
/-- the crossing c and the reference's block f -/
def CR (c : mC) (f : Nat → Int32) : Prop := ∃ N, PQ N c f ∧ (c 1 0 = nI N ∧ f 0 = nI N) ∧ (∃ s, s < 256 ∧ c 0 10 = nI s ∧ f 6 = nI s) ∧ (∃ w, w < 4 ∧ c 0 11 = nI w ∧ f 10 = nI w) ∧ c 0 12 = f 1
theorem PQ.k {N : Nat} {c c' : mC} {f f' : Nat → Int32} (h : PQ N c f) (k2 : ∀ q, c' 2 q = c 2 q) (k3 : ∀ q, c' 3 q = c 3 q) (k4 : ∀ q, c' 4 q = c 4 q) (k5 : ∀ q, c' 5 q = c 5 q) (k11 : c' 1 1 = c 1 1) (k12 : c' 1 2 = c 1 2) (kf : ∀ q, sB q = true → q ≠ 1 → f' q = f q) : PQ N c' f' := by
  obtain ⟨h1, h2, h3, h4, h5⟩ := h
  refine ⟨h1, fun p hp => ⟨?_, ?_, fun k hk => ?_⟩, fun p hp => ?_, ?_, ?_⟩
  · rw [k2, kf (32 + 18 * p) (sB_ph p (by omega) 0 (by decide)) (by omega)]; exact (h2 p hp).1
  · rw [k3, kf (32 + 18 * p + 1) (sB_ph p (by omega) 1 (by decide)) (by omega)]; exact (h2 p hp).2.1
  · rw [k5, show 32 + 18 * p + 2 + k = 32 + 18 * p + (2 + k) from by omega, kf _ (sB_ph p (by omega) (2 + k) (by omega)) (by omega), show 32 + 18 * p + (2 + k) = 32 + 18 * p + 2 + k from by omega]; exact (h2 p hp).2.2 k hk
  · rw [k4, show c' 2 = c 2 from funext k2, show c' 3 = c 3 from funext k3]; exact h3 p hp
  · rw [k11, kf 2 rfl (by decide)]; exact h4
  · rw [k12, kf 3 rfl (by decide)]; exact h5
theorem CR.k {c c' : mC} {f f' : Nat → Int32} (h : CR c f) (k : Kp sA c c') (kf : ∀ q, sB q = true → f' q = f q) : CR c' f' := by
  obtain ⟨N, h1, ⟨h2, h3⟩, ⟨s, h4, h5, h6⟩, ⟨w, h7, h8, h9⟩, h10⟩ := h
  refine ⟨N, h1.k (fun q => k 2 q rfl) (fun q => k 3 q rfl) (fun q => k 4 q rfl) (fun q => k 5 q rfl) (k 1 1 rfl) (k 1 2 rfl) (fun q a _ => kf q a), ⟨?_, ?_⟩, ⟨s, h4, ?_, ?_⟩, ⟨w, h7, ?_, ?_⟩, ?_⟩
  · rw [k 1 0 rfl]; exact h2
  · rw [kf 0 rfl]; exact h3
  · rw [k 0 10 rfl]; exact h5
  · rw [kf 6 rfl]; exact h6
  · rw [k 0 11 rfl]; exact h8
  · rw [kf 10 rfl]; exact h9
  · rw [k 0 12 rfl, kf 1 rfl]; exact h10
/-- ticks: n more on both sides -/
theorem CR.t {c c' : mC} {f f' : Nat → Int32} (h : CR c f) (n : Int32) (k : Kp sA (mP c 0 12 (c 0 12 + n)) c') (kf : ∀ q, sB q = true → q ≠ 1 → f' q = f q) (f1 : f' 1 = f 1 + n) : CR c' f' := by
  obtain ⟨N, h1, ⟨h2, h3⟩, ⟨s, h4, h5, h6⟩, ⟨w, h7, h8, h9⟩, h10⟩ := h
  refine ⟨N, h1.k (fun q => k 2 q rfl) (fun q => k 3 q rfl) (fun q => k 4 q rfl) (fun q => k 5 q rfl) (k 1 1 rfl) (k 1 2 rfl) kf, ⟨(k 1 0 rfl).trans h2, ?_⟩, ⟨s, h4, (k 0 10 rfl).trans h5, ?_⟩, ⟨w, h7, (k 0 11 rfl).trans h8, ?_⟩, ?_⟩
  · rw [kf 0 rfl (by decide)]; exact h3
  · rw [kf 6 rfl (by decide)]; exact h6
  · rw [kf 10 rfl (by decide)]; exact h9
  · rw [f1, k 0 12 rfl, mP_s, h10]
def R2 (k t : Nat) (g : mG) : Prop := R1 k t g ∧ CR (g 0) (g 7 21) ∧ ∀ i, i < k → CR (g (2 + i)) (fun q => g 7 21 (576 + 288 * i + q))
theorem R2.up {k t : Nat} {g g1 : mG} {c : mC} (h : R2 k t g) (hm : Md sN g g1) (hp : H (g 7) c) (hc : CR (g1 0) (c 21)) : R2 k t (mU g1 7 c) := by
  obtain ⟨h0, _, h2⟩ := h
  have hk := h0.1.1.2.2.1
  refine ⟨h0.up hm hp, ?_, fun i hi => ?_⟩
  · rw [mU_same, mU_ne _ _ (by decide)]; exact hc
  · have e : ∀ q, c 21 (576 + 288 * i + q) = g 7 21 (576 + 288 * i + q) := fun q => hp.2.2.1 _ (by omega)
    rw [mU_same, mU_ne _ _ (by omega), hm.1 _ (by omega) (by omega) (by omega), show (fun q => c 21 (576 + 288 * i + q)) = (fun q => g 7 21 (576 + 288 * i + q)) from funext e]
    exact h2 i hi
theorem R2.st {k t : Nat} {g g1 : mG} {v : Int32} {o : Option (Int32 × mC)} (h : R2 k t g) (hm : Md sN g g1) (ho : ok (fun p : Int32 × mC => H (g 7) p.2) o) (hc : ∀ p, o = some p → CR (g1 0) (p.2 21)) : ∃ w g2, (∃ m, o = some (w, m)) ∧ mBo none o (fun q => some ((v, q.1), mU g1 7 q.2)) = some ((v, w), g2) ∧ R2 k t g2 := by
  obtain ⟨p, rfl, hp⟩ := ho
  exact ⟨p.1, mU g1 7 p.2, ⟨p.2, rfl⟩, rfl, h.up hm hp (hc p rfl)⟩
theorem ok_po {α : Type} {Q : α → Prop} {o : Option α} (h : ok Q o) {a : α} (e : o = some a) : Q a := by
  obtain ⟨b, rfl, hb⟩ := h
  cases e
  exact hb
theorem CR.b {c c' : mC} {r : mC} {o : Option (Int32 × mC)} (h : CR c (r 21)) (k : Kp sA c c') (ho : ok (fun p : Int32 × mC => HB r p.2) o) : ∀ p, o = some p → CR c' (p.2 21) := fun p e => h.k k (fun q hq => (ok_po ho e).2.2 q hq)
-- the phases
theorem hasP_eq {c r : mC} (h : CR c (r 21)) (x : Int32) : P_X6_isPhase r x = some (P_X2_hasPhase c x) := by
  obtain ⟨N, _, ⟨h2, h3⟩, _⟩ := h
  unfold P_X6_isPhase P_X2_hasPhase J_X6_isPhase_17 J_X2_hasPhase_16
  by_cases z : x < 0
  · rw [if_pos z, if_pos z]
  · rw [if_neg z, if_neg z, show P_X6_of r 0 = some (r 21 0) from of_n (k := 0) (by decide), h2, h3]
    simp only [mBo]
    by_cases y : nI N ≤ x
    · rw [if_pos y, if_pos y]
    · rw [if_neg y, if_neg y]
theorem hasP_n {c r : mC} {N : Nat} (hN : N ≤ 8) (h2 : c 1 0 = nI N) {x : Int32} (h : ¬ P_X2_hasPhase c x = 0) : ∃ p, p < N ∧ x = nI p := by
  unfold P_X2_hasPhase J_X2_hasPhase_16 at h
  by_cases z : x < 0
  · rw [if_pos z] at h; exact absurd rfl h
  · rw [if_neg z, h2] at h
    by_cases y : nI N ≤ x
    · rw [if_pos y] at h; exact absurd rfl h
    · obtain ⟨p, hp, rfl⟩ := nI_of z
      refine ⟨p, ?_, rfl⟩
      have : ¬ N ≤ p := fun w => y ((nI_leI (by omega) (by omega)).mpr w)
      omega
theorem isF9 {x : Int32} : P_X6_isFrom x 0 9 = 0 ↔ (x < 0 ∨ ¬ x < 10) := by
  rw [isF_or]
  constructor
  · rintro (h | h)
    · exact Or.inl h
    · right
      intro z
      by_cases w : x < 0
      · exact absurd (Int32.lt_trans h w) (by decide)
      · obtain ⟨p, hp, rfl⟩ := nI_of w
        have a := (nI_ltI (a := 9) (by decide) (by omega)).mp h
        have b := (nI_ltI (b := 10) (by omega) (by decide)).mp z
        omega
  · rintro (h | h)
    · exact Or.inl h
    · by_cases w : x < 0
      · exact Or.inl w
      · right
        obtain ⟨p, hp, rfl⟩ := nI_of w
        have a : ¬ p < 10 := fun z => h ((nI_ltI (b := 10) (by omega) (by decide)).mpr z)
        exact (nI_ltI (a := 9) (by decide) (by omega)).mpr (by omega)
theorem mark_n {c r : mC} {N : Nat} (h : PQ N c (r 21)) {p k : Nat} (hp : p < N) (hk : k < 10) : P_X6_mark r (nI p) (nI k) = some (P_X2_markOf c (nI p) (nI k)) := by
  obtain ⟨h1, h2, _⟩ := h
  have e : nI p * 10 + nI k = nI (p * 10 + k) := by
    rw [show nI p * 10 = nI (p * 10) from (Int32.ofNat_mul p 10).symm, nI_add]
  unfold P_X6_mark P_X2_markOf
  rw [show (2 : Int32) + nI k = nI (2 + k) from nI_add 2 k, ofP_n (by omega) (by omega), e, cl_n (by omega) (by decide), (h2 p hp).2.2 k hk]
  simp only [mBo]
  rw [show 32 + 18 * p + (2 + k) = 32 + 18 * p + 2 + k from by omega]
theorem marked_v {g : mG} (h : CR (g 0) (g 7 21)) (x1 x2 : Int32) : ∃ m, P_X6_marked (g 7) x1 x2 = some ((P_X5_marked g x1 x2).1, m) := by
  obtain ⟨N, h1, ⟨h2, h3⟩, _⟩ := id h
  unfold P_X6_marked P_X5_marked
  rw [mBd_eq]
  by_cases z : P_X6_isFrom x2 0 9 = 0
  · rw [if_pos z]
    rcases isF9.mp z with w | w
    · rw [if_pos w]; exact ⟨_, rfl⟩
    · by_cases y : x2 < 0
      · rw [if_pos y]; exact ⟨_, rfl⟩
      · rw [if_neg y, if_neg w]; exact ⟨_, rfl⟩
  · have z2 : ¬ (x2 < 0 ∨ ¬ x2 < 10) := fun w => z (isF9.mpr w)
    have y : ¬ x2 < 0 := fun w => z2 (Or.inl w)
    have y2 : x2 < 10 := Decidable.byContradiction (fun w => z2 (Or.inr w))
    rw [if_neg z, if_neg y, if_pos y2, mBd_eq, hasP_eq h]
    simp only [mBo]
    by_cases w : P_X2_hasPhase (g 0) x1 = 0
    · rw [if_pos w, if_pos w]; exact ⟨_, rfl⟩
    · obtain ⟨p, hp, rfl⟩ := hasP_n (r := g 7) h1.1 h2 w
      obtain ⟨k, hk, rfl⟩ := nI_of y
      have hk10 := (nI_ltI (b := 10) (by omega) (by decide)).mp y2
      rw [if_neg w, if_neg w, mark_n h1 hp hk10, mBd_eq]
      exact ⟨_, rfl⟩
theorem PQ.m {N : Nat} {c : mC} {f : Nat → Int32} {p k : Nat} {v : Int32} (h : PQ N c f) (hp : p < N) (hk : k < 10) : PQ N (P_X2_putMark c (nI p) (nI k) v) (upF f (32 + 18 * p + 2 + k) v) := by
  obtain ⟨h1, h2, h3, h4, h5⟩ := h
  have e := putMark_eq (c := c) (v := v) (p := p) (by omega) hk
  have ej : ∀ j, j ≠ 1 → ∀ q, P_X2_putMark c (nI p) (nI k) v j q = mP c 5 (p * 10 + k) v j q := fun j hj q => by
    refine e j q ?_
    unfold sV
    rw [show Nat.beq j 1 = false from by
      cases z : Nat.beq j 1 with
      | false => rfl
      | true => exact absurd (Nat.eq_of_beq_eq_true z) hj]
    rfl
  have e2 : P_X2_putMark c (nI p) (nI k) v 2 = c 2 := funext (fun q => ej 2 (by decide) q)
  have e3 : P_X2_putMark c (nI p) (nI k) v 3 = c 3 := funext (fun q => ej 3 (by decide) q)
  have e4 : P_X2_putMark c (nI p) (nI k) v 4 = c 4 := funext (fun q => ej 4 (by decide) q)
  refine ⟨h1, fun p' hp' => ⟨?_, ?_, fun q hq => ?_⟩, fun p' hp' => ?_, ?_, ?_⟩
  · rw [e2, upF_n (by omega)]; exact (h2 p' hp').1
  · rw [e3, upF_n (by omega)]; exact (h2 p' hp').2.1
  · rw [ej 5 (by decide)]
    by_cases z : p' = p ∧ q = k
    · rw [z.1, z.2, mP_s, upF_s]
    · rw [mP_n _ _ _ (by omega), upF_n (by omega)]; exact (h2 p' hp').2.2 q hq
  · rw [e2, e3, e4]; exact h3 p' hp'
  · rw [e 1 1 rfl, upF_n (by omega)]; exact h4
  · rw [e 1 2 rfl, upF_n (by omega)]; exact h5
theorem CR.m {c : mC} {f : Nat → Int32} {N p k : Nat} {v : Int32} (h : CR c f) (hN : N ≤ 8) (n0 : c 1 0 = nI N) (hp : p < N) (hk : k < 10) : CR (P_X2_putMark c (nI p) (nI k) v) (upF f (32 + 18 * p + 2 + k) v) := by
  obtain ⟨N', h1, ⟨h2, h3⟩, ⟨s, h4, h5, h6⟩, ⟨w, h7, h8, h9⟩, h10⟩ := h
  have hlt : p < N' := by
    rw [h2] at n0
    have a := h1.1
    have := nI_j (a := N') (b := N) (by omega) (by omega) n0
    omega
  have e := putMark_eq (c := c) (v := v) (p := p) (by have := h1.1; omega) hk
  refine ⟨N', h1.m hlt hk, ⟨(e 1 0 rfl).trans h2, ?_⟩, ⟨s, h4, (e 0 10 rfl).trans h5, ?_⟩, ⟨w, h7, (e 0 11 rfl).trans h8, ?_⟩, ?_⟩
  · rw [upF_n (by omega)]; exact h3
  · rw [upF_n (by omega)]; exact h6
  · rw [upF_n (by omega)]; exact h9
  · rw [e 0 12 rfl, upF_n (by omega)]; exact h10
