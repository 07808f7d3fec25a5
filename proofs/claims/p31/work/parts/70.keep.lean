/-! What the class leaves -/
def pp {α : Type} (Q : α → Prop) (a : α) : Prop := Q a
def pp2 {S α : Type} (I : S → Prop) (Q : α → Prop) (x : S ⊕ α) : Prop := match x with
  | .inl s => I s
  | .inr r => Q r
theorem pp_bo {α β : Type} {P : α → Prop} {Q : β → Prop} {a : α} {f : α → β} (h : pp P a) (k : ∀ x, P x → pp Q (f x)) : pp Q (mBd a f) := k a h
theorem pp2_bo {α β S : Type} {P : α → Prop} {I : S → Prop} {Q : β → Prop} {a : α} {f : α → S ⊕ β} (h : pp P a) (k : ∀ x, P x → pp2 I Q (f x)) : pp2 I Q (mBd a f) := k a h
theorem pp_bd {α β : Type} {Q : β → Prop} {a : α} {f : α → β} (k : ∀ x, pp Q (f x)) : pp Q (mBd a f) := k a
theorem pp2_bd {α β S : Type} {I : S → Prop} {Q : β → Prop} {a : α} {f : α → S ⊕ β} (k : ∀ x, pp2 I Q (f x)) : pp2 I Q (mBd a f) := k a
theorem pp_if {β : Type} {Q : β → Prop} {p : Prop} {hd : Decidable p} {a b : β} (h1 : p → pp Q a) (h2 : ¬ p → pp Q b) : pp Q (@ite _ p hd a b) := by
  by_cases h : p
  · rw [if_pos h]; exact h1 h
  · rw [if_neg h]; exact h2 h
theorem pp2_if {β S : Type} {I : S → Prop} {Q : β → Prop} {p : Prop} {hd : Decidable p} {a b : S ⊕ β} (h1 : p → pp2 I Q a) (h2 : ¬ p → pp2 I Q b) : pp2 I Q (@ite _ p hd a b) := by
  by_cases h : p
  · rw [if_pos h]; exact h1 h
  · rw [if_neg h]; exact h2 h
theorem pp2_r {β S : Type} {I : S → Prop} {Q : β → Prop} {r : β} (h : pp Q r) : pp2 I Q (.inr r : S ⊕ β) := h
theorem pp2_l {β S : Type} {I : S → Prop} {Q : β → Prop} {s : S} (h : I s) : pp2 I Q (.inl s : S ⊕ β) := h
theorem pp_wh {S R : Type} {dv : R} {B : S → S ⊕ R} (I : S → Prop) {Q : R → Prop} (ht : mTm B) (hB : ∀ s, I s → pp2 I Q (B s)) {s : S} (hs : I s) : pp Q (mWh dv B s) :=
  mWh_ind (Inv := I) (Post := Q) ht (fun s s' hi e => by have := hB s hi; rw [e] at this; exact this) (fun s r hi e => by have := hB s hi; rw [e] at this; exact this) hs
theorem pp_wd {S R : Type} {dv : R} {B : S → S ⊕ R} (I : S → Prop) {Q : R → Prop} (hd : Q dv) (hB : ∀ s, I s → pp2 I Q (B s)) {s : S} (hs : I s) : pp Q (mWh dv B s) := by
  by_cases h : ∃ n r, mWn B n s = some r
  · obtain ⟨n, r, hn⟩ := h
    show Q (mWh dv B s)
    rw [mWh_of hn]
    exact mWn_ind (fun s s' hi e => by have := hB s hi; rw [e] at this; exact this) (fun s r hi e => by have := hB s hi; rw [e] at this; exact this) n s r hs hn
  · show Q (mWh dv B s)
    unfold mWh
    rw [dif_neg h]
    exact hd
/-- the cells of S are as they were -/
def Kp (S : Nat → Nat → Bool) (c0 c : mC) : Prop := ∀ j k, S j k = true → c j k = c0 j k
theorem Kp.rf {S : Nat → Nat → Bool} {c : mC} : Kp S c c := fun _ _ _ => rfl
theorem Kp.tr {S : Nat → Nat → Bool} {a b c : mC} (h : Kp S a b) (k : Kp S b c) : Kp S a c := fun i j q => (k i j q).trans (h i j q)
theorem Kp.w {S : Nat → Nat → Bool} {c0 c : mC} {j k : Nat} {v : Int32} (h : Kp S c0 c) (hj : S j k = false) : Kp S c0 (mP c j k v) := fun j' k' e => by
  show (if j' = j ∧ k' = k then v else c j' k') = _
  rw [if_neg (fun z => by rw [z.1, z.2, hj] at e; cases e)]
  exact h j' k' e
theorem Kp.a {S : Nat → Nat → Bool} {c0 c : mC} {j : Nat} {f : Nat → Int32} (h : Kp S c0 c) (hj : ∀ k, S j k = false) : Kp S c0 (mA c j f) := fun j' k' e => by
  unfold mA
  by_cases z : j' = j
  · rw [z, hj k'] at e; cases e
  · rw [if_neg z]; exact h j' k' e
theorem Kp.cp {S : Nat → Nat → Bool} {c0 c : mC} {n j : Nat} {f : Nat → Int32} (h : Kp S c0 c) (hj : ∀ k, S j k = false) : Kp S c0 (mCp n c j f) := h.a hj
theorem Kp.fi {S : Nat → Nat → Bool} {c0 c : mC} {n j : Nat} {v : Int32} (h : Kp S c0 c) (hj : ∀ k, S j k = false) : Kp S c0 (mFi n c j v) := h.a hj
theorem Kp.pu {S : Nat → Nat → Bool} {c0 c : mC} {n j : Nat} {k v : Int32} (h : Kp S c0 c) (hj : ∀ k, S j k = false) : Kp S c0 (pt n c j k v) := by
  unfold pt
  split
  · exact h
  · exact h.w (hj _)
/-- what a public row of RingedLights leaves: all owners but 0, 1, 6; of 6 all but the status; of 0 the cells of S -/
def Md (S : Nat → Nat → Bool) (g0 g : mG) : Prop := (∀ i, i ≠ 0 → i ≠ 1 → i ≠ 6 → g i = g0 i) ∧ (∀ j k, ¬ (j = 18 ∧ k = 9) → g 6 j k = g0 6 j k) ∧ Kp S (g0 0) (g 0)
theorem Md.rf {S : Nat → Nat → Bool} {g : mG} : Md S g g := ⟨fun _ _ _ _ => rfl, fun _ _ _ => rfl, Kp.rf⟩
theorem Md.k {S : Nat → Nat → Bool} {g0 g : mG} (h : Md S g0 g) : Kp S (g0 0) (g 0) := h.2.2
theorem Md.u0 {S : Nat → Nat → Bool} {g0 g : mG} {c : mC} (h : Md S g0 g) (k : Kp S (g0 0) c) : Md S g0 (mU g 0 c) := by
  obtain ⟨h1, h2, _⟩ := h
  exact ⟨fun i a b d => by rw [mU_ne _ _ a]; exact h1 i a b d, fun j q n => by rw [mU_ne _ _ (by decide)]; exact h2 j q n, by rw [mU_same]; exact k⟩
theorem Md.u1 {S : Nat → Nat → Bool} {g0 g : mG} {c : mC} (h : Md S g0 g) : Md S g0 (mU g 1 c) := by
  obtain ⟨h1, h2, h3⟩ := h
  exact ⟨fun i a b d => by rw [mU_ne _ _ b]; exact h1 i a b d, fun j q n => by rw [mU_ne _ _ (by decide)]; exact h2 j q n, by rw [mU_ne _ _ (by decide)]; exact h3⟩
theorem Md.u6 {S : Nat → Nat → Bool} {g0 g : mG} {v : Int32} (h : Md S g0 g) : Md S g0 (mU g 6 (mP (g 6) 18 9 v)) := by
  obtain ⟨h1, h2, h3⟩ := h
  refine ⟨fun i a b d => by rw [mU_ne _ _ d]; exact h1 i a b d, fun j q n => ?_, by rw [mU_ne _ _ (by decide)]; exact h3⟩
  rw [mU_same]
  show (if j = 18 ∧ q = 9 then v else g 6 j q) = _
  rw [if_neg n]
  exact h2 j q n
/-- how many phases: the plan's first cell -/
def sN (j k : Nat) : Bool := Nat.beq j 1 && Nat.beq k 0
theorem sN_r {r k : Nat} (h : 8 ≤ r) : sN r k = false := by
  unfold sN
  rw [show Nat.beq r 1 = false from by rcases r with _ | _ | r <;> first | omega | rfl, Bool.false_and]
theorem kn_P_X4_takeFrom {c0 : mC} {r : Nat} (h_r : 8 ≤ r) {c : mC} (h_c : Kp sN c0 c) {co : mC} : pp (fun p : mC => Kp sN c0 p) (P_X4_takeFrom r c co) :=
  (Kp.w (Kp.w (Kp.w (Kp.w (Kp.w (Kp.w (Kp.w (Kp.w h_c (sN_r h_r)) (sN_r h_r)) (sN_r h_r)) (sN_r h_r)) (sN_r h_r)) (sN_r h_r)) (sN_r h_r)) (sN_r h_r))
theorem kn_P_X1_takeFrom {c0 : mC} {c : mC} (h_c : Kp sN c0 c) {co : mC} : pp (fun p : mC => Kp sN c0 p) (P_X1_takeFrom c co) :=
  (pp_bo (P := Kp sN c0) (Kp.cp (Kp.w (Kp.w h_c rfl) rfl) (fun _ => rfl)) (fun v2 h1 => (pp_bo (P := Kp sN c0) (Kp.cp h1 (fun _ => rfl)) (fun v4 h3 => (pp_bo (P := Kp sN c0) (Kp.cp h3 (fun _ => rfl)) (fun v6 h5 => h5))))))
theorem kn_P_X1_wipe {c0 : mC} {c : mC} (h_c : Kp sN c0 c) : pp (fun p : mC => Kp sN c0 p) (P_X1_wipe c) :=
  (Kp.w (Kp.w h_c rfl) rfl)
theorem kn_P_X4_waitFor {c0 : mC} {r : Nat} (h_r : 8 ≤ r) {c : mC} (h_c : Kp sN c0 c) {x1 : Int32} : pp (fun p : mC => Kp sN c0 p) (P_X4_waitFor r c x1) :=
  (Kp.w (Kp.w (Kp.w (Kp.w h_c (sN_r h_r)) (sN_r h_r)) (sN_r h_r)) (sN_r h_r))
theorem kn_J_X4_walkOn_39 {c0 : mC} {r : Nat} (h_r : 8 ≤ r) {c : mC} (h_c : Kp sN c0 c) {x2 : Int32} : pp (fun p : mC => Kp sN c0 p) (J_X4_walkOn_39 r c x2) :=
  (pp_if (fun _ => (pp_if (fun _ => h_c) (fun _ => (Kp.w h_c (sN_r h_r))))) (fun _ => h_c))
theorem kn_J_X4_walkOn_18 {c0 : mC} {r : Nat} (h_r : 8 ≤ r) {c : mC} (h_c : Kp sN c0 c) {x1 : Int32} {x2 : Int32} : pp (fun p : mC => Kp sN c0 p) (J_X4_walkOn_18 r c x1 x2) :=
  (pp_if (fun _ => (pp_if (fun _ => (kn_J_X4_walkOn_39 h_r h_c)) (fun _ => (kn_J_X4_walkOn_39 h_r (Kp.w h_c (sN_r h_r)))))) (fun _ => (kn_J_X4_walkOn_39 h_r h_c)))
theorem kn_P_X4_walkOn {c0 : mC} {r : Nat} (h_r : 8 ≤ r) {c : mC} (h_c : Kp sN c0 c) {x1 : Int32} {x2 : Int32} : pp (fun p : mC => Kp sN c0 p) (P_X4_walkOn r c x1 x2) :=
  (pp_if (fun _ => (kn_J_X4_walkOn_18 h_r (Kp.w h_c (sN_r h_r)))) (fun _ => (kn_J_X4_walkOn_18 h_r h_c)))
theorem kn_J_X4_growDark_26 {c0 : mC} {r : Nat} (h_r : 8 ≤ r) {c : mC} (h_c : Kp sN c0 c) {x2 : Int32} : pp (fun p : mC => Kp sN c0 p) (J_X4_growDark_26 r c x2) :=
  (pp_if (fun _ => (pp_if (fun _ => h_c) (fun _ => (pp_bo (P := Kp sN c0) (kn_P_X4_waitFor h_r h_c) (fun v2 h1 => h1))))) (fun _ => h_c))
theorem kn_P_X4_growDark {c0 : mC} {r : Nat} (h_r : 8 ≤ r) {c : mC} (h_c : Kp sN c0 c) {x1 : Int32} {x2 : Int32} : pp (fun p : mC => Kp sN c0 p) (P_X4_growDark r c x1 x2) :=
  (pp_if (fun _ => (pp_if (fun _ => (kn_J_X4_growDark_26 h_r h_c)) (fun _ => (kn_J_X4_growDark_26 h_r (Kp.w (Kp.w h_c (sN_r h_r)) (sN_r h_r)))))) (fun _ => (kn_J_X4_growDark_26 h_r h_c)))
theorem kn_J_X1_note_46 {c0 : mC} {c : mC} (h_c : Kp sN c0 c) : pp (fun p : mC => Kp sN c0 p) (J_X1_note_46 c) :=
  (pp_bd (fun v1 => (Kp.w (Kp.w h_c rfl) rfl)))
theorem kn_P_X1_note {c0 : mC} {c : mC} (h_c : Kp sN c0 c) {x1 : Int32} {x2 : Int32} {x3 : Int32} : pp (fun p : mC => Kp sN c0 p) (P_X1_note c x1 x2 x3) :=
  (pp_if (fun _ => (kn_J_X1_note_46 h_c)) (fun _ => (pp_if (fun _ => (kn_J_X1_note_46 h_c)) (fun _ => (kn_J_X1_note_46 (Kp.w (Kp.w (Kp.w h_c rfl) rfl) rfl))))))
theorem kn_P_X4_turnYellow {c0 : mC} {r : Nat} (h_r : 8 ≤ r) {c : mC} (h_c : Kp sN c0 c) {x1 : Int32} : pp (fun p : mC => Kp sN c0 p) (P_X4_turnYellow r c x1) :=
  (Kp.w (Kp.w (Kp.w (Kp.w h_c (sN_r h_r)) (sN_r h_r)) (sN_r h_r)) (sN_r h_r))
theorem kn_J_X4_turnGreen_45 {c0 : mC} {r : Nat} (h_r : 8 ≤ r) {c : mC} (h_c : Kp sN c0 c) {s1 : Int32} : pp (fun p : mC => Kp sN c0 p) (J_X4_turnGreen_45 r c s1) :=
  (Kp.w h_c (sN_r h_r))
theorem kn_P_X4_turnGreen {c0 : mC} {r : Nat} (h_r : 8 ≤ r) {c : mC} (h_c : Kp sN c0 c) {x1 : Int32} {x2 : Int32} : pp (fun p : mC => Kp sN c0 p) (P_X4_turnGreen r c x1 x2) :=
  (pp_if (fun _ => (kn_J_X4_turnGreen_45 h_r (Kp.w (Kp.w (Kp.w (Kp.w (Kp.w (Kp.w (Kp.w h_c (sN_r h_r)) (sN_r h_r)) (sN_r h_r)) (sN_r h_r)) (sN_r h_r)) (sN_r h_r)) (sN_r h_r)))) (fun _ => (kn_J_X4_turnGreen_45 h_r (Kp.w (Kp.w (Kp.w (Kp.w (Kp.w (Kp.w (Kp.w h_c (sN_r h_r)) (sN_r h_r)) (sN_r h_r)) (sN_r h_r)) (sN_r h_r)) (sN_r h_r)) (sN_r h_r)))))
theorem kn_P_X0_dropBreak {c0 : mC} {c : mC} (h_c : Kp sN c0 c) : pp (fun p : mC => Kp sN c0 p) (P_X0_dropBreak c) :=
  (Kp.w (Kp.w (Kp.w h_c rfl) rfl) rfl)
theorem kn_J_X0_startRings_27 {c0 : mC} {c : mC} (h_c : Kp sN c0 c) {s0 : Int32} : pp (fun p : mC => Kp sN c0 p) (J_X0_startRings_27 c s0) :=
  (pp_bd (fun v1 => (pp_bd (fun v2 => (pp_bo (P := Kp sN c0) (kn_P_X4_waitFor (show 8 ≤ 8 by decide) h_c) (fun v4 h3 => (pp_bd (fun v5 => (pp_bd (fun v6 => (pp_bo (P := Kp sN c0) (kn_P_X4_waitFor (show 8 ≤ 9 by decide) h3) (fun v8 h7 => h7))))))))))))
theorem kn_P_X0_startRings {c0 : mC} {c : mC} (h_c : Kp sN c0 c) : pp (fun p : mC => Kp sN c0 p) (P_X0_startRings c) :=
  (pp_bd (fun v1 => (pp_bd (fun v2 => (pp_if (fun _ => (kn_J_X0_startRings_27 h_c)) (fun _ => (kn_J_X0_startRings_27 h_c)))))))
theorem kn_P_X0_beginAnew {c0 : mC} {c : mC} (h_c : Kp sN c0 c) : pp (fun p : mC => Kp sN c0 p) (P_X0_beginAnew c) :=
  (pp_bo (P := Kp sN c0) (kn_P_X1_wipe h_c) (fun v2 h1 => (pp_bo (P := Kp sN c0) (Kp.fi h1 (fun _ => rfl)) (fun v4 h3 => (pp_bo (P := Kp sN c0) (Kp.fi h3 (fun _ => rfl)) (fun v6 h5 => (pp_bo (P := Kp sN c0) (kn_P_X0_dropBreak (Kp.w (Kp.w (Kp.w (Kp.w (Kp.w (Kp.w (Kp.w (Kp.w (Kp.w (Kp.w h5 rfl) rfl) rfl) rfl) rfl) rfl) rfl) rfl) rfl) rfl)) (fun v8 h7 => (pp_bo (P := Kp sN c0) (kn_P_X0_startRings h7) (fun v10 h9 => h9))))))))))
theorem kn_J_X0_putQueue_24 {c0 : mC} {c : mC} (h_c : Kp sN c0 c) {s1 : Int32} {s2 : Int32} {s3 : Int32} : pp (fun p : mC => Kp sN c0 p) (J_X0_putQueue_24 c s1 s2 s3) :=
  (pp_bd (fun v1 => (Kp.w h_c rfl)))
theorem kn_P_X0_putQueue {c0 : mC} {c : mC} (h_c : Kp sN c0 c) {x1 : Int32} {x2 : Int32} : pp (fun p : mC => Kp sN c0 p) (P_X0_putQueue c x1 x2) :=
  (pp_bo (P := Kp sN c0) (Kp.pu h_c (fun _ => rfl)) (fun v2 h1 => (pp_if (fun _ => (kn_J_X0_putQueue_24 h1)) (fun _ => (kn_J_X0_putQueue_24 h1)))))
theorem kn_P_X0_takeCall {c0 : mC} {c : mC} (h_c : Kp sN c0 c) {x1 : Int32} : pp (fun p : mC => Kp sN c0 p) (P_X0_takeCall c x1) :=
  (pp_bd (fun v1 => (pp_if (fun _ => (pp_bd (fun v2 => (Kp.w h_c rfl)))) (fun _ => (pp_bd (fun v3 => (Kp.w h_c rfl)))))))
theorem kn_J_X0_callOthers_23 {c0 : mC} {c : mC} (h_c : Kp sN c0 c) {x1 : Int32} {x2 : Int32} : pp2 (fun s : Int32 × mC => Kp sN c0 s.2) (fun p : mC => Kp sN c0 p) (J_X0_callOthers_23 c x1 x2) :=
  (pp2_l h_c)
theorem kn_B_X0_callOthers_2 {c0 : mC} {x1 : Int32} : ∀ s : Int32 × mC, (fun s : Int32 × mC => Kp sN c0 s.2) s → pp2 (fun s : Int32 × mC => Kp sN c0 s.2) (fun p : mC => Kp sN c0 p) (B_X0_callOthers_2 x1 s) := by
  rintro ⟨x2, c⟩ h_s
  unfold B_X0_callOthers_2
  dsimp only
  exact (pp2_if (fun _ => (pp2_r h_s)) (fun _ => (pp2_if (fun _ => (kn_J_X0_callOthers_23 h_s)) (fun _ => (pp2_bo (P := Kp sN c0) (kn_P_X0_takeCall h_s) (fun v2 h1 => (kn_J_X0_callOthers_23 h1)))))))
theorem kn_P_X0_callOthers {c0 : mC} {c : mC} (h_c : Kp sN c0 c) {x1 : Int32} : pp (fun p : mC => Kp sN c0 p) (P_X0_callOthers c x1) :=
  (pp_wh (fun s : Int32 × mC => Kp sN c0 s.2) tm_X0_callOthers_2 kn_B_X0_callOthers_2 h_c)
theorem kn_J_X0_takeCycle_25 {c0 : mC} {c : mC} (h_c : Kp sN c0 c) {s1 : Int32} : pp (fun p : mC => Kp sN c0 p) (J_X0_takeCycle_25 c s1) :=
  (Kp.w h_c rfl)
theorem kn_P_X0_takeCycle {c0 : mC} {c : mC} (h_c : Kp sN c0 c) {x1 : Int32} : pp (fun p : mC => Kp sN c0 p) (P_X0_takeCycle c x1) :=
  (pp_if (fun _ => (kn_J_X0_takeCycle_25 (Kp.w h_c rfl))) (fun _ => (pp_bd (fun v1 => (kn_J_X0_takeCycle_25 (Kp.w h_c rfl))))))
theorem kn_J_X0_takeComers_85 {c0 : mC} {c : mC} (h_c : Kp sN c0 c) {x4 : Int32} {x2 : Int64} : pp2 (fun s : Int64 × Int32 × mC => Kp sN c0 s.2.2) (fun p : Int32 × mC => Kp sN c0 p.2) (J_X0_takeComers_85 c x4 x2) :=
  (pp2_l h_c)
theorem kn_B_X0_takeComers_6 {c0 : mC}  : ∀ s : Int64 × Int32 × mC, (fun s : Int64 × Int32 × mC => Kp sN c0 s.2.2) s → pp2 (fun s : Int64 × Int32 × mC => Kp sN c0 s.2.2) (fun p : Int32 × mC => Kp sN c0 p.2) (B_X0_takeComers_6 s) := by
  rintro ⟨x2, x4, c⟩ h_s
  unfold B_X0_takeComers_6
  dsimp only
  exact (pp2_if (fun _ => (pp2_r h_s)) (fun _ => (pp2_bd (fun v1 => (pp2_bd (fun v2 => (pp2_if (fun _ => (kn_J_X0_takeComers_85 h_s)) (fun _ => (pp2_if (fun _ => (kn_J_X0_takeComers_85 h_s)) (fun _ => (pp2_bo (P := Kp sN c0) (kn_P_X0_putQueue h_s) (fun v4 h3 => (kn_J_X0_takeComers_85 h3)))))))))))))
theorem kn_P_X0_takeComers {c0 : mC} {c : mC} (h_c : Kp sN c0 c) {x1 : Int32} : pp (fun p : Int32 × mC => Kp sN c0 p.2) (P_X0_takeComers c x1) :=
  (pp_wh (fun s : Int64 × Int32 × mC => Kp sN c0 s.2.2) tm_X0_takeComers_6 kn_B_X0_takeComers_6 h_c)
theorem kn_P_X0_moveClock {c0 : mC} {c : mC} (h_c : Kp sN c0 c) : pp (fun p : mC => Kp sN c0 p) (P_X0_moveClock c) :=
  (pp_if (fun _ => (pp_bd (fun v1 => (pp_bd (fun v2 => (pp_if (fun _ => (Kp.w h_c rfl)) (fun _ => (pp_if (fun _ => (pp_if (fun _ => (pp_bd (fun v3 => (Kp.w (Kp.w h_c rfl) rfl)))) (fun _ => (pp_bd (fun v4 => (Kp.w (Kp.w h_c rfl) rfl)))))) (fun _ => (Kp.w h_c rfl)))))))))) (fun _ => h_c))
theorem kn_J_X0_ageGreen_99 {c0 : mC} {r : Nat} (h_r : 8 ≤ r) {c : mC} (h_c : Kp sN c0 c) {x2 : Int32} : pp (fun p : mC => Kp sN c0 p) (J_X0_ageGreen_99 r c x2) :=
  (pp_bd (fun v1 => (pp_bd (fun v2 => (pp_bo (P := Kp sN c0) (kn_P_X4_walkOn h_r h_c) (fun v4 h3 => h3))))))
theorem kn_J_X0_ageGreen_73 {c0 : mC} {r : Nat} (h_r : 8 ≤ r) {c : mC} (h_c : Kp sN c0 c) {x2 : Int32} : pp (fun p : mC => Kp sN c0 p) (J_X0_ageGreen_73 r c x2) :=
  (pp_bd (fun v1 => (pp_bd (fun v2 => (pp_if (fun _ => (kn_J_X0_ageGreen_99 h_r h_c)) (fun _ => (kn_J_X0_ageGreen_99 h_r (Kp.w h_c (sN_r h_r)))))))))
theorem kn_J_X0_ageGreen_40 {c0 : mC} {r : Nat} (h_r : 8 ≤ r) {c : mC} (h_c : Kp sN c0 c) {x2 : Int32} {x3 : Int32} {s1 : Int32} : pp (fun p : mC => Kp sN c0 p) (J_X0_ageGreen_40 r c x2 x3 s1) :=
  (pp_if (fun _ => (kn_J_X0_ageGreen_73 h_r (Kp.w h_c (sN_r h_r)))) (fun _ => (pp_bo (P := Kp sN c0) (kn_P_X0_putQueue (Kp.w h_c (sN_r h_r))) (fun v2 h1 => (pp_bd (fun v3 => (pp_bo (P := Kp sN c0) (Kp.pu h1 (fun _ => rfl)) (fun v5 h4 => (kn_J_X0_ageGreen_73 h_r h4)))))))))
theorem kn_J_X0_ageGreen_30 {c0 : mC} {r : Nat} (h_r : 8 ≤ r) {c : mC} (h_c : Kp sN c0 c) {x2 : Int32} {x3 : Int32} : pp (fun p : mC => Kp sN c0 p) (J_X0_ageGreen_30 r c x2 x3) :=
  (kn_J_X0_ageGreen_40 h_r h_c)
theorem kn_P_X0_ageGreen {c0 : mC} {r : Nat} (h_r : 8 ≤ r) {c : mC} (h_c : Kp sN c0 c) : pp (fun p : mC => Kp sN c0 p) (P_X0_ageGreen r c) :=
  (pp_bd (fun v1 => (pp_if (fun _ => (kn_J_X0_ageGreen_30 h_r h_c)) (fun _ => (pp_bd (fun v2 => (pp_if (fun _ => (kn_J_X0_ageGreen_40 h_r h_c)) (fun _ => (kn_J_X0_ageGreen_30 h_r h_c)))))))))
theorem kn_P_X0_ageRing {c0 : mC} {r : Nat} (h_r : 8 ≤ r) {c : mC} (h_c : Kp sN c0 c) : pp (fun p : mC => Kp sN c0 p) (P_X0_ageRing r c) :=
  (pp_bd (fun v1 => (pp_if (fun _ => h_c) (fun _ => (pp_bd (fun v2 => (pp_if (fun _ => (pp_bd (fun v3 => (pp_bd (fun v4 => (pp_bo (P := Kp sN c0) (kn_P_X4_growDark h_r (Kp.w h_c (sN_r h_r))) (fun v6 h5 => h5))))))) (fun _ => (pp_bo (P := Kp sN c0) (kn_P_X0_ageGreen h_r (Kp.w h_c (sN_r h_r))) (fun v8 h7 => h7))))))))))
theorem kn_J_X0_beginBreak_23 {c0 : mC} {c : mC} (h_c : Kp sN c0 c) {x1 : Int32} {s1 : Int32} : pp (fun p : mC => Kp sN c0 p) (J_X0_beginBreak_23 c x1 s1) :=
  (pp_bo (P := Kp sN c0) (kn_P_X1_note (Kp.w (Kp.w h_c rfl) rfl)) (fun v2 h1 => h1))
theorem kn_P_X0_beginBreak {c0 : mC} {c : mC} (h_c : Kp sN c0 c) {x1 : Int32} : pp (fun p : mC => Kp sN c0 p) (P_X0_beginBreak c x1) :=
  (pp_bd (fun v1 => (pp_if (fun _ => (kn_J_X0_beginBreak_23 (Kp.w h_c rfl))) (fun _ => (kn_J_X0_beginBreak_23 (Kp.w h_c rfl))))))
theorem kn_P_X0_beginWanted {c0 : mC} {c : mC} (h_c : Kp sN c0 c) : pp (fun p : mC => Kp sN c0 p) (P_X0_beginWanted c) :=
  (pp_bd (fun v1 => (pp_if (fun _ => (pp_bd (fun v2 => (pp_if (fun _ => h_c) (fun _ => (pp_bo (P := Kp sN c0) (kn_P_X0_beginBreak h_c) (fun v4 h3 => h3))))))) (fun _ => (pp_bo (P := Kp sN c0) (kn_P_X0_beginBreak h_c) (fun v6 h5 => h5))))))
theorem kn_P_X0_goTo {c0 : mC} {r : Nat} (h_r : 8 ≤ r) {c : mC} (h_c : Kp sN c0 c) {x2 : Int32} : pp (fun p : mC => Kp sN c0 p) (P_X0_goTo r c x2) :=
  (pp_bd (fun v1 => (pp_if (fun _ => (Kp.w h_c (sN_r h_r))) (fun _ => (pp_bo (P := Kp sN c0) (kn_P_X1_note h_c) (fun v3 h2 => (pp_bo (P := Kp sN c0) (kn_P_X4_turnYellow h_r h2) (fun v5 h4 => h4))))))))
theorem kn_J_X0_steer_66 {c0 : mC} {r : Nat} (h_r : 8 ≤ r) {c : mC} (h_c : Kp sN c0 c) {x2 : Int32} : pp (fun p : mC => Kp sN c0 p) (J_X0_steer_66 r c x2) :=
  (pp_bo (P := Kp sN c0) (kn_P_X0_goTo h_r h_c) (fun v2 h1 => h1))
theorem kn_J_X0_steer_40 {c0 : mC} {r : Nat} (h_r : 8 ≤ r) {c : mC} (h_c : Kp sN c0 c) {x2 : Int32} : pp (fun p : mC => Kp sN c0 p) (J_X0_steer_40 r c x2) :=
  (pp_if (fun _ => (kn_J_X0_steer_66 h_r h_c)) (fun _ => (pp_bd (fun v1 => (pp_if (fun _ => h_c) (fun _ => (kn_J_X0_steer_66 h_r h_c)))))))
theorem kn_P_X0_steer {c0 : mC} {r : Nat} (h_r : 8 ≤ r) {c : mC} (h_c : Kp sN c0 c) {x2 : Int32} : pp (fun p : mC => Kp sN c0 p) (P_X0_steer r c x2) :=
  (pp_bd (fun v1 => (pp_if (fun _ => (Kp.w h_c (sN_r h_r))) (fun _ => (pp_if (fun _ => h_c) (fun _ => (pp_if (fun _ => (kn_J_X0_steer_40 h_r (Kp.w (Kp.w h_c (sN_r h_r)) (sN_r h_r)))) (fun _ => (kn_J_X0_steer_40 h_r h_c)))))))))
theorem kn_P_X0_turnGreen {c0 : mC} {r : Nat} (h_r : 8 ≤ r) {p2 : Nat} (h_p2 : 8 ≤ p2) {c : mC} (h_c : Kp sN c0 c) : pp (fun p : mC => Kp sN c0 p) (P_X0_turnGreen r p2 c) :=
  (pp_if (fun _ => (pp_if (fun _ => h_c) (fun _ => (pp_bd (fun v1 => (pp_bd (fun v2 => (pp_if (fun _ => (pp_bd (fun v3 => (pp_bd (fun v4 => (pp_bo (P := Kp sN c0) (kn_P_X4_turnGreen h_r h_c) (fun v6 h5 => (pp_bd (fun v7 => (pp_bd (fun v8 => (pp_bo (P := Kp sN c0) (kn_P_X1_note (Kp.w (Kp.w h5 rfl) rfl)) (fun v10 h9 => h9))))))))))))) (fun _ => h_c))))))))) (fun _ => h_c))
theorem kn_P_X0_seek {c0 : mC} {c : mC} (h_c : Kp sN c0 c) {x1 : Int32} : pp (fun p : mC => Kp sN c0 p) (P_X0_seek c x1) :=
  (pp_bd (fun v1 => (pp_bd (fun v2 => (pp_bd (fun v3 => (pp_bd (fun v4 => (pp_bd (fun v5 => (pp_bd (fun v6 => (pp_bo (P := Kp sN c0) (kn_P_X0_steer (show 8 ≤ 8 by decide) h_c) (fun v8 h7 => (pp_bo (P := Kp sN c0) (kn_P_X0_steer (show 8 ≤ 9 by decide) h7) (fun v10 h9 => (pp_bo (P := Kp sN c0) (kn_P_X0_turnGreen (show 8 ≤ 8 by decide) (show 8 ≤ 9 by decide) h9) (fun v12 h11 => (pp_bo (P := Kp sN c0) (kn_P_X0_turnGreen (show 8 ≤ 9 by decide) (show 8 ≤ 8 by decide) h11) (fun v14 h13 => (pp_bd (fun v15 => (pp_if (fun _ => h13) (fun _ => (pp_bd (fun v16 => (pp_if (fun _ => h13) (fun _ => (Kp.w (Kp.w h13 rfl) rfl)))))))))))))))))))))))))))))
theorem kn_P_X0_stayOnTrack {c0 : mC} {c : mC} (h_c : Kp sN c0 c) : pp (fun p : mC => Kp sN c0 p) (P_X0_stayOnTrack c) :=
  (pp_bd (fun v1 => (pp_if (fun _ => (Kp.w h_c rfl)) (fun _ => (Kp.w (Kp.w (Kp.w h_c rfl) rfl) rfl)))))
theorem kn_J_X0_resume_92 {c0 : mC} {c : mC} (h_c : Kp sN c0 c) {x1 : Int32} : pp (fun p : mC => Kp sN c0 p) (J_X0_resume_92 c x1) :=
  (pp_bd (fun v1 => (pp_if (fun _ => (pp_bd (fun v2 => (pp_bd (fun v3 => (Kp.w h_c rfl)))))) (fun _ => h_c))))
theorem kn_J_X0_resume_59 {c0 : mC} {c : mC} (h_c : Kp sN c0 c) {s1 : Int32} : pp (fun p : mC => Kp sN c0 p) (J_X0_resume_59 c s1) :=
  (pp_bd (fun v1 => (pp_bd (fun v2 => (pp_if (fun _ => (pp_bd (fun v3 => (pp_bd (fun v4 => (kn_J_X0_resume_92 (Kp.w h_c rfl))))))) (fun _ => (kn_J_X0_resume_92 h_c)))))))
theorem kn_J_X0_resume_25 {c0 : mC} {c : mC} (h_c : Kp sN c0 c) : pp (fun p : mC => Kp sN c0 p) (J_X0_resume_25 c) :=
  (pp_bd (fun v1 => (pp_if (fun _ => (kn_J_X0_resume_59 h_c)) (fun _ => (kn_J_X0_resume_59 h_c)))))
theorem kn_P_X0_resume {c0 : mC} {c : mC} (h_c : Kp sN c0 c) : pp (fun p : mC => Kp sN c0 p) (P_X0_resume c) :=
  (pp_bd (fun v1 => (pp_if (fun _ => (pp_bd (fun v2 => (pp_if (fun _ => (pp_bo (P := Kp sN c0) (kn_P_X0_startRings h_c) (fun v4 h3 => h3))) (fun _ => (kn_J_X0_resume_25 h_c)))))) (fun _ => (kn_J_X0_resume_25 h_c)))))
theorem kn_P_X0_stayOnDwell {c0 : mC} {c : mC} (h_c : Kp sN c0 c) : pp (fun p : mC => Kp sN c0 p) (P_X0_stayOnDwell c) :=
  (pp_bd (fun v1 => (pp_if (fun _ => (Kp.w h_c rfl)) (fun _ => (pp_bd (fun v2 => (pp_if (fun _ => (pp_bo (P := Kp sN c0) (kn_P_X1_note (Kp.w h_c rfl)) (fun v4 h3 => (pp_bo (P := Kp sN c0) (kn_P_X0_dropBreak h3) (fun v6 h5 => (pp_bo (P := Kp sN c0) (kn_P_X0_resume h5) (fun v8 h7 => h7))))))) (fun _ => (Kp.w h_c rfl)))))))))
theorem kn_J_X0_moveBreaks_52 {c0 : mC} {c : mC} (h_c : Kp sN c0 c) : pp (fun p : mC => Kp sN c0 p) (J_X0_moveBreaks_52 c) :=
  (pp_if (fun _ => (pp_bd (fun v1 => (pp_bo (P := Kp sN c0) (kn_P_X0_seek h_c) (fun v3 h2 => h2))))) (fun _ => (pp_if (fun _ => (pp_bo (P := Kp sN c0) (kn_P_X0_stayOnTrack h_c) (fun v5 h4 => h4))) (fun _ => (pp_if (fun _ => (pp_bd (fun v6 => (pp_bo (P := Kp sN c0) (kn_P_X0_seek h_c) (fun v8 h7 => h7))))) (fun _ => (pp_if (fun _ => (pp_bo (P := Kp sN c0) (kn_P_X0_stayOnDwell h_c) (fun v10 h9 => h9))) (fun _ => h_c))))))))
theorem kn_P_X0_moveBreaks {c0 : mC} {c : mC} (h_c : Kp sN c0 c) : pp (fun p : mC => Kp sN c0 p) (P_X0_moveBreaks c) :=
  (pp_if (fun _ => (pp_bo (P := Kp sN c0) (kn_P_X0_beginWanted h_c) (fun v2 h1 => (kn_J_X0_moveBreaks_52 h1)))) (fun _ => (pp_if (fun _ => (pp_bd (fun v3 => (pp_if (fun _ => (kn_J_X0_moveBreaks_52 h_c)) (fun _ => (pp_bo (P := Kp sN c0) (kn_P_X1_note h_c) (fun v5 h4 => (pp_bo (P := Kp sN c0) (kn_P_X0_beginBreak h4) (fun v7 h6 => (kn_J_X0_moveBreaks_52 h6)))))))))) (fun _ => (kn_J_X0_moveBreaks_52 h_c)))))
theorem kn_P_X0_leaveToNext {c0 : mC} {r : Nat} (h_r : 8 ≤ r) {c : mC} (h_c : Kp sN c0 c) {x2 : Int32} : pp (fun p : Int32 × mC => Kp sN c0 p.2) (P_X0_leaveToNext r c x2) :=
  (pp_bd (fun v1 => (pp_bd (fun v2 => (pp_bd (fun v3 => (pp_bd (fun v4 => (pp_if (fun _ => h_c) (fun _ => (pp_bo (P := Kp sN c0) (kn_P_X0_goTo h_r h_c) (fun v6 h5 => h5))))))))))))
theorem kn_J_X0_crossOver_15 {c0 : mC} {r : Nat} (h_r : 8 ≤ r) {c : mC} (h_c : Kp sN c0 c) {s2 : Int32} : pp (fun p : mC => Kp sN c0 p) (J_X0_crossOver_15 r c s2) :=
  (pp_bd (fun v1 => (pp_bo (P := Kp sN c0) (kn_P_X0_goTo h_r h_c) (fun v3 h2 => h2))))
theorem kn_P_X0_crossOver {c0 : mC} {r : Nat} (h_r : 8 ≤ r) {c : mC} (h_c : Kp sN c0 c) {x2 : Int32} {x3 : Int32} : pp (fun p : mC => Kp sN c0 p) (P_X0_crossOver r c x2 x3) :=
  (pp_if (fun _ => (kn_J_X0_crossOver_15 h_r h_c)) (fun _ => (kn_J_X0_crossOver_15 h_r h_c)))
theorem kn_P_X0_turnBack {c0 : mC} {r : Nat} (h_r : 8 ≤ r) {c : mC} (h_c : Kp sN c0 c) {x2 : Int32} : pp (fun p : mC => Kp sN c0 p) (P_X0_turnBack r c x2) :=
  (pp_bd (fun v1 => (pp_bd (fun v2 => (pp_if (fun _ => h_c) (fun _ => (pp_bo (P := Kp sN c0) (kn_P_X0_goTo h_r h_c) (fun v4 h3 => h3))))))))
theorem kn_J_X0_moveTogether_34 {c0 : mC} {c : mC} (h_c : Kp sN c0 c) {x1 : Int32} {s1 : Int32} : pp (fun p : mC => Kp sN c0 p) (J_X0_moveTogether_34 c x1 s1) :=
  (pp_bd (fun v1 => (pp_bd (fun v2 => (pp_if (fun _ => (pp_bd (fun v3 => (pp_bo (P := Kp sN c0) (kn_P_X0_turnBack (show 8 ≤ 8 by decide) h_c) (fun v5 h4 => (pp_bd (fun v6 => (pp_bo (P := Kp sN c0) (kn_P_X0_turnBack (show 8 ≤ 9 by decide) h4) (fun v8 h7 => h7))))))))) (fun _ => (pp_bd (fun v9 => (pp_bo (P := Kp sN c0) (kn_P_X0_crossOver (show 8 ≤ 8 by decide) h_c) (fun v11 h10 => (pp_bd (fun v12 => (pp_bo (P := Kp sN c0) (kn_P_X0_crossOver (show 8 ≤ 9 by decide) h10) (fun v14 h13 => h13))))))))))))))
theorem kn_P_X0_moveTogether {c0 : mC} {c : mC} (h_c : Kp sN c0 c) {x1 : Int32} : pp (fun p : mC => Kp sN c0 p) (P_X0_moveTogether c x1) :=
  (pp_bd (fun v1 => (pp_if (fun _ => (kn_J_X0_moveTogether_34 h_c)) (fun _ => (kn_J_X0_moveTogether_34 h_c)))))
theorem kn_J_X0_moveOn_122 {c0 : mC} {c : mC} (h_c : Kp sN c0 c) {x1 : Int32} : pp (fun p : mC => Kp sN c0 p) (J_X0_moveOn_122 c x1) :=
  (pp_bo (P := Kp sN c0) (kn_P_X0_moveTogether h_c) (fun v2 h1 => h1))
theorem kn_J_X0_moveOn_67 {c0 : mC} {c : mC} (h_c : Kp sN c0 c) {x1 : Int32} {x2 : Int32} {x3 : Int32} {x4 : Int32} {s0 : Int32} : pp (fun p : mC => Kp sN c0 p) (J_X0_moveOn_67 c x1 x2 x3 x4 s0) :=
  (pp_if (fun _ => (pp_if (fun _ => (pp_bd (fun v1 => (pp_if (fun _ => (pp_bd (fun v2 => (pp_if (fun _ => (pp_bd (fun v3 => (pp_if (fun _ => (pp_bd (fun v4 => (pp_if (fun _ => h_c) (fun _ => (kn_J_X0_moveOn_122 h_c)))))) (fun _ => (kn_J_X0_moveOn_122 h_c)))))) (fun _ => h_c))))) (fun _ => h_c))))) (fun _ => h_c))) (fun _ => h_c))
theorem kn_J_X0_moveOn_66 {c0 : mC} {c : mC} (h_c : Kp sN c0 c) {x1 : Int32} {x2 : Int32} {x3 : Int32} {x4 : Int32} : pp (fun p : mC => Kp sN c0 p) (J_X0_moveOn_66 c x1 x2 x3 x4) :=
  (kn_J_X0_moveOn_67 h_c)
theorem kn_J_X0_moveOn_44 {c0 : mC} {c : mC} (h_c : Kp sN c0 c) {x1 : Int32} {x2 : Int32} {x3 : Int32} {s0 : Int32} : pp (fun p : mC => Kp sN c0 p) (J_X0_moveOn_44 c x1 x2 x3 s0) :=
  (pp_if (fun _ => (kn_J_X0_moveOn_66 h_c)) (fun _ => (pp_bo (kn_P_X0_leaveToNext (show 8 ≤ 9 by decide) h_c) (fun v2 h1 => (pp_if (fun _ => (kn_J_X0_moveOn_66 h1)) (fun _ => (kn_J_X0_moveOn_67 h1)))))))
theorem kn_J_X0_moveOn_43 {c0 : mC} {c : mC} (h_c : Kp sN c0 c) {x1 : Int32} {x2 : Int32} {x3 : Int32} : pp (fun p : mC => Kp sN c0 p) (J_X0_moveOn_43 c x1 x2 x3) :=
  (kn_J_X0_moveOn_44 h_c)
theorem kn_P_X0_moveOn {c0 : mC} {c : mC} (h_c : Kp sN c0 c) : pp (fun p : mC => Kp sN c0 p) (P_X0_moveOn c) :=
  (pp_bd (fun v1 => (pp_bd (fun v2 => (pp_bd (fun v3 => (pp_if (fun _ => (kn_J_X0_moveOn_43 h_c)) (fun _ => (pp_bo (kn_P_X0_leaveToNext (show 8 ≤ 8 by decide) h_c) (fun v5 h4 => (pp_if (fun _ => (kn_J_X0_moveOn_43 h4)) (fun _ => (kn_J_X0_moveOn_44 h4)))))))))))))
theorem kn_J_X0_watch_22 {c0 : mC} {c : mC} (h_c : Kp sN c0 c) {s0 : Int32} : pp (fun p : mC => Kp sN c0 p) (J_X0_watch_22 c s0) :=
  (pp_if (fun _ => h_c) (fun _ => (pp_bo (P := Kp sN c0) (kn_P_X4_waitFor (show 8 ≤ 8 by decide) (Kp.w h_c rfl)) (fun v2 h1 => (pp_bo (P := Kp sN c0) (kn_P_X4_waitFor (show 8 ≤ 9 by decide) h1) (fun v4 h3 => (pp_bo (P := Kp sN c0) (kn_P_X0_dropBreak h3) (fun v6 h5 => (pp_bo (P := Kp sN c0) (kn_P_X1_note h5) (fun v8 h7 => h7))))))))))
theorem kn_P_X0_watch {c0 : mC} {c : mC} (h_c : Kp sN c0 c) : pp (fun p : mC => Kp sN c0 p) (P_X0_watch c) :=
  (pp_if (fun _ => (pp_bd (fun v1 => (pp_bd (fun v2 => (kn_J_X0_watch_22 h_c)))))) (fun _ => (kn_J_X0_watch_22 h_c)))
theorem kn_J_X0_passTick_82 {c0 : mC} {c : mC} (h_c : Kp sN c0 c) : pp (fun p : mC => Kp sN c0 p) (J_X0_passTick_82 c) :=
  (pp_bo (P := Kp sN c0) (kn_P_X0_watch h_c) (fun v2 h1 => (pp_bd (fun v3 => (Kp.w h1 rfl)))))
theorem kn_J_X0_passTick_58 {c0 : mC} {c : mC} (h_c : Kp sN c0 c) : pp (fun p : mC => Kp sN c0 p) (J_X0_passTick_58 c) :=
  (pp_bo (P := Kp sN c0) (kn_P_X0_turnGreen (show 8 ≤ 8 by decide) (show 8 ≤ 9 by decide) h_c) (fun v2 h1 => (pp_bo (P := Kp sN c0) (kn_P_X0_turnGreen (show 8 ≤ 9 by decide) (show 8 ≤ 8 by decide) h1) (fun v4 h3 => (kn_J_X0_passTick_82 h3)))))
theorem kn_P_X0_passTick {c0 : mC} {c : mC} (h_c : Kp sN c0 c) : pp (fun p : mC => Kp sN c0 p) (P_X0_passTick c) :=
  (pp_bo (P := Kp sN c0) (kn_P_X0_moveClock (Kp.w h_c rfl)) (fun v2 h1 => (pp_if (fun _ => (pp_bo (P := Kp sN c0) (kn_P_X0_ageRing (show 8 ≤ 8 by decide) h1) (fun v4 h3 => (pp_bo (P := Kp sN c0) (kn_P_X0_ageRing (show 8 ≤ 9 by decide) h3) (fun v6 h5 => (pp_bo (P := Kp sN c0) (kn_P_X0_moveBreaks (Kp.w h5 rfl)) (fun v8 h7 => (pp_if (fun _ => (pp_bo (P := Kp sN c0) (kn_P_X0_moveOn h7) (fun v10 h9 => (kn_J_X0_passTick_58 h9)))) (fun _ => (kn_J_X0_passTick_58 h7)))))))))) (fun _ => (kn_J_X0_passTick_82 h1)))))
theorem kn_B_X0_passTicks_2 {c0 : mC} {x1 : Int32} : ∀ s : Int32 × mC, (fun s : Int32 × mC => Kp sN c0 s.2) s → pp2 (fun s : Int32 × mC => Kp sN c0 s.2) (fun p : mC => Kp sN c0 p) (B_X0_passTicks_2 x1 s) := by
  rintro ⟨x2, c⟩ h_s
  unfold B_X0_passTicks_2
  dsimp only
  exact (pp2_if (fun _ => (pp2_r h_s)) (fun _ => (pp2_bo (P := Kp sN c0) (kn_P_X0_passTick h_s) (fun v2 h1 => (pp2_l h1)))))
theorem kn_P_X0_passTicks {c0 : mC} {c : mC} (h_c : Kp sN c0 c) {x1 : Int32} : pp (fun p : mC => Kp sN c0 p) (P_X0_passTicks c x1) :=
  (pp_wh (fun s : Int32 × mC => Kp sN c0 s.2) tm_X0_passTicks_2 kn_B_X0_passTicks_2 h_c)
theorem kn_J_X2_putMark_57 {c0 : mC} {c : mC} (h_c : Kp sN c0 c) {s1 : Int32} {s2 : Int32} {s3 : Int32} : pp (fun p : mC => Kp sN c0 p) (J_X2_putMark_57 c s1 s2 s3) :=
  (pp_bd (fun v1 => (Kp.w h_c rfl)))
theorem kn_J_X2_putMark_35 {c0 : mC} {c : mC} (h_c : Kp sN c0 c) {x1 : Int32} {x3 : Int32} {s1 : Int32} {s2 : Int32} {s3 : Int32} : pp (fun p : mC => Kp sN c0 p) (J_X2_putMark_35 c x1 x3 s1 s2 s3) :=
  (pp_bd (fun v1 => (pp_if (fun _ => (kn_J_X2_putMark_57 (Kp.w h_c rfl))) (fun _ => (kn_J_X2_putMark_57 (Kp.w h_c rfl))))))
theorem kn_J_X2_putMark_86 {c0 : mC} {c : mC} (h_c : Kp sN c0 c) {s1 : Int32} {s2 : Int32} {s3 : Int32} : pp (fun p : mC => Kp sN c0 p) (J_X2_putMark_86 c s1 s2 s3) :=
  (pp_bd (fun v1 => (Kp.w h_c rfl)))
theorem kn_P_X2_putMark {c0 : mC} {c : mC} (h_c : Kp sN c0 c) {x1 : Int32} {x2 : Int32} {x3 : Int32} : pp (fun p : mC => Kp sN c0 p) (P_X2_putMark c x1 x2 x3) :=
  (pp_bo (P := Kp sN c0) (Kp.pu h_c (fun _ => rfl)) (fun v2 h1 => (pp_if (fun _ => (pp_if (fun _ => (kn_J_X2_putMark_35 h1)) (fun _ => (kn_J_X2_putMark_35 h1)))) (fun _ => (pp_if (fun _ => (pp_if (fun _ => (kn_J_X2_putMark_86 h1)) (fun _ => (kn_J_X2_putMark_86 h1)))) (fun _ => h1))))))
theorem kn_J_X2_addPhase_79 {c0 : mC} {c : mC} (h_c : Kp sN c0 c) {x1 : Int32} {x2 : Int32} {x3 : Int32} : pp2 (fun s : Int32 × mC => Kp sN c0 s.2) (fun p : mC => Kp sN c0 p) (J_X2_addPhase_79 c x1 x2 x3) :=
  (pp2_l h_c)
theorem kn_J_X2_addPhase_34 {c0 : mC} {c : mC} (h_c : Kp sN c0 c) {x1 : Int32} {x2 : Int32} {x3 : Int32} : pp2 (fun s : Int32 × mC => Kp sN c0 s.2) (fun p : mC => Kp sN c0 p) (J_X2_addPhase_34 c x1 x2 x3) :=
  (pp2_bd (fun v1 => (pp2_bd (fun v2 => (pp2_bo (P := Kp sN c0) (Kp.pu h_c (fun _ => rfl)) (fun v4 h3 => (pp2_bd (fun v5 => (pp2_bd (fun v6 => (pp2_bo (P := Kp sN c0) (Kp.pu h3 (fun _ => rfl)) (fun v8 h7 => (kn_J_X2_addPhase_79 h7)))))))))))))
theorem kn_P_X2_putBreak {c0 : mC} {c : mC} (h_c : Kp sN c0 c) {x1 : Int32} {x2 : Int32} {x3 : Int32} : pp (fun p : mC => Kp sN c0 p) (P_X2_putBreak c x1 x2 x3) :=
  (pp_bo (P := Kp sN c0) (Kp.pu h_c (fun _ => rfl)) (fun v2 h1 => h1))
theorem kn_P_X3_putByte {c0 : mC} {c : mC} (h_c : Kp sN c0 c) {x1 : Int32} {x2 : Int32} : pp (fun p : mC => Kp sN c0 p) (P_X3_putByte c x1 x2) :=
  (pp_if (fun _ => h_c) (fun _ => (pp_if (fun _ => h_c) (fun _ => (Kp.w h_c rfl)))))
theorem kn_P_X3_fail {c0 : mC} {c : mC} (h_c : Kp sN c0 c) {x1 : Int32} : pp (fun p : mC => Kp sN c0 p) (P_X3_fail c x1) :=
  (pp_if (fun _ => (Kp.w (Kp.w (Kp.w h_c rfl) rfl) rfl)) (fun _ => h_c))
theorem kn_B_X3_step_110 {c0 : mC}  : ∀ s : Int32 × mC, (fun s : Int32 × mC => Kp sN c0 s.2) s → pp2 (fun s : Int32 × mC => Kp sN c0 s.2) (fun p : mC => Kp sN c0 p) (B_X3_step_110 s) := by
  rintro ⟨x1, c⟩ h_s
  unfold B_X3_step_110
  dsimp only
  exact (pp2_if (fun _ => (pp2_if (fun _ => (pp2_r h_s)) (fun _ => (pp2_if (fun _ => (pp2_r h_s)) (fun _ => (pp2_bd (fun v1 => (pp2_l (Kp.w h_s rfl))))))))) (fun _ => (pp2_r h_s)))
theorem kn_J_X3_step_100 {c0 : mC} {c : mC} (h_c : Kp sN c0 c) : pp (fun p : mC => Kp sN c0 p) (J_X3_step_100 c) :=
  (pp_wh (fun s : Int32 × mC => Kp sN c0 s.2) tm_X3_step_110 kn_B_X3_step_110 (Kp.w h_c rfl))
theorem kn_J_X3_step_95 {c0 : mC} {c : mC} (h_c : Kp sN c0 c) : pp (fun p : mC => Kp sN c0 p) (J_X3_step_95 c) :=
  (pp_bo (P := Kp sN c0) (kn_P_X3_fail h_c) (fun v2 h1 => (kn_J_X3_step_100 h1)))
theorem kn_J_X3_step_63 {c0 : mC} {c : mC} (h_c : Kp sN c0 c) {s1 : Int32} : pp (fun p : mC => Kp sN c0 p) (J_X3_step_63 c s1) :=
  (pp_if (fun _ => (kn_J_X3_step_95 (Kp.w h_c rfl))) (fun _ => (pp_if (fun _ => (pp_if (fun _ => (kn_J_X3_step_100 (Kp.w h_c rfl))) (fun _ => (kn_J_X3_step_95 (Kp.w h_c rfl))))) (fun _ => (kn_J_X3_step_100 (Kp.w h_c rfl))))))
theorem kn_J_X3_step_42 {c0 : mC} {c : mC} (h_c : Kp sN c0 c) : pp (fun p : mC => Kp sN c0 p) (J_X3_step_42 c) :=
  (pp_bd (fun v1 => (kn_J_X3_step_63 h_c)))
theorem kn_P_X3_step {c0 : mC} {c : mC} (h_c : Kp sN c0 c) : pp (fun p : mC => Kp sN c0 p) (P_X3_step c) :=
  (pp_bd (fun v1 => (pp_bd (fun v2 => (pp_if (fun _ => (kn_J_X3_step_42 (Kp.w (Kp.w h_c rfl) rfl))) (fun _ => (pp_if (fun _ => (kn_J_X3_step_42 (Kp.w (Kp.w h_c rfl) rfl))) (fun _ => (kn_J_X3_step_63 (Kp.w (Kp.w h_c rfl) rfl))))))))))
theorem kn_J_X3_takeNumber_39 {c0 : mC} {c : mC} (h_c : Kp sN c0 c) : pp (fun p : Int32 × mC => Kp sN c0 p.2) (J_X3_takeNumber_39 c) :=
  (pp_bo (P := Kp sN c0) (kn_P_X3_fail h_c) (fun v2 h1 => h1))
theorem kn_P_X3_takeNumber {c0 : mC} {c : mC} (h_c : Kp sN c0 c) {x1 : Int32} {x2 : Int32} : pp (fun p : Int32 × mC => Kp sN c0 p.2) (P_X3_takeNumber c x1 x2) :=
  (pp_if (fun _ => (pp_if (fun _ => (pp_if (fun _ => (kn_J_X3_takeNumber_39 h_c)) (fun _ => (pp_if (fun _ => (pp_bo (P := Kp sN c0) (kn_P_X3_step h_c) (fun v2 h1 => h1))) (fun _ => (kn_J_X3_takeNumber_39 h_c)))))) (fun _ => (pp_bo (P := Kp sN c0) (kn_P_X3_fail h_c) (fun v4 h3 => h3))))) (fun _ => h_c))
theorem kn_J_X3_readMarks_103 {c0 : mC} {c : mC} (h_c : Kp sN c0 c) {x1 : Int32} {x2 : Int32} {x3 : Int32} : pp2 (fun s : Int32 × Int32 × mC => Kp sN c0 s.2.2) (fun p : mC => Kp sN c0 p) (J_X3_readMarks_103 c x1 x2 x3) :=
  (pp2_l h_c)
theorem kn_B_X3_readMarks_4 {c0 : mC} {x1 : Int32} : ∀ s : Int32 × Int32 × mC, (fun s : Int32 × Int32 × mC => Kp sN c0 s.2.2) s → pp2 (fun s : Int32 × Int32 × mC => Kp sN c0 s.2.2) (fun p : mC => Kp sN c0 p) (B_X3_readMarks_4 x1 s) := by
  rintro ⟨x2, x3, c⟩ h_s
  unfold B_X3_readMarks_4
  dsimp only
  exact (pp2_if (fun _ => (pp2_r h_s)) (fun _ => (pp2_if (fun _ => (pp2_if (fun _ => (pp2_bd (fun v1 => (pp2_if (fun _ => (pp2_bo (P := Kp sN c0) (kn_P_X3_fail h_s) (fun v3 h2 => (kn_J_X3_readMarks_103 h2)))) (fun _ => (pp2_if (fun _ => (pp2_bo (P := Kp sN c0) (kn_P_X3_step h_s) (fun v5 h4 => (pp2_bd (fun v6 => (pp2_bd (fun v7 => (pp2_bo (kn_P_X3_takeNumber h4) (fun v9 h8 => (pp2_bo (P := Kp sN c0) (kn_P_X2_putMark h8) (fun v11 h10 => (kn_J_X3_readMarks_103 h10)))))))))))) (fun _ => (pp2_bo (P := Kp sN c0) (kn_P_X3_fail h_s) (fun v13 h12 => (kn_J_X3_readMarks_103 h12)))))))))) (fun _ => (pp2_r h_s)))) (fun _ => (pp2_r h_s)))))
theorem kn_P_X3_readMarks {c0 : mC} {c : mC} (h_c : Kp sN c0 c) {x1 : Int32} : pp (fun p : mC => Kp sN c0 p) (P_X3_readMarks c x1) :=
  (pp_wh (fun s : Int32 × Int32 × mC => Kp sN c0 s.2.2) tm_X3_readMarks_4 kn_B_X3_readMarks_4 h_c)
theorem kn_P_X3_endLine {c0 : mC} {c : mC} (h_c : Kp sN c0 c) : pp (fun p : mC => Kp sN c0 p) (P_X3_endLine c) :=
  (pp_if (fun _ => (pp_if (fun _ => (pp_bo (P := Kp sN c0) (kn_P_X3_step (Kp.w h_c rfl)) (fun v2 h1 => h1))) (fun _ => (pp_bo (P := Kp sN c0) (kn_P_X3_fail h_c) (fun v4 h3 => h3))))) (fun _ => h_c))
theorem kn_J_X3_readPhase_66 {c0 : mC} {c : mC} (h_c : Kp sN c0 c) : pp (fun p : mC => Kp sN c0 p) (J_X3_readPhase_66 c) :=
  (pp_bo (P := Kp sN c0) (kn_P_X3_endLine h_c) (fun v2 h1 => h1))
theorem kn_J_X3_tellOnce_21 {c0 : mC} {c : mC} (h_c : Kp sN c0 c) {x1 : Int32} : pp (fun p : mC => Kp sN c0 p) (J_X3_tellOnce_21 c x1) :=
  (Kp.w h_c rfl)
theorem kn_P_X3_tellOnce {c0 : mC} {c : mC} (h_c : Kp sN c0 c) {x1 : Int32} : pp (fun p : mC => Kp sN c0 p) (P_X3_tellOnce c x1) :=
  (pp_if (fun _ => (pp_if (fun _ => (kn_J_X3_tellOnce_21 h_c)) (fun _ => (pp_bo (P := Kp sN c0) (kn_P_X3_fail h_c) (fun v2 h1 => (kn_J_X3_tellOnce_21 h1)))))) (fun _ => (kn_J_X3_tellOnce_21 h_c)))
theorem kn_P_X3_takeWord {c0 : mC} {n : Nat} {c : mC} (h_c : Kp sN c0 c) : pp (fun p : mC => Kp sN c0 p) (P_X3_takeWord n c) :=
  (pp_if (fun _ => (pp_bd (fun v1 => (pp_if (fun _ => (pp_bo (P := Kp sN c0) (kn_P_X3_fail h_c) (fun v3 h2 => h2))) (fun _ => (pp_bo (P := Kp sN c0) (kn_P_X3_step h_c) (fun v5 h4 => h4))))))) (fun _ => h_c))
theorem kn_J_X3_readCycle_41 {c0 : mC} {c : mC} (h_c : Kp sN c0 c) : pp (fun p : mC => Kp sN c0 p) (J_X3_readCycle_41 c) :=
  (pp_bo (kn_P_X3_takeNumber h_c) (fun v2 h1 => (pp_bo (P := Kp sN c0) (kn_P_X3_endLine (Kp.w h1 rfl)) (fun v4 h3 => h3))))
theorem kn_P_X3_readCycle {c0 : mC} {c : mC} (h_c : Kp sN c0 c) : pp (fun p : mC => Kp sN c0 p) (P_X3_readCycle c) :=
  (pp_bo (P := Kp sN c0) (kn_P_X3_tellOnce h_c) (fun v2 h1 => (pp_bo (P := Kp sN c0) (kn_P_X3_takeWord h1) (fun v4 h3 => (pp_if (fun _ => (pp_if (fun _ => (pp_bd (fun v5 => (pp_if (fun _ => (pp_bo (P := Kp sN c0) (kn_P_X3_fail h3) (fun v7 h6 => (kn_J_X3_readCycle_41 h6)))) (fun _ => (kn_J_X3_readCycle_41 h3)))))) (fun _ => (kn_J_X3_readCycle_41 h3)))) (fun _ => (kn_J_X3_readCycle_41 h3)))))))
theorem kn_P_X3_readOffset {c0 : mC} {c : mC} (h_c : Kp sN c0 c) : pp (fun p : mC => Kp sN c0 p) (P_X3_readOffset c) :=
  (pp_bo (P := Kp sN c0) (kn_P_X3_tellOnce h_c) (fun v2 h1 => (pp_bo (P := Kp sN c0) (kn_P_X3_takeWord h1) (fun v4 h3 => (pp_bo (kn_P_X3_takeNumber h3) (fun v6 h5 => (pp_bo (P := Kp sN c0) (kn_P_X3_endLine (Kp.w h5 rfl)) (fun v8 h7 => h7))))))))
theorem kn_J_X3_takeSet_56 {c0 : mC} {c : mC} (h_c : Kp sN c0 c) : pp (fun p : Int32 × mC => Kp sN c0 p.2) (J_X3_takeSet_56 c) :=
  (pp_bo (kn_P_X3_takeNumber h_c) (fun v2 h1 => h1))
theorem kn_P_X3_takeSet {c0 : mC} {c : mC} (h_c : Kp sN c0 c) : pp (fun p : Int32 × mC => Kp sN c0 p.2) (P_X3_takeSet c) :=
  (pp_if (fun _ => (pp_if (fun _ => (pp_bd (fun v1 => (pp_if (fun _ => (pp_bo (P := Kp sN c0) (kn_P_X3_fail h_c) (fun v3 h2 => (kn_J_X3_takeSet_56 h2)))) (fun _ => (pp_bd (fun v4 => (pp_if (fun _ => (kn_J_X3_takeSet_56 h_c)) (fun _ => (pp_bo (P := Kp sN c0) (kn_P_X3_fail h_c) (fun v6 h5 => (kn_J_X3_takeSet_56 h5)))))))))))) (fun _ => (kn_J_X3_takeSet_56 h_c)))) (fun _ => (kn_J_X3_takeSet_56 h_c)))
theorem kn_J_X3_readBreak_40 {c0 : mC} {c : mC} (h_c : Kp sN c0 c) : pp (fun p : mC => Kp sN c0 p) (J_X3_readBreak_40 c) :=
  (pp_bo (kn_P_X3_takeNumber h_c) (fun v2 h1 => (pp_bo (P := Kp sN c0) (kn_P_X3_takeWord h1) (fun v4 h3 => (pp_bo (kn_P_X3_takeSet h3) (fun v6 h5 => (pp_bo (P := Kp sN c0) (kn_P_X2_putBreak h5) (fun v8 h7 => (pp_bo (kn_P_X3_takeNumber h7) (fun v10 h9 => (pp_bo (P := Kp sN c0) (kn_P_X2_putBreak h9) (fun v12 h11 => (pp_bo (P := Kp sN c0) (kn_P_X3_takeWord h11) (fun v14 h13 => (pp_bo (kn_P_X3_takeSet h13) (fun v16 h15 => (pp_bo (P := Kp sN c0) (kn_P_X2_putBreak h15) (fun v18 h17 => (pp_bo (kn_P_X3_takeNumber h17) (fun v20 h19 => (pp_bo (P := Kp sN c0) (kn_P_X2_putBreak h19) (fun v22 h21 => (pp_bo (P := Kp sN c0) (kn_P_X3_takeWord h21) (fun v24 h23 => (pp_bo (kn_P_X3_takeNumber h23) (fun v26 h25 => (pp_bo (P := Kp sN c0) (kn_P_X2_putBreak h25) (fun v28 h27 => (pp_bo (P := Kp sN c0) (kn_P_X3_endLine h27) (fun v30 h29 => h29))))))))))))))))))))))))))))))
theorem kn_P_X3_readBreak {c0 : mC} {c : mC} (h_c : Kp sN c0 c) : pp (fun p : mC => Kp sN c0 p) (P_X3_readBreak c) :=
  (pp_bo (P := Kp sN c0) (kn_P_X3_step h_c) (fun v2 h1 => (pp_if (fun _ => (pp_if (fun _ => (pp_bd (fun v3 => (pp_if (fun _ => (kn_J_X3_readBreak_40 h1)) (fun _ => (pp_bd (fun v4 => (pp_bo (P := Kp sN c0) (kn_P_X3_tellOnce h1) (fun v6 h5 => (kn_J_X3_readBreak_40 h5)))))))))) (fun _ => (kn_J_X3_readBreak_40 h1)))) (fun _ => (kn_J_X3_readBreak_40 h1)))))
theorem kn_J_X3_readText_146 {c0 : mC} {c : mC} (h_c : Kp sN c0 c) {x2 : Int32} : pp2 (fun s : Int32 × mC => Kp sN c0 s.2) (fun p : mC => Kp sN c0 p) (J_X3_readText_146 c x2) :=
  (pp2_l h_c)
