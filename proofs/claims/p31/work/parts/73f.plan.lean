/-! The two readers side by side: the plan -/
theorem pt_n {n k : Nat} {c : mC} {j : Nat} {v : Int32} (h : k < n) (hn : n ≤ 100) : pt n c j (nI k) v = mP c j k v := by
  unfold pt
  rw [if_neg (nI_in h (by omega)), nI_clamp (by omega)]
theorem cl_n {n k : Nat} {f : Nat → Int32} (h : k < n) (hn : n ≤ 100) : cl n f (nI k) = f k := by
  unfold cl
  rw [if_neg (nI_in h (by omega)), nI_clamp (by omega)]
theorem putMark_eq {c : mC} {p k : Nat} {v : Int32} (hp : p < 8) (hk : k < 10) : Kp sV (mP c 5 (p * 10 + k) v) (P_X2_putMark c (nI p) (nI k) v) := by
  have e : nI p * 10 + nI k = nI (p * 10 + k) := by
    rw [show nI p * 10 = nI (p * 10) from (Int32.ofNat_mul p 10).symm, nI_add]
  show pp (fun m : mC => Kp sV (mP c 5 (p * 10 + k) v) m) _
  unfold P_X2_putMark
  rw [e, pt_n (by omega) (by decide)]
  exact pp_bo (P := Kp sV (mP c 5 (p * 10 + k) v)) Kp.rf (fun c1 h1 => pp_if (fun _ => pp_if (fun _ => kv_J_X2_putMark_35 h1) (fun _ => kv_J_X2_putMark_35 h1)) (fun _ => pp_if (fun _ => pp_if (fun _ => kv_J_X2_putMark_86 h1) (fun _ => kv_J_X2_putMark_86 h1)) (fun _ => h1)))
def us (k : Nat) : Int32 := ([5, 2, 20, 3, 1, 0, 0, 0, 0, 0] : List Int32).getD k 0
theorem us_n : ∀ k, k < 10 → cl 10 (mRO (fun _ => 0, 0) 9 29) (nI k) = us k := by decide +kernel
theorem bit_n {p : Nat} (h : p < 8) : P_X5_bit (nI p) = (1 : Int32) <<< (nI p &&& 31) := by
  unfold P_X5_bit
  rw [if_neg (nI_pos (by omega)), if_pos (show nI p < 8 from (nI_ltI (b := 8) (by omega) (by decide)).mpr h)]
theorem or_z (x : Int32) : x ||| 0 = x := Int32.or_zero
def upF (f : Nat → Int32) (n : Nat) (v : Int32) : Nat → Int32 := fun p => if p = n then v else f p
theorem upF_s (f : Nat → Int32) (n : Nat) (v : Int32) : upF f n v n = v := if_pos rfl
theorem upF_n {f : Nat → Int32} {n : Nat} {v : Int32} {p : Nat} (h : p ≠ n) : upF f n v p = f p := if_neg h
/-- while the foes of a new phase are found -/
def AP (N : Nat) (x1 x2 : Int32) (c : mC) (i : Nat) (s : mC) : Prop := (s 1 = c 1 ∧ s 2 = c 2 ∧ s 3 = c 3 ∧ s 5 = c 5 ∧ s 6 = c 6) ∧ (∀ j, 8 ≤ j → s j = c j) ∧ ∀ p, p < 8 → s 4 p = if p < i then FO (upF (c 2) N x1) (upF (c 3) N x2) p (N + 1) else if p < N then FO (c 2) (c 3) p N else if p = N then FO (upF (c 2) N x1) (upF (c 3) N x2) N i else 0
theorem fo_new {c : mC} {N i : Nat} {x1 x2 : Int32} (hi : i < N) : fo (upF (c 2) N x1) (upF (c 3) N x2) i N = (decide (c 2 i = x1) || decide (¬ c 3 i = x2)) ∧ fo (upF (c 2) N x1) (upF (c 3) N x2) N i = (decide (c 2 i = x1) || decide (¬ c 3 i = x2)) := by
  unfold fo
  rw [upF_n (p := i) (n := N) (by omega), upF_n (p := i) (n := N) (by omega), upF_s, upF_s, decide_eq_true (show ¬ i = N by omega), decide_eq_true (show ¬ N = i by omega), Bool.true_and, Bool.true_and]
  refine ⟨rfl, ?_⟩
  have e1 : decide (x1 = c 2 i) = decide (c 2 i = x1) := decide_eq_decide.mpr ⟨Eq.symm, Eq.symm⟩
  have e2 : decide (¬ x2 = c 3 i) = decide (¬ c 3 i = x2) := decide_eq_decide.mpr ⟨fun h z => h z.symm, fun h z => h z.symm⟩
  rw [e1, e2]
theorem FO_up {c : mC} {N i : Nat} {x1 x2 : Int32} (hi : i < N) : FO (upF (c 2) N x1) (upF (c 3) N x2) i N = FO (c 2) (c 3) i N := by
  refine FO_c ⟨?_, ?_⟩ (fun q hq => ⟨?_, ?_⟩) N (Nat.le_refl _)
  · exact if_neg (by omega)
  · exact if_neg (by omega)
  · exact if_neg (by omega)
  · exact if_neg (by omega)
theorem ap_step {N : Nat} {x1 x2 : Int32} {c s : mC} {i : Nat} (hN : N < 8) (e : c 1 0 = nI N) (hi : i < N) (h : AP N x1 x2 c i s) : (s 2 i = x1 ∨ ¬ s 3 i = x2 → J_X2_addPhase_34 s x1 x2 (nI i) = .inl (nI (i + 1), mP (mP s 4 i (s 4 i ||| (1 : Int32) <<< (nI N &&& 31))) 4 N (s 4 N ||| (1 : Int32) <<< (nI i &&& 31))) ∧ AP N x1 x2 c (i + 1) (mP (mP s 4 i (s 4 i ||| (1 : Int32) <<< (nI N &&& 31))) 4 N (s 4 N ||| (1 : Int32) <<< (nI i &&& 31)))) ∧ (¬ (s 2 i = x1 ∨ ¬ s 3 i = x2) → AP N x1 x2 c (i + 1) s) := by
  obtain ⟨⟨a1, a2, a3, a5, a6⟩, a8, a4⟩ := h
  have f1 := (fo_new (c := c) (x1 := x1) (x2 := x2) hi).1
  have f2 := (fo_new (c := c) (x1 := x1) (x2 := x2) hi).2
  have ei : s 4 i = FO (c 2) (c 3) i N := by rw [a4 i (by omega), if_neg (by omega), if_pos hi]
  have eN : s 4 N = FO (upF (c 2) N x1) (upF (c 3) N x2) N i := by rw [a4 N hN, if_neg (by omega), if_neg (by omega), if_pos rfl]
  constructor
  · intro hc
    rw [a2, a3] at hc
    have hf : (decide (c 2 i = x1) || decide (¬ c 3 i = x2)) = true := by
      rcases hc with z | z
      · rw [decide_eq_true z, Bool.true_or]
      · rw [decide_eq_true z, Bool.or_true]
    constructor
    · have s1 : s 1 0 = nI N := by rw [a1]; exact e
      unfold J_X2_addPhase_34 J_X2_addPhase_79 P_X2_foesOf mBd
      dsimp only
      rw [cl_n (by omega) (by decide), s1, pt_n (by omega) (by decide), bit_n hN, bit_n (by omega)]
      rw [show (mP s 4 i (s 4 i ||| (1 : Int32) <<< (nI N &&& 31))) 1 0 = nI N from s1, cl_n (by omega) (by decide), pt_n (by omega) (by decide), mP_n _ _ _ (show N ≠ i by omega), nI_1]
    · refine ⟨⟨a1, a2, a3, a5, a6⟩, fun j hj => ?_, fun p hp => ?_⟩
      · rw [mP_other _ _ _ _ _ (by omega), mP_other _ _ _ _ _ (by omega)]; exact a8 j hj
      · by_cases z : p = N
        · rw [z, mP_s, if_neg (by omega), if_neg (by omega), if_pos rfl, eN, FO_s, f2, if_pos hf]
        · rw [mP_n _ _ _ z]
          by_cases w : p = i
          · rw [w, mP_s, if_pos (by omega), ei, FO_s, f1, if_pos hf, FO_up hi]
          · rw [mP_n _ _ _ w, a4 p hp]
            by_cases y : p < i
            · rw [if_pos y, if_pos (by omega)]
            · rw [if_neg y, if_neg (show ¬ p < i + 1 by omega)]
              by_cases y2 : p < N
              · rw [if_pos y2, if_pos y2]
              · rw [if_neg y2, if_neg y2, if_neg z, if_neg z]
  · intro hc
    rw [a2, a3] at hc
    have hf : (decide (c 2 i = x1) || decide (¬ c 3 i = x2)) = false := by
      rw [decide_eq_false (fun z => hc (Or.inl z)), decide_eq_false (fun z => hc (Or.inr z))]
      rfl
    refine ⟨⟨a1, a2, a3, a5, a6⟩, a8, fun p hp => ?_⟩
    by_cases z : p = N
    · rw [z, if_neg (by omega), if_neg (by omega), if_pos rfl, eN, FO_s, f2, hf, if_neg (by decide), or_z]
    · by_cases w : p = i
      · rw [w, if_pos (by omega), ei, FO_s, f1, hf, if_neg (by decide), or_z, FO_up hi]
      · rw [a4 p hp]
        by_cases y : p < i
        · rw [if_pos y, if_pos (by omega)]
        · rw [if_neg y, if_neg (show ¬ p < i + 1 by omega)]
          by_cases y2 : p < N
          · rw [if_pos y2, if_pos y2]
          · rw [if_neg y2, if_neg y2, if_neg z, if_neg z]
/-- a plan with one phase more, its marks as usual -/
def NP (N : Nat) (x1 x2 : Int32) (c c' : mC) : Prop := c' 1 0 = nI (N + 1) ∧ c' 1 1 = c 1 1 ∧ c' 1 2 = c 1 2 ∧ (∀ p, c' 2 p = upF (c 2) N x1 p) ∧ (∀ p, c' 3 p = upF (c 3) N x2 p) ∧ (∀ p, p < N + 1 → c' 4 p = FO (c' 2) (c' 3) p (N + 1)) ∧ (∀ p, N + 1 ≤ p → p < 8 → c' 4 p = 0) ∧ (∀ q, c' 5 q = if N * 10 ≤ q ∧ q < N * 10 + 10 then us (q - N * 10) else c 5 q) ∧ c' 6 = c 6 ∧ ∀ j, 8 ≤ j → c' j = c j
theorem addPhase_eq {N : Nat} {c : mC} {x1 x2 : Int32} (hN : N < 8) (e : c 1 0 = nI N) (h4 : ∀ p, p < N → c 4 p = FO (c 2) (c 3) p N) (h40 : ∀ p, N ≤ p → p < 8 → c 4 p = 0) : NP N x1 x2 c (P_X2_addPhase c x1 x2) := by
  show pp (NP N x1 x2 c) _
  have h0 : AP N x1 x2 c 0 c := by
    refine ⟨⟨rfl, rfl, rfl, rfl, rfl⟩, fun _ _ => rfl, fun p hp => ?_⟩
    rw [if_neg (by omega)]
    by_cases z : p < N
    · rw [if_pos z]; exact h4 p z
    · rw [if_neg z, h40 p (by omega) hp]
      by_cases w : p = N
      · rw [if_pos w]; rfl
      · rw [if_neg w]
  refine pp_wh (fun s : Int32 × mC => ∃ i, i ≤ N ∧ s.1 = nI i ∧ AP N x1 x2 c i s.2) tm_X2_addPhase_2 ?_ ⟨0, by omega, rfl, h0⟩
  rintro ⟨x3, s⟩ ⟨i, hi, ex, h⟩
  have ex' : x3 = nI i := ex
  subst ex'
  have h : AP N x1 x2 c i s := h
  have s1 : s 1 0 = nI N := by rw [h.1.1]; exact e
  unfold B_X2_addPhase_2
  dsimp only
  rw [s1]
  refine pp2_if (fun q => ?_) (fun q => ?_)
  · have hiN : i = N := by have := (nI_leI (by omega) (by omega)).mp q; omega
    subst hiN
    obtain ⟨⟨a1, a2, a3, a5, a6⟩, a8, a4⟩ := h
    refine pp2_r ?_
    rw [pt_n (by omega) (by decide)]
    refine pp_bo (P := fun m => m = mP s 2 i x1) rfl (fun c1 e1 => ?_)
    subst e1
    rw [show (mP s 2 i x1) 1 0 = nI i from s1, pt_n (by omega) (by decide)]
    refine pp_bo (P := fun m => m = mP (mP s 2 i x1) 3 i x2) rfl (fun c2 e2 => pp_bd (fun v3 => pp_bd (fun v4 => ?_)))
    subst e2
    -- part 7, then the marks
    refine pp_bo (P := fun m : mC => (m 1 = c 1 ∧ m 2 = upF (c 2) i x1 ∧ m 3 = upF (c 3) i x2 ∧ m 4 = s 4 ∧ m 5 = c 5 ∧ m 6 = c 6) ∧ ∀ j, 8 ≤ j → m j = c j) ?_ (fun c5 h5 => ?_)
    · have base : ((mP (mP s 2 i x1) 3 i x2) 1 = c 1 ∧ (mP (mP s 2 i x1) 3 i x2) 2 = upF (c 2) i x1 ∧ (mP (mP s 2 i x1) 3 i x2) 3 = upF (c 3) i x2 ∧ (mP (mP s 2 i x1) 3 i x2) 4 = s 4 ∧ (mP (mP s 2 i x1) 3 i x2) 5 = c 5 ∧ (mP (mP s 2 i x1) 3 i x2) 6 = c 6) ∧ ∀ j, 8 ≤ j → (mP (mP s 2 i x1) 3 i x2) j = c j := by
        refine ⟨⟨a1, ?_, ?_, rfl, a5, a6⟩, fun j hj => ?_⟩
        · funext p
          show (if 2 = 2 ∧ p = i then x1 else s 2 p) = _
          unfold upF
          by_cases z : p = i
          · rw [if_pos ⟨rfl, z⟩, if_pos z]
          · rw [if_neg (fun y => z y.2), if_neg z, a2]
        · funext p
          show (if 3 = 3 ∧ p = i then x2 else s 3 p) = _
          unfold upF
          by_cases z : p = i
          · rw [if_pos ⟨rfl, z⟩, if_pos z]
          · rw [if_neg (fun y => z y.2), if_neg z, a3]
        · rw [mP_other _ _ _ _ _ (by omega), mP_other _ _ _ _ _ (by omega)]; exact a8 j hj
      show (_ ∧ _ ∧ _ ∧ _ ∧ _ ∧ _) ∧ _
      generalize mP (mP s 2 i x1) 3 i x2 = m at base
      unfold pt
      split
      · exact base
      · refine ⟨base.1, fun j hj => ?_⟩
        rw [mP_other _ _ _ _ _ (by omega)]; exact base.2 j hj
    · obtain ⟨⟨m1, m2, m3, m4, m5, m6⟩, m8⟩ := h5
      refine pp_wh (fun t : Int32 × mC => ∃ k, k ≤ 10 ∧ t.1 = nI k ∧ (t.2 1 0 = nI i ∧ t.2 1 1 = c 1 1 ∧ t.2 1 2 = c 1 2 ∧ t.2 2 = upF (c 2) i x1 ∧ t.2 3 = upF (c 3) i x2 ∧ t.2 4 = s 4 ∧ t.2 6 = c 6 ∧ (∀ j, 8 ≤ j → t.2 j = c j)) ∧ ∀ q, t.2 5 q = if i * 10 ≤ q ∧ q < i * 10 + k then us (q - i * 10) else c 5 q) tm_X2_addPhase_137 ?_ ⟨0, by decide, rfl, ⟨(congrFun m1 0).trans e, congrFun m1 1, congrFun m1 2, m2, m3, m4, m6, m8⟩, fun q => by rw [if_neg (by omega)]; exact congrFun m5 q⟩
      rintro ⟨x4, t⟩ ⟨k, hk, ek, ⟨t1, t11, t12, t2, t3, t4, t6, t8⟩, t5⟩
      have ek' : x4 = nI k := ek
      subst ek'
      have u1 : t 1 0 = nI i := t1
      unfold B_X2_addPhase_137
      dsimp only
      refine pp2_if (fun q => ?_) (fun q => ?_)
      · have hk10 : k = 10 := by have := (nI_leI (a := 10) (by decide) (by omega)).mp q; omega
        subst hk10
        have hR : ∀ p, (mP t 1 0 (t 1 0 + 1)) 2 p = upF (c 2) i x1 p := fun p => congrFun t2 p
        have hS : ∀ p, (mP t 1 0 (t 1 0 + 1)) 3 p = upF (c 3) i x2 p := fun p => congrFun t3 p
        refine pp2_r ⟨?_, t11, t12, hR, hS, fun p hp => ?_, fun p h1 h2 => ?_, t5, t6, fun j hj => ?_⟩
        · show t 1 0 + 1 = _
          rw [u1]; exact nI_1 i
        · rw [show (mP t 1 0 (t 1 0 + 1)) 4 p = s 4 p from congrFun t4 p, show (mP t 1 0 (t 1 0 + 1)) 2 = upF (c 2) i x1 from funext hR, show (mP t 1 0 (t 1 0 + 1)) 3 = upF (c 3) i x2 from funext hS, a4 p (by omega)]
          by_cases z : p < i
          · rw [if_pos z]
          · have : p = i := by omega
            rw [if_neg z, if_neg z, if_pos this, this, FO_s]
            have : fo (upF (c 2) i x1) (upF (c 3) i x2) i i = false := by
              unfold fo
              rw [decide_eq_false (fun y => y rfl), Bool.false_and]
            rw [this, if_neg (by decide), or_z]
        · rw [show (mP t 1 0 (t 1 0 + 1)) 4 p = s 4 p from congrFun t4 p, a4 p (by omega), if_neg (by omega), if_neg (by omega), if_neg (by omega)]
        · rw [mP_other _ _ _ _ _ (by omega)]; exact t8 j hj
      · have hk9 : k < 10 := by
          have : ¬ 10 ≤ k := fun z => q ((nI_leI (a := 10) (by decide) (by omega)).mpr z)
          omega
        rw [us_n k hk9, u1]
        unfold mBd
        dsimp only
        have hm := putMark_eq (c := t) (p := i) (k := k) (v := us k) (by omega) hk9
        refine pp2_l ⟨k + 1, by omega, nI_1 k, ⟨(hm 1 0 rfl).trans t1, (hm 1 1 rfl).trans t11, (hm 1 2 rfl).trans t12, ?_, ?_, ?_, ?_, fun j hj => ?_⟩, fun q => ?_⟩
        · funext p; exact (hm 2 p rfl).trans (congrFun t2 p)
        · funext p; exact (hm 3 p rfl).trans (congrFun t3 p)
        · funext p; exact (hm 4 p rfl).trans (congrFun t4 p)
        · funext p; exact (hm 6 p rfl).trans (congrFun t6 p)
        · funext p
          have hj1 : sV j p = true := by
            unfold sV
            rw [show Nat.beq j 1 = false from by
              cases z : Nat.beq j 1 with
              | false => rfl
              | true => exact absurd (Nat.eq_of_beq_eq_true z) (by omega)]
            rfl
          refine (hm j p hj1).trans ?_
          rw [mP_other _ _ _ _ _ (by omega)]
          exact congrFun (t8 j hj) p
        · show P_X2_putMark t (nI i) (nI k) (us k) 5 q = _
          rw [hm 5 q rfl]
          by_cases z : q = i * 10 + k
          · rw [z, mP_s, if_pos (by omega), show i * 10 + k - i * 10 = k from by omega]
          · rw [mP_n _ _ _ z, show t 5 q = _ from t5 q]
            by_cases w : i * 10 ≤ q ∧ q < i * 10 + k
            · rw [if_pos w, if_pos (by omega)]
            · rw [if_neg w, if_neg (by omega)]
  · have hlt : i < N := by
      have : ¬ N ≤ i := fun z => q ((nI_leI (by omega) (by omega)).mpr z)
      omega
    have st := ap_step hN e hlt h
    rw [cl_n (by omega) (by decide), cl_n (by omega) (by decide)]
    have foe : (s 2 i = x1 ∨ ¬ s 3 i = x2) → pp2 (fun s : Int32 × mC => ∃ i, i ≤ N ∧ s.1 = nI i ∧ AP N x1 x2 c i s.2) (NP N x1 x2 c) (J_X2_addPhase_34 s x1 x2 (nI i)) := fun hc => by
      rw [(st.1 hc).1]
      exact pp2_l ⟨i + 1, by omega, rfl, (st.1 hc).2⟩
    unfold mBd
    dsimp only
    refine pp2_if (fun z => foe (Or.inl z)) (fun z => pp2_if (fun w => ?_) (fun w => foe (Or.inr w)))
    exact pp2_l ⟨i + 1, by omega, nI_1 i, st.2 (fun y => y.elim z (fun y => y w))⟩
