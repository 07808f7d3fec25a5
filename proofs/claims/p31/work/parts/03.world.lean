/-! The small machine's picture over the heap -/
abbrev mCLS : List vw_C := [(RX0, TX0, 19), (RX1, TX1, 5), (RX2, TX2, 12), (RX3, TX3, 12), (RX4, TX4, 9), (RX5, TX5, 10), (RX6, TX6, 21)]
def mRow (i : Nat) : List (Nat × Nat) := (List.range 16).map (fun j => (i, j))
def mCL : List (Nat × Nat) := ([(7, 20), (6, 18), (5, 16), (5, 19), (5, 1), (5, 2), (5, 3), (5, 4), (5, 5), (5, 6), (5, 7)] : List (Nat × Nat)) ++ (mRow 0 ++ (mRow 1 ++ (mRow 2 ++ (mRow 3 ++ (mRow 4 ++ [(7, 21), (7, 22), (7, 23)])))))
def mROL : List (Nat × Nat) := (8, 26) :: (9, 27) :: (9, 28) :: (9, 29) :: (99, 99) :: ((List.range 18).map (fun n => (n, 24)) ++ (List.range 18).map (fun n => (n, 25)))
def mIn (q : Nat × Nat) : Prop := q ∈ mCL ∨ q ∈ mROL
def mOv (v : mV) : Prop := match v with
  | .inr (.inr q) => mIn q
  | _ => True
def mOs (st : List mV) : Prop := ∀ v ∈ st, mOv v
def mOl (L : mL) : Prop := ∀ (n : Nat) (v : mV), L[n]? = some (some v) → mOv v
theorem mCL_nd : ∀ a ∈ List.range 94, ∀ b ∈ List.range 94, mCL[a]? = mCL[b]? → a = b := by decide +kernel
theorem mCL_len : mCL.length = 94 := by decide +kernel
theorem mCL_apart {a b : Nat} {q : Nat × Nat} (h1 : mCL[a]? = some q) (h2 : mCL[b]? = some q) : a = b := by
  have l1 : a < 94 := by rw [← mCL_len]; exact (List.getElem?_eq_some_iff.mp h1).1
  have l2 : b < 94 := by rw [← mCL_len]; exact (List.getElem?_eq_some_iff.mp h2).1
  exact mCL_nd a (List.mem_range.mpr l1) b (List.mem_range.mpr l2) (h1.trans h2.symm)
theorem mCL_cls : ∀ q ∈ mCL, ∀ ci, mCls q.2 = some ci → ci < 7 := by
  have h : ∀ q ∈ mCL, (match mCls q.2 with | some ci => decide (ci < 7) | none => true) = true := by decide +kernel
  intro q hq ci hc
  have := h q hq
  rw [hc] at this
  exact of_decide_eq_true this
/-- references lead on to cells that are there -/
theorem mCL_ref : ∀ q ∈ mCL, ∀ k ∈ List.range 21, ∀ r, mRef q.1 q.2 k = some r → r ∈ mCL := by
  have h : ∀ q ∈ mCL, ∀ k ∈ List.range 21, (match mRef q.1 q.2 k with | some r => decide (r ∈ mCL) | none => true) = true := by decide +kernel
  intro q hq k hk r hr
  have := h q hq k hk
  rw [hr] at this
  exact of_decide_eq_true this
theorem mRO_cls : ∀ q ∈ mROL, mCls q.2 = none := by decide +kernel
theorem mIn_obj {i j ci : Nat} (h : mIn (i, j)) (hc : mCls j = some ci) : (i, j) ∈ mCL := by
  rcases h with h | h
  · exact h
  · have q := mRO_cls _ h
    rw [hc] at q; cases q
theorem mRO_arr : ∀ q ∈ mROL, 24 ≤ q.2 := by decide +kernel
theorem mIn_arr {i j : Nat} (h : mIn (i, j)) (hj : j ≤ 23) : (i, j) ∈ mCL := by
  rcases h with h | h
  · exact h
  · have q : 24 ≤ j := mRO_arr _ h
    exact absurd q (by omega)
theorem mCL_99 : ∀ q ∈ mCL, q.1 ≠ 99 ∧ q.2 ≤ 23 := by decide +kernel
section WORLD
variable (ad : Nat → Nat → Nat) (oq : Value) (dC : Nat → ClassId) (dI : Nat → Nat → Nat) (aI aB : ClassId)
def mE (v : mV) : Value := match v with
  | .inl x => .int x
  | .inr (.inl x) => .long x
  | .inr (.inr (i, j)) => match Nat.beq i 99 with
    | true => oq
    | false => .ref (ad i j)
def mFv (g : mG) (i j k : Nat) : Value := match mRef i j k with
  | some r => .ref (ad r.1 r.2)
  | none => match mBoF j k with
    | true => .int (g i j k &&& 1)
    | false => .int (g i j k)
def mEnt (g : mG) (q : Nat × Nat) : va_E := match mCls q.2 with
  | some ci => .inr (ci, (List.range (mNF ci)).map (fun k => mFv ad g q.1 q.2 k))
  | none => match mArr (fun _ => 0, 0) q.1 q.2 with
    | some (n, true) => .inl (aB, n, .inl (g q.1 q.2))
    | some (n, false) => .inl (aI, n, .inl (g q.1 q.2))
    | none => .inl (aI, 0, .inl (g q.1 q.2))
def mWs (g : mG) : va_W := mCL.map (fun q => (ad q.1 q.2, mEnt ad aI aB g q))
/-- the cells that may be changed -/
def mAd (q : Nat) : Prop := ∃ c ∈ mCL, q = ad c.1 c.2
theorem mWs_at {g : mG} {q : Nat × Nat} (h : q ∈ mCL) : ∃ n : Nat, mCL[n]? = some q ∧ (mWs ad aI aB g)[n]? = some (ad q.1 q.2, mEnt ad aI aB g q) := by
  obtain ⟨n, hn⟩ := List.getElem?_of_mem h
  exact ⟨n, hn, by rw [mWs, List.getElem?_map, hn]; rfl⟩
theorem mWs_set {g g' : mG} {q : Nat × Nat} {n : Nat} {x : va_E} (hn : mCL[n]? = some q) (hx : x = mEnt ad aI aB g' q) (h : ∀ r ∈ mCL, r ≠ q → mEnt ad aI aB g' r = mEnt ad aI aB g r) : (mWs ad aI aB g).set n (ad q.1 q.2, x) = mWs ad aI aB g' := by
  subst hx
  apply List.ext_getElem?
  intro k
  rw [List.getElem?_set]
  by_cases hk : n = k
  · subst hk
    have hl : n < (mWs ad aI aB g).length := by rw [mWs, List.length_map]; exact (List.getElem?_eq_some_iff.mp hn).1
    rw [if_pos rfl, if_pos hl, mWs, List.getElem?_map, hn]
    rfl
  · rw [if_neg hk, mWs, mWs, List.getElem?_map, List.getElem?_map]
    cases hc : mCL[k]? with
    | none => rfl
    | some r =>
      have hr : r ≠ q := fun e => hk (mCL_apart hn (e ▸ hc))
      show some (ad r.1 r.2, mEnt ad aI aB g r) = some (ad r.1 r.2, mEnt ad aI aB g' r)
      rw [h r (List.mem_of_getElem? hc) hr]
theorem mEnt_cong {g g' : mG} {r : Nat × Nat} (h : g' r.1 r.2 = g r.1 r.2) : mEnt ad aI aB g' r = mEnt ad aI aB g r := by
  unfold mEnt mFv
  rw [h]
theorem mU_other {g : mG} {i j : Nat} {c : mC} (hc : ∀ j', j' ≠ j → c j' = g i j') {r : Nat × Nat} (hr : r ≠ (i, j)) : mU g i c r.1 r.2 = g r.1 r.2 := by
  unfold mU
  by_cases h1 : r.1 = i
  · rw [if_pos h1, h1]
    exact hc _ (fun e => hr (by cases r; simp_all))
  · rw [if_neg h1]
theorem mP_other (c : mC) (j k : Nat) (v : Int32) (j' : Nat) (h : j' ≠ j) : mP c j k v j' = c j' := by
  funext q
  unfold mP
  rw [if_neg (fun e => h e.1)]
theorem mA_other (c : mC) (j : Nat) (f : Nat → Int32) (j' : Nat) (h : j' ≠ j) : mA c j f j' = c j' := by
  unfold mA
  rw [if_neg h]
theorem mD_of {A : Nat → Prop} {g g' : mG} (h : va_D A (mWs ad aI aB g)) : va_D A (mWs ad aI aB g') := by
  have key : ∀ (g : mG) (k : Nat) (p : Nat × va_E), (mWs ad aI aB g)[k]? = some p → ∃ c, mCL[k]? = some c ∧ p.1 = ad c.1 c.2 := by
    intro g k p hp
    rw [mWs, List.getElem?_map] at hp
    cases hc : mCL[k]? with
    | none => rw [hc] at hp; cases hp
    | some c => rw [hc] at hp; cases hp; exact ⟨c, rfl, rfl⟩
  have back : ∀ (g : mG) (k : Nat) (c : Nat × Nat), mCL[k]? = some c → (mWs ad aI aB g)[k]? = some (ad c.1 c.2, mEnt ad aI aB g c) := by
    intro g k c hc
    rw [mWs, List.getElem?_map, hc]; rfl
  refine ⟨fun a b p q ha hb e => ?_, fun k q hk => ?_⟩
  · obtain ⟨c1, h1, e1⟩ := key _ _ _ ha
    obtain ⟨c2, h2, e2⟩ := key _ _ _ hb
    exact h.1 a b _ _ (back g a c1 h1) (back g b c2 h2) (by show ad c1.1 c1.2 = ad c2.1 c2.2; rw [← e1, ← e2, e])
  · obtain ⟨c1, h1, e1⟩ := key _ _ _ hk
    have := h.2 k _ (back g k c1 h1)
    rw [e1]
    exact this
theorem mAd_D {A : Nat → Prop} {g : mG} (h : va_D A (mWs ad aI aB g)) : va_D (mAd ad) (mWs ad aI aB g) := by
  refine ⟨h.1, fun k q hk => ?_⟩
  rw [mWs, List.getElem?_map] at hk
  cases hc : mCL[k]? with
  | none => rw [hc] at hk; cases hk
  | some c => rw [hc] at hk; cases hk; exact ⟨c, List.mem_of_getElem? hc, rfl⟩
theorem mAd_A {A : Nat → Prop} {g : mG} (h : va_D A (mWs ad aI aB g)) : ∀ q, mAd ad q → A q := by
  rintro q ⟨c, hc, rfl⟩
  obtain ⟨n, h1, h2⟩ := mWs_at ad aI aB (g := g) hc
  exact h.2 n _ h2
/-- the locals -/
def mPr (L : mL) : List (Nat × Value) := (List.range L.length).filterMap (fun n => match L[n]? with
  | some (some v) => some (n, mE ad oq v)
  | _ => none)
def mLS (LL : List Nat) (L : mL) : Prop := ∀ (n : Nat) (x : Int64), L[n]? = some (some (.inr (.inl x))) → n ∈ LL
def mLH (LL : List Nat) (ls : Array Slot) (L : mL) : Prop := lv_has ls L.length (mPr ad oq L) ∧ mLS LL L
theorem mPr_mem {L : mL} {n : Nat} {v : mV} (h : L[n]? = some (some v)) : (n, mE ad oq v) ∈ mPr ad oq L := by
  refine List.mem_filterMap.mpr ⟨n, List.mem_range.mpr (List.getElem?_eq_some_iff.mp h).1, ?_⟩
  rw [h]
theorem mPr_of {L : mL} {q : Nat × Value} (h : q ∈ mPr ad oq L) : ∃ v, L[q.1]? = some (some v) ∧ q.2 = mE ad oq v := by
  obtain ⟨n, -, h2⟩ := List.mem_filterMap.mp h
  split at h2
  next v hv => cases h2; exact ⟨v, hv, rfl⟩
  next => cases h2
theorem mLH_at {LL : List Nat} {ls : Array Slot} {L : mL} (h : mLH ad oq LL ls L) {n : Nat} {v : mV} (hn : L[n]? = some (some v)) : ls[n]? = some (.val (mE ad oq v)) := h.1.2.2 _ (mPr_mem ad oq hn)
theorem mE_cat {v : mV} (hq : oq.category = 1) (h : (mE ad oq v).category = 2) : ∃ x, v = .inr (.inl x) := by
  rcases v with x | x | ⟨i, j⟩
  · cases h
  · exact ⟨x, rfl⟩
  · exfalso
    unfold mE at h
    dsimp only at h
    split at h
    · rw [hq] at h; cases h
    · cases h
theorem mLH_set {LL : List Nat} {ls ls' : Array Slot} {L : mL} {n : Nat} {v : mV} (hq : oq.category = 1) (h : mLH ad oq LL ls L) (hv : mNoL v = true) (hn : ∀ a ∈ LL, a + 1 ≠ n)
    (h' : lv_has ls' L.length ((n, mE ad oq v) :: (mPr ad oq L).filter (fun q => !(q.1 == n) && !(q.1 + 1 == n && q.2.category == 2)))) : mLH ad oq LL ls' (L.set n (some v)) := by
  refine ⟨⟨by rw [List.length_set]; exact h'.1, h'.2.1, fun q hm => ?_⟩, fun a x ha => ?_⟩
  · obtain ⟨w, hw, e⟩ := mPr_of ad oq hm
    rw [List.getElem?_set] at hw
    by_cases hqn : n = q.1
    · rw [if_pos hqn] at hw
      split at hw
      next =>
        cases hw
        rw [e, ← hqn]
        exact h'.2.2 (n, mE ad oq v) List.mem_cons_self
      next => cases hw
    · rw [if_neg hqn] at hw
      refine h'.2.2 q (List.mem_cons_of_mem _ (List.mem_filter.mpr ⟨?_, ?_⟩))
      · have := mPr_mem ad oq hw
        rw [← e] at this
        exact this
      · have h1 : (q.1 == n) = false := beq_eq_false_iff_ne.mpr (fun z => hqn z.symm)
        rw [h1]
        show (true && _) = true
        rw [Bool.true_and, Bool.not_eq_true', Bool.and_eq_false_iff]
        by_cases hc : q.2.category = 2
        · left
          rw [e] at hc
          obtain ⟨x, hx⟩ := mE_cat ad oq hq hc
          rw [hx] at hw
          exact beq_eq_false_iff_ne.mpr (hn _ (h.2 _ _ hw))
        · right
          exact beq_eq_false_iff_ne.mpr hc
  · rw [List.getElem?_set] at ha
    by_cases hqn : n = a
    · rw [if_pos hqn] at ha
      split at ha
      next =>
        cases ha
        cases hv
      next => cases ha
    · rw [if_neg hqn] at ha
      exact h.2 a x ha
theorem mLH_set2 {LL : List Nat} {ls ls' : Array Slot} {L : mL} {n : Nat} {x : Int64} (hq : oq.category = 1) (h : mLH ad oq LL ls L) (hm : n ∈ LL) (hn : ∀ a ∈ LL, a + 1 ≠ n)
    (h' : lv_has ls' L.length ((n, .long x) :: (mPr ad oq L).filter (fun q => !(q.1 == n) && (!(q.1 == n + 1) && !(q.1 + 1 == n && q.2.category == 2))))) : mLH ad oq LL ls' ((L.set n (some (.inr (.inl x)))).set (n + 1) none) := by
  have g : ∀ (a : Nat) (w : mV), ((L.set n (some (.inr (.inl x)))).set (n + 1) none)[a]? = some (some w) → (a = n ∧ w = .inr (.inl x)) ∨ (a ≠ n ∧ a ≠ n + 1 ∧ L[a]? = some (some w)) := by
    intro a w hw
    rw [List.getElem?_set] at hw
    by_cases h1 : n + 1 = a
    · rw [if_pos h1] at hw
      split at hw
      · cases hw
      · cases hw
    · rw [if_neg h1, List.getElem?_set] at hw
      by_cases h2 : n = a
      · rw [if_pos h2] at hw
        split at hw
        · cases hw; exact Or.inl ⟨h2.symm, rfl⟩
        · cases hw
      · rw [if_neg h2] at hw
        exact Or.inr ⟨fun z => h2 z.symm, fun z => h1 z.symm, hw⟩
  refine ⟨⟨by rw [List.length_set, List.length_set]; exact h'.1, h'.2.1, fun q hm => ?_⟩, fun a y ha => ?_⟩
  · obtain ⟨w, hw, e⟩ := mPr_of ad oq hm
    rcases g _ _ hw with ⟨h1, h2⟩ | ⟨h1, h2, h3⟩
    · rw [e, h1, h2]
      exact h'.2.2 (n, .long x) List.mem_cons_self
    · refine h'.2.2 q (List.mem_cons_of_mem _ (List.mem_filter.mpr ⟨?_, ?_⟩))
      · have := mPr_mem ad oq h3
        rw [← e] at this
        exact this
      · have e1 : (q.1 == n) = false := beq_eq_false_iff_ne.mpr h1
        have e2 : (q.1 == n + 1) = false := beq_eq_false_iff_ne.mpr h2
        rw [e1, e2]
        show (true && (true && _)) = true
        rw [Bool.true_and, Bool.true_and, Bool.not_eq_true', Bool.and_eq_false_iff]
        by_cases hc : q.2.category = 2
        · left
          rw [e] at hc
          obtain ⟨z, hz⟩ := mE_cat ad oq hq hc
          rw [hz] at h3
          exact beq_eq_false_iff_ne.mpr (hn _ (h.2 _ _ h3))
        · right
          exact beq_eq_false_iff_ne.mpr hc
  · rcases g _ _ ha with ⟨h1, h2⟩ | ⟨h1, h2, h3⟩
    · rw [h1]; exact hm
    · exact h.2 a y h3
end WORLD
