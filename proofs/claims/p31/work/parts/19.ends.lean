/-! Loops that end by themselves, loops that end from where they begin, what a loop keeps -/
def mMx (i : Int32) : Nat := (2147483647 - i.toInt).toNat
theorem mtm_max {i N : Int32} (h : ¬ N ≤ i) : mMx (i + 1) < mMx i := by
  unfold mMx
  have h1 : i.toInt < N.toInt := by
    rw [Int32.le_iff_toInt_le] at h; omega
  have h2 := N.toInt_lt
  have h3 : (i + 1).toInt = i.toInt + 1 := by
    rw [Int32.toInt_add]
    have h4 := Int32.le_toInt i
    have : (1 : Int32).toInt = 1 := by decide
    rw [this]
    simp only [Int.bmod]
    omega
  rw [h3]; omega
theorem mWh_ev1 {S R : Type} {dv : R} {B : S → S ⊕ R} {ev : S → mR} {w : R → mR} {s : S} (he : ∃ n r, mWn B n s = some r) (h : ∀ s, ev s = wB ev w (B s)) : ev s = w (mWh dv B s) := by
  obtain ⟨n, r, hn⟩ := he
  rw [mWh_of hn]
  induction n generalizing s with
  | zero => cases hn
  | succ n ih =>
    rw [h s]
    unfold mWn at hn
    cases hb : B s with
    | inr r' => rw [hb] at hn; cases hn; rfl
    | inl s' => rw [hb] at hn; exact ih hn
theorem mWn_ind {S R : Type} {B : S → S ⊕ R} {Inv : S → Prop} {Post : R → Prop} (hl : ∀ s s', Inv s → B s = .inl s' → Inv s') (hr : ∀ s r, Inv s → B s = .inr r → Post r) : ∀ (n : Nat) (s : S) (r : R), Inv s → mWn B n s = some r → Post r
  | 0, _, _, _, h => by cases h
  | n + 1, s, r, hi, h => by
    unfold mWn at h
    split at h
    next s' hs => exact mWn_ind hl hr n s' r (hl s s' hi hs) h
    next r' hs => cases h; exact hr s _ hi hs
/-- what holds at the head holds behind a loop that ends -/
theorem mWh_ind {S R : Type} {dv : R} {B : S → S ⊕ R} {Inv : S → Prop} {Post : R → Prop} (ht : mTm B) (hl : ∀ s s', Inv s → B s = .inl s' → Inv s') (hr : ∀ s r, Inv s → B s = .inr r → Post r) {s : S} (hi : Inv s) : Post (mWh dv B s) := by
  obtain ⟨n, r, hn⟩ := mWn_ends ht s
  rw [mWh_of hn]
  exact mWn_ind hl hr n s r hi hn
theorem mP_s (c : mC) (j k : Nat) (v : Int32) : mP c j k v j k = v := by
  unfold mP; rw [if_pos ⟨rfl, rfl⟩]
theorem mP_n (c : mC) (j : Nat) (v : Int32) {k k' : Nat} (h : k' ≠ k) : mP c j k v j k' = c j k' := by
  unfold mP; rw [if_neg (fun z => h z.2)]
def mMd (i : Int32) : Nat := (i.toInt + 1).toNat
theorem mtm_dn {i : Int32} (h : ¬ i < 0) : mMd (i + (-1)) < mMd i := by
  unfold mMd
  have h1 : 0 ≤ i.toInt := by
    rw [Int32.lt_iff_toInt_lt] at h; have : (0 : Int32).toInt = 0 := by decide
    omega
  have h2 := i.toInt_lt
  have h3 : (i + (-1)).toInt = i.toInt - 1 := by
    rw [Int32.toInt_add]
    have : (-1 : Int32).toInt = -1 := by decide
    rw [this]
    simp only [Int.bmod]
    omega
  rw [h3]; omega
theorem mtm_lt {i : Int32} (h : ¬ 60 < i) : mMx (i + 1) < mMx i :=
  mtm_max (N := 61) (fun z => h (by
    rw [Int32.le_iff_toInt_le] at z; rw [Int32.lt_iff_toInt_lt]
    have e1 : (60 : Int32).toInt = 60 := by decide
    have e2 : (61 : Int32).toInt = 61 := by decide
    omega))
theorem mBo_some {α β : Type} {o : Option α} {f : α → Option β} {x : β} (h : mBo none o f = some x) : ∃ v, o = some v ∧ f v = some x := by
  cases o with
  | none => cases h
  | some v => exact ⟨v, rfl, h⟩
theorem mw_oZe {X : mX} {γ : Type} {w : γ → mR} {dz : γ} {k : mK} {nx : List mT} {L : mL} {st : List mV} {d a : Nat} {vs : List mV} {dat : Nat → mDat} {o : Option Int32} {i : Nat} {c : mC} {g0 g : mG} {body : Int32 → γ} (hz : none = w dz) (h : mCall dat X d a vs g0 = wO (wI g i c) o) (hb : mdK (dat a) = 2) (hk : ∀ z, z &&& 1 = z → o = some z → k nx L (mi z :: st) (mU g i c) = w (body z)) : mAns k nx L st (mCall dat X d a vs g0) = w (mBo dz o body) := by
  cases o with
  | none => rw [h]; exact hz
  | some v =>
    have h2 := mCall_bool h hb
    rw [h]; exact hk v h2 rfl
theorem mWn_s {S R : Type} (B : S → S ⊕ R) (n : Nat) (s : S) : mWn B (n + 1) s = (match B s with
    | .inl s' => mWn B n s'
    | .inr r => some r) := rfl
