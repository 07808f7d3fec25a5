/-! From runs to functions: what a block does, loops, calls -/
section BASE
variable {X : mX} {call : Nat → List mV → mG → mR} {rt : Nat} {full cur : List mT} {L : mL} {st : List mV} {g : mG}
theorem mEv_fun : mEv X call rt full = mStep X call rt full (mEv X call rt full) := by
  funext a b c d
  exact mEv_eq b c d a
theorem mU_mU (g : mG) (i : Nat) (c c' : mC) : mU (mU g i c) i c' = mU g i c' := by
  funext j
  unfold mU
  by_cases h : j = i
  · rw [if_pos h, if_pos h]
  · rw [if_neg h, if_neg h, if_neg h]
theorem mU_self (g : mG) (i : Nat) : mU g i (g i) = g := by
  funext j
  unfold mU
  by_cases h : j = i
  · rw [if_pos h, h]
  · rw [if_neg h]
theorem mU_ne (g : mG) {i o : Nat} (c : mC) (h : o ≠ i) : mU g i c o = g o := by
  unfold mU
  rw [if_neg h]
def mBd {α β : Type} (x : α) (f : α → β) : β := f x
abbrev wN (g : mG) (x : Int32) : mR := some (some (mi x), g)
abbrev wI (g : mG) (i : Nat) (c : mC) (x : Int32) : mR := some (some (mi x), mU g i c)
abbrev wV (g : mG) (i : Nat) (c : mC) : mR := some (none, mU g i c)
abbrev wW (g : mG) (i : Nat) (x : Int32 × mC) : mR := some (some (mi x.1), mU g i x.2)
def wO {α : Type} (w : α → mR) : Option α → mR
  | none => none
  | some x => w x
def wB {S R : Type} (ev : S → mR) (w : R → mR) : S ⊕ R → mR
  | .inl s => ev s
  | .inr r => w r
theorem mw_ite {α : Type} {w : α → mR} {c : Prop} {hd : Decidable c} {a b : mR} {x y : α} (h1 : c → a = w x) (h2 : ¬ c → b = w y) : @ite _ c hd a b = w (@ite _ c hd x y) := by
  by_cases h : c
  · rw [if_pos h, if_pos h]; exact h1 h
  · rw [if_neg h, if_neg h]; exact h2 h
theorem mw_cI {α : Type} {w : α → mR} {k : mK} {nx : List mT} {x : mR} {v : Int32} {g : mG} {body : Int32 → α} (h : x = some (some (mi v), g)) (hk : ∀ z, k nx L (mi z :: st) g = w (body z)) : mAns k nx L st x = w (mBd v body) := by
  rw [h]; exact hk v
theorem mw_cV {α : Type} {w : α → mR} {k : mK} {nx : List mT} {x : mR} {c : mC} {i : Nat} {g : mG} {body : mC → α} (h : x = wV g i c) (hk : ∀ z, k nx L st (mU g i z) = w (body z)) : mAns k nx L st x = w (mBd c body) := by
  rw [h]; exact hk c
theorem mw_cW {α : Type} {w : α → mR} {k : mK} {nx : List mT} {x : mR} {c : Int32 × mC} {i : Nat} {g : mG} {body : Int32 × mC → α} (h : x = wW g i c) (hk : ∀ z : Int32 × mC, k nx L (mi z.1 :: st) (mU g i z.2) = w (body z)) : mAns k nx L st x = w (mBd c body) := by
  rw [h]; exact hk c
theorem mCall_eq {dat : Nat → mDat} {d a : Nat} {vs : List mV} (h : (Nat.ble vs.length (mdL (dat a)) && vs.all mNoL) = true) : mCall dat X (d + 1) a vs g = mEv X (mCall dat X d) (mdK (dat a)) (mdT (dat a)) (mdT (dat a)) (mL0 (mdL (dat a)) vs) [] g := by
  show (match Nat.ble vs.length (mdL (dat a)) && vs.all mNoL with
    | true => mEv X (mCall dat X d) (mdK (dat a)) (mdT (dat a)) (mdT (dat a)) (mL0 (mdL (dat a)) vs) [] g
    | false => none) = _
  rw [h]
/-- a loop, to its end -/
def mWn {S R : Type} (B : S → S ⊕ R) : Nat → S → Option R
  | 0, _ => none
  | n + 1, s => match B s with
    | .inl s' => mWn B n s'
    | .inr r => some r
def mTm {S R : Type} (B : S → S ⊕ R) : Prop := ∃ μ : S → Nat, ∀ s s', B s = .inl s' → μ s' < μ s
noncomputable def mWh {S R : Type} (dv : R) (B : S → S ⊕ R) (s : S) : R := by
  classical
  exact if h : ∃ n r, mWn B n s = some r then Classical.choose (Classical.choose_spec h) else dv
theorem mWn_mono {S R : Type} (B : S → S ⊕ R) : ∀ (n : Nat) (s : S) (r : R), mWn B n s = some r → mWn B (n + 1) s = some r
  | 0, _, _, h => by cases h
  | n + 1, s, r, h => by
    unfold mWn at h ⊢
    split at h
    next s' hs => exact mWn_mono B n s' r h
    next r' hr => exact h
theorem mWn_le {S R : Type} {B : S → S ⊕ R} {n m : Nat} {s : S} {r : R} (hn : n ≤ m) (h : mWn B n s = some r) : mWn B m s = some r := by
  induction hn with
  | refl => exact h
  | step _ ih => exact mWn_mono B _ s r ih
theorem mWh_of {S R : Type} {dv : R} {B : S → S ⊕ R} {n : Nat} {s : S} {r : R} (h : mWn B n s = some r) : mWh dv B s = r := by
  have h0 : ∃ n r, mWn B n s = some r := ⟨n, r, h⟩
  unfold mWh
  rw [dif_pos h0]
  have h1 := Classical.choose_spec (Classical.choose_spec h0)
  have a1 := mWn_le (Nat.le_max_left n (Classical.choose h0)) h
  have a2 := mWn_le (Nat.le_max_right n (Classical.choose h0)) h1
  rw [a1] at a2
  exact (Option.some.inj a2).symm
theorem mWn_ends {S R : Type} {B : S → S ⊕ R} (ht : mTm B) (s : S) : ∃ n r, mWn B n s = some r := by
  obtain ⟨μ, hμ⟩ := ht
  have : ∀ m s, μ s < m → ∃ n r, mWn B n s = some r := by
    intro m
    induction m with
    | zero => intro s h; omega
    | succ m ih =>
      intro s h
      cases hb : B s with
      | inr r => exact ⟨1, r, by unfold mWn; rw [hb]⟩
      | inl s' =>
        obtain ⟨n, r, hn⟩ := ih s' (by have := hμ s s' hb; omega)
        exact ⟨n + 1, r, by unfold mWn; rw [hb]; exact hn⟩
  exact this (μ s + 1) s (Nat.lt_succ_self _)
/-- the loop's equation -/
theorem mWh_eq {S R : Type} {dv : R} {B : S → S ⊕ R} (ht : mTm B) (s : S) : mWh dv B s = (match B s with
    | .inl s' => mWh dv B s'
    | .inr r => r) := by
  cases hb : B s with
  | inr r => exact mWh_of (n := 1) (by unfold mWn; rw [hb])
  | inl s' =>
    obtain ⟨n, r, hn⟩ := mWn_ends ht s'
    show mWh dv B s = mWh dv B s'
    rw [mWh_of hn]
    exact mWh_of (n := n + 1) (by unfold mWn; rw [hb]; exact hn)
theorem mWh_ev {S R : Type} {dv : R} {B : S → S ⊕ R} {ev : S → mR} {w : R → mR} (ht : mTm B) (h : ∀ s, ev s = wB ev w (B s)) (s : S) : ev s = w (mWh dv B s) := by
  obtain ⟨n, r, hn⟩ := mWn_ends ht s
  rw [mWh_of hn]
  induction n generalizing s with
  | zero => cases hn
  | succ n ih =>
    rw [h s]
    unfold mWn at hn
    cases hb : B s with
    | inr r' => rw [hb] at hn; cases hn; rfl
    | inl s' => rw [hb] at hn; exact ih s' hn
theorem mw_inr {S R : Type} {ev : S → mR} {w : R → mR} {a : mR} {r : R} (h : a = w r) : a = wB ev w (.inr r) := h
theorem mw_inl {S R : Type} {ev : S → mR} {w : R → mR} {a : mR} {s : S} (h : a = ev s) : a = wB ev w (.inl s) := h
theorem mZ_run : ∀ (n : Nat) (cur : List mT) (L : mL) (st : List mV) (g : mG) (res : Option mV × mG), mRun X call 2 full n cur L st g = some res → mZ res
  | 0, _, _, _, _, _, h => by cases h
  | n + 1, cur, L, st, g, res, h => by
    cases cur with
    | nil => cases h
    | cons x nx =>
      obtain ⟨z, hz⟩ := mF_step (X := X) (call := call) (rt := 2) (full := full) L st g (x :: nx)
      have h1 := hz (mRun X call 2 full n)
      have h2 := hz (fun _ _ _ _ => none)
      have h : mStep X call 2 full (mRun X call 2 full n) (x :: nx) L st g = some res := h
      dsimp only at h1 h2
      rw [h1] at h
      rcases z with z | z
      · have h3 : mStep X call 2 full (fun _ _ _ _ => none) (x :: nx) L st g = some res := h2.trans h
        exact mZ_ins L st g h3
      · exact mZ_run n _ _ _ _ _ h
theorem mCall_bool {dat : Nat → mDat} {d a : Nat} {vs : List mV} {v : Int32} {g' : mG} (h : mCall dat X d a vs g = some (some (mi v), g')) (hk : mdK (dat a) = 2) : v &&& 1 = v := by
  cases d with
  | zero => cases h
  | succ d =>
    unfold mCall at h
    split at h
    next =>
      rw [hk] at h
      obtain ⟨n, hn⟩ := mEv_run h
      exact mZ_run n _ _ _ _ _ hn v g' rfl
    next => cases h
def mBo {α γ : Type} (dz : γ) (o : Option α) (f : α → γ) : γ := match o with
  | none => dz
  | some x => f x
theorem mw_cZ {α : Type} {w : α → mR} {k : mK} {nx : List mT} {d a : Nat} {vs : List mV} {dat : Nat → mDat} {v : Int32} {g0 g : mG} {body : Int32 → α} (h : mCall dat X d a vs g0 = some (some (mi v), g)) (hb : mdK (dat a) = 2) (hk : ∀ z, z &&& 1 = z → k nx L (mi z :: st) g = w (body z)) : mAns k nx L st (mCall dat X d a vs g0) = w (mBd v body) := by
  have h2 := mCall_bool h hb
  rw [h]; exact hk v h2
theorem mw_oI {γ : Type} {w : γ → mR} {dz : γ} {k : mK} {nx : List mT} {x : mR} {o : Option Int32} {i : Nat} {c : mC} {g : mG} {body : Int32 → γ} (hz : none = w dz) (h : x = wO (wI g i c) o) (hk : ∀ z, k nx L (mi z :: st) (mU g i c) = w (body z)) : mAns k nx L st x = w (mBo dz o body) := by
  rw [h]; cases o with
  | none => exact hz
  | some v => exact hk v
theorem mw_oN {γ : Type} {w : γ → mR} {dz : γ} {k : mK} {nx : List mT} {x : mR} {o : Option Int32} {g : mG} {body : Int32 → γ} (hz : none = w dz) (h : x = wO (wN g) o) (hk : ∀ z, k nx L (mi z :: st) g = w (body z)) : mAns k nx L st x = w (mBo dz o body) := by
  rw [h]; cases o with
  | none => exact hz
  | some v => exact hk v
theorem mw_oV {γ : Type} {w : γ → mR} {dz : γ} {k : mK} {nx : List mT} {x : mR} {o : Option mC} {i : Nat} {g : mG} {body : mC → γ} (hz : none = w dz) (h : x = wO (wV g i) o) (hk : ∀ z, k nx L st (mU g i z) = w (body z)) : mAns k nx L st x = w (mBo dz o body) := by
  rw [h]; cases o with
  | none => exact hz
  | some v => exact hk v
theorem mw_oW {γ : Type} {w : γ → mR} {dz : γ} {k : mK} {nx : List mT} {x : mR} {o : Option (Int32 × mC)} {i : Nat} {g : mG} {body : Int32 × mC → γ} (hz : none = w dz) (h : x = wO (wW g i) o) (hk : ∀ z : Int32 × mC, k nx L (mi z.1 :: st) (mU g i z.2) = w (body z)) : mAns k nx L st x = w (mBo dz o body) := by
  rw [h]; cases o with
  | none => exact hz
  | some v => exact hk v
theorem mw_oZ {γ : Type} {w : γ → mR} {dz : γ} {k : mK} {nx : List mT} {d a : Nat} {vs : List mV} {dat : Nat → mDat} {o : Option Int32} {i : Nat} {c : mC} {g0 g : mG} {body : Int32 → γ} (hz : none = w dz) (h : mCall dat X d a vs g0 = wO (wI g i c) o) (hb : mdK (dat a) = 2) (hk : ∀ z, z &&& 1 = z → k nx L (mi z :: st) (mU g i c) = w (body z)) : mAns k nx L st (mCall dat X d a vs g0) = w (mBo dz o body) := by
  cases o with
  | none => rw [h]; exact hz
  | some v =>
    have h2 := mCall_bool h hb
    rw [h]; exact hk v h2
theorem mw_oY {γ : Type} {w : γ → mR} {dz : γ} {k : mK} {nx : List mT} {d a : Nat} {vs : List mV} {dat : Nat → mDat} {o : Option (Int32 × mC)} {i : Nat} {g0 g : mG} {body : Int32 × mC → γ} (hz : none = w dz) (h : mCall dat X d a vs g0 = wO (wW g i) o) (hb : mdK (dat a) = 2) (hk : ∀ z : Int32 × mC, z.1 &&& 1 = z.1 → k nx L (mi z.1 :: st) (mU g i z.2) = w (body z)) : mAns k nx L st (mCall dat X d a vs g0) = w (mBo dz o body) := by
  cases o with
  | none => rw [h]; exact hz
  | some v =>
    have h2 := mCall_bool h hb
    rw [h]; exact hk v h2
theorem mw_cY {α : Type} {w : α → mR} {k : mK} {nx : List mT} {d a : Nat} {vs : List mV} {dat : Nat → mDat} {c : Int32 × mC} {i : Nat} {g0 g : mG} {body : Int32 × mC → α} (h : mCall dat X d a vs g0 = wW g i c) (hb : mdK (dat a) = 2) (hk : ∀ z : Int32 × mC, z.1 &&& 1 = z.1 → k nx L (mi z.1 :: st) (mU g i z.2) = w (body z)) : mAns k nx L st (mCall dat X d a vs g0) = w (mBd c body) := by
  have h2 := mCall_bool h hb
  rw [h]; exact hk c h2
abbrev wG (x : Int32 × mG) : mR := some (some (mi x.1), x.2)
theorem mw_gV {α : Type} {w : α → mR} {k : mK} {nx : List mT} {x : mR} {c : mG} {body : mG → α} (h : x = some (none, c)) (hk : ∀ z, k nx L st z = w (body z)) : mAns k nx L st x = w (mBd c body) := by
  rw [h]; exact hk c
theorem mw_gW {α : Type} {w : α → mR} {k : mK} {nx : List mT} {x : mR} {c : Int32 × mG} {body : Int32 × mG → α} (h : x = wG c) (hk : ∀ z : Int32 × mG, k nx L (mi z.1 :: st) z.2 = w (body z)) : mAns k nx L st x = w (mBd c body) := by
  rw [h]; exact hk c
theorem mw_gY {α : Type} {w : α → mR} {k : mK} {nx : List mT} {d a : Nat} {vs : List mV} {dat : Nat → mDat} {c : Int32 × mG} {g0 : mG} {body : Int32 × mG → α} (h : mCall dat X d a vs g0 = wG c) (hb : mdK (dat a) = 2) (hk : ∀ z : Int32 × mG, z.1 &&& 1 = z.1 → k nx L (mi z.1 :: st) z.2 = w (body z)) : mAns k nx L st (mCall dat X d a vs g0) = w (mBd c body) := by
  have h2 := mCall_bool h hb
  rw [h]; exact hk c h2
theorem mand1 (x : Int32) : (x &&& 1) &&& 1 = x &&& 1 := by
  rw [Int32.and_assoc, Int32.and_self]
theorem mne_pos {x : Int32} (h : ¬ x ≤ 0) : x ≠ 0 := fun e => h (by rw [e]; exact Int32.le_refl 0)
theorem mne_pos2 {x : Int32} (h : 0 < x) : x ≠ 0 := fun e => by rw [e] at h; exact Int32.lt_irrefl h
end BASE
section STEPS
variable {X : mX} {call : Nat → List mV → mG → mR} {rt : Nat} {full : List mT} (cur : List mT) (L : mL) (st : List mV) (g : mG)
theorem mEv_1 : mEv X call rt full cur L st g = mStep X call rt full (mEv X call rt full) cur L st g := mEv_eq L st g cur
theorem mEv_2 : mEv X call rt full cur L st g = (mStep X call rt full (mStep X call rt full (mEv X call rt full))) cur L st g := by
  rw [mEv_1]
  exact congrArg (fun k => (mStep X call rt full k) cur L st g) mEv_fun
theorem mEv_3 : mEv X call rt full cur L st g = (mStep X call rt full (mStep X call rt full (mStep X call rt full (mEv X call rt full)))) cur L st g := by
  rw [mEv_2]
  exact congrArg (fun k => (mStep X call rt full (mStep X call rt full k)) cur L st g) mEv_fun
theorem mEv_4 : mEv X call rt full cur L st g = (mStep X call rt full (mStep X call rt full (mStep X call rt full (mStep X call rt full (mEv X call rt full))))) cur L st g := by
  rw [mEv_3]
  exact congrArg (fun k => (mStep X call rt full (mStep X call rt full (mStep X call rt full k))) cur L st g) mEv_fun
theorem mEv_5 : mEv X call rt full cur L st g = (mStep X call rt full (mStep X call rt full (mStep X call rt full (mStep X call rt full (mStep X call rt full (mEv X call rt full)))))) cur L st g := by
  rw [mEv_4]
  exact congrArg (fun k => (mStep X call rt full (mStep X call rt full (mStep X call rt full (mStep X call rt full k)))) cur L st g) mEv_fun
theorem mEv_6 : mEv X call rt full cur L st g = (mStep X call rt full (mStep X call rt full (mStep X call rt full (mStep X call rt full (mStep X call rt full (mStep X call rt full (mEv X call rt full))))))) cur L st g := by
  rw [mEv_5]
  exact congrArg (fun k => (mStep X call rt full (mStep X call rt full (mStep X call rt full (mStep X call rt full (mStep X call rt full k))))) cur L st g) mEv_fun
theorem mEv_7 : mEv X call rt full cur L st g = (mStep X call rt full (mStep X call rt full (mStep X call rt full (mStep X call rt full (mStep X call rt full (mStep X call rt full (mStep X call rt full (mEv X call rt full)))))))) cur L st g := by
  rw [mEv_6]
  exact congrArg (fun k => (mStep X call rt full (mStep X call rt full (mStep X call rt full (mStep X call rt full (mStep X call rt full (mStep X call rt full k)))))) cur L st g) mEv_fun
theorem mEv_8 : mEv X call rt full cur L st g = (mStep X call rt full (mStep X call rt full (mStep X call rt full (mStep X call rt full (mStep X call rt full (mStep X call rt full (mStep X call rt full (mStep X call rt full (mEv X call rt full))))))))) cur L st g := by
  rw [mEv_7]
  exact congrArg (fun k => (mStep X call rt full (mStep X call rt full (mStep X call rt full (mStep X call rt full (mStep X call rt full (mStep X call rt full (mStep X call rt full k))))))) cur L st g) mEv_fun
theorem mEv_9 : mEv X call rt full cur L st g = (mStep X call rt full (mStep X call rt full (mStep X call rt full (mStep X call rt full (mStep X call rt full (mStep X call rt full (mStep X call rt full (mStep X call rt full (mStep X call rt full (mEv X call rt full)))))))))) cur L st g := by
  rw [mEv_8]
  exact congrArg (fun k => (mStep X call rt full (mStep X call rt full (mStep X call rt full (mStep X call rt full (mStep X call rt full (mStep X call rt full (mStep X call rt full (mStep X call rt full k)))))))) cur L st g) mEv_fun
theorem mEv_10 : mEv X call rt full cur L st g = (mStep X call rt full (mStep X call rt full (mStep X call rt full (mStep X call rt full (mStep X call rt full (mStep X call rt full (mStep X call rt full (mStep X call rt full (mStep X call rt full (mStep X call rt full (mEv X call rt full))))))))))) cur L st g := by
  rw [mEv_9]
  exact congrArg (fun k => (mStep X call rt full (mStep X call rt full (mStep X call rt full (mStep X call rt full (mStep X call rt full (mStep X call rt full (mStep X call rt full (mStep X call rt full (mStep X call rt full k))))))))) cur L st g) mEv_fun
theorem mEv_11 : mEv X call rt full cur L st g = (mStep X call rt full (mStep X call rt full (mStep X call rt full (mStep X call rt full (mStep X call rt full (mStep X call rt full (mStep X call rt full (mStep X call rt full (mStep X call rt full (mStep X call rt full (mStep X call rt full (mEv X call rt full)))))))))))) cur L st g := by
  rw [mEv_10]
  exact congrArg (fun k => (mStep X call rt full (mStep X call rt full (mStep X call rt full (mStep X call rt full (mStep X call rt full (mStep X call rt full (mStep X call rt full (mStep X call rt full (mStep X call rt full (mStep X call rt full k)))))))))) cur L st g) mEv_fun
theorem mEv_12 : mEv X call rt full cur L st g = (mStep X call rt full (mStep X call rt full (mStep X call rt full (mStep X call rt full (mStep X call rt full (mStep X call rt full (mStep X call rt full (mStep X call rt full (mStep X call rt full (mStep X call rt full (mStep X call rt full (mStep X call rt full (mEv X call rt full))))))))))))) cur L st g := by
  rw [mEv_11]
  exact congrArg (fun k => (mStep X call rt full (mStep X call rt full (mStep X call rt full (mStep X call rt full (mStep X call rt full (mStep X call rt full (mStep X call rt full (mStep X call rt full (mStep X call rt full (mStep X call rt full (mStep X call rt full k))))))))))) cur L st g) mEv_fun
theorem mEv_13 : mEv X call rt full cur L st g = (mStep X call rt full (mStep X call rt full (mStep X call rt full (mStep X call rt full (mStep X call rt full (mStep X call rt full (mStep X call rt full (mStep X call rt full (mStep X call rt full (mStep X call rt full (mStep X call rt full (mStep X call rt full (mStep X call rt full (mEv X call rt full)))))))))))))) cur L st g := by
  rw [mEv_12]
  exact congrArg (fun k => (mStep X call rt full (mStep X call rt full (mStep X call rt full (mStep X call rt full (mStep X call rt full (mStep X call rt full (mStep X call rt full (mStep X call rt full (mStep X call rt full (mStep X call rt full (mStep X call rt full (mStep X call rt full k)))))))))))) cur L st g) mEv_fun
theorem mEv_14 : mEv X call rt full cur L st g = (mStep X call rt full (mStep X call rt full (mStep X call rt full (mStep X call rt full (mStep X call rt full (mStep X call rt full (mStep X call rt full (mStep X call rt full (mStep X call rt full (mStep X call rt full (mStep X call rt full (mStep X call rt full (mStep X call rt full (mStep X call rt full (mEv X call rt full))))))))))))))) cur L st g := by
  rw [mEv_13]
  exact congrArg (fun k => (mStep X call rt full (mStep X call rt full (mStep X call rt full (mStep X call rt full (mStep X call rt full (mStep X call rt full (mStep X call rt full (mStep X call rt full (mStep X call rt full (mStep X call rt full (mStep X call rt full (mStep X call rt full (mStep X call rt full k))))))))))))) cur L st g) mEv_fun
theorem mEv_15 : mEv X call rt full cur L st g = (mStep X call rt full (mStep X call rt full (mStep X call rt full (mStep X call rt full (mStep X call rt full (mStep X call rt full (mStep X call rt full (mStep X call rt full (mStep X call rt full (mStep X call rt full (mStep X call rt full (mStep X call rt full (mStep X call rt full (mStep X call rt full (mStep X call rt full (mEv X call rt full)))))))))))))))) cur L st g := by
  rw [mEv_14]
  exact congrArg (fun k => (mStep X call rt full (mStep X call rt full (mStep X call rt full (mStep X call rt full (mStep X call rt full (mStep X call rt full (mStep X call rt full (mStep X call rt full (mStep X call rt full (mStep X call rt full (mStep X call rt full (mStep X call rt full (mStep X call rt full (mStep X call rt full k)))))))))))))) cur L st g) mEv_fun
theorem mEv_16 : mEv X call rt full cur L st g = (mStep X call rt full (mStep X call rt full (mStep X call rt full (mStep X call rt full (mStep X call rt full (mStep X call rt full (mStep X call rt full (mStep X call rt full (mStep X call rt full (mStep X call rt full (mStep X call rt full (mStep X call rt full (mStep X call rt full (mStep X call rt full (mStep X call rt full (mStep X call rt full (mEv X call rt full))))))))))))))))) cur L st g := by
  rw [mEv_15]
  exact congrArg (fun k => (mStep X call rt full (mStep X call rt full (mStep X call rt full (mStep X call rt full (mStep X call rt full (mStep X call rt full (mStep X call rt full (mStep X call rt full (mStep X call rt full (mStep X call rt full (mStep X call rt full (mStep X call rt full (mStep X call rt full (mStep X call rt full (mStep X call rt full k))))))))))))))) cur L st g) mEv_fun
theorem mEv_17 : mEv X call rt full cur L st g = (mStep X call rt full (mStep X call rt full (mStep X call rt full (mStep X call rt full (mStep X call rt full (mStep X call rt full (mStep X call rt full (mStep X call rt full (mStep X call rt full (mStep X call rt full (mStep X call rt full (mStep X call rt full (mStep X call rt full (mStep X call rt full (mStep X call rt full (mStep X call rt full (mStep X call rt full (mEv X call rt full)))))))))))))))))) cur L st g := by
  rw [mEv_16]
  exact congrArg (fun k => (mStep X call rt full (mStep X call rt full (mStep X call rt full (mStep X call rt full (mStep X call rt full (mStep X call rt full (mStep X call rt full (mStep X call rt full (mStep X call rt full (mStep X call rt full (mStep X call rt full (mStep X call rt full (mStep X call rt full (mStep X call rt full (mStep X call rt full (mStep X call rt full k)))))))))))))))) cur L st g) mEv_fun
theorem mEv_18 : mEv X call rt full cur L st g = (mStep X call rt full (mStep X call rt full (mStep X call rt full (mStep X call rt full (mStep X call rt full (mStep X call rt full (mStep X call rt full (mStep X call rt full (mStep X call rt full (mStep X call rt full (mStep X call rt full (mStep X call rt full (mStep X call rt full (mStep X call rt full (mStep X call rt full (mStep X call rt full (mStep X call rt full (mStep X call rt full (mEv X call rt full))))))))))))))))))) cur L st g := by
  rw [mEv_17]
  exact congrArg (fun k => (mStep X call rt full (mStep X call rt full (mStep X call rt full (mStep X call rt full (mStep X call rt full (mStep X call rt full (mStep X call rt full (mStep X call rt full (mStep X call rt full (mStep X call rt full (mStep X call rt full (mStep X call rt full (mStep X call rt full (mStep X call rt full (mStep X call rt full (mStep X call rt full (mStep X call rt full k))))))))))))))))) cur L st g) mEv_fun
theorem mEv_19 : mEv X call rt full cur L st g = (mStep X call rt full (mStep X call rt full (mStep X call rt full (mStep X call rt full (mStep X call rt full (mStep X call rt full (mStep X call rt full (mStep X call rt full (mStep X call rt full (mStep X call rt full (mStep X call rt full (mStep X call rt full (mStep X call rt full (mStep X call rt full (mStep X call rt full (mStep X call rt full (mStep X call rt full (mStep X call rt full (mStep X call rt full (mEv X call rt full)))))))))))))))))))) cur L st g := by
  rw [mEv_18]
  exact congrArg (fun k => (mStep X call rt full (mStep X call rt full (mStep X call rt full (mStep X call rt full (mStep X call rt full (mStep X call rt full (mStep X call rt full (mStep X call rt full (mStep X call rt full (mStep X call rt full (mStep X call rt full (mStep X call rt full (mStep X call rt full (mStep X call rt full (mStep X call rt full (mStep X call rt full (mStep X call rt full (mStep X call rt full k)))))))))))))))))) cur L st g) mEv_fun
theorem mEv_20 : mEv X call rt full cur L st g = (mStep X call rt full (mStep X call rt full (mStep X call rt full (mStep X call rt full (mStep X call rt full (mStep X call rt full (mStep X call rt full (mStep X call rt full (mStep X call rt full (mStep X call rt full (mStep X call rt full (mStep X call rt full (mStep X call rt full (mStep X call rt full (mStep X call rt full (mStep X call rt full (mStep X call rt full (mStep X call rt full (mStep X call rt full (mStep X call rt full (mEv X call rt full))))))))))))))))))))) cur L st g := by
  rw [mEv_19]
  exact congrArg (fun k => (mStep X call rt full (mStep X call rt full (mStep X call rt full (mStep X call rt full (mStep X call rt full (mStep X call rt full (mStep X call rt full (mStep X call rt full (mStep X call rt full (mStep X call rt full (mStep X call rt full (mStep X call rt full (mStep X call rt full (mStep X call rt full (mStep X call rt full (mStep X call rt full (mStep X call rt full (mStep X call rt full (mStep X call rt full k))))))))))))))))))) cur L st g) mEv_fun
theorem mEv_21 : mEv X call rt full cur L st g = (mStep X call rt full (mStep X call rt full (mStep X call rt full (mStep X call rt full (mStep X call rt full (mStep X call rt full (mStep X call rt full (mStep X call rt full (mStep X call rt full (mStep X call rt full (mStep X call rt full (mStep X call rt full (mStep X call rt full (mStep X call rt full (mStep X call rt full (mStep X call rt full (mStep X call rt full (mStep X call rt full (mStep X call rt full (mStep X call rt full (mStep X call rt full (mEv X call rt full)))))))))))))))))))))) cur L st g := by
  rw [mEv_20]
  exact congrArg (fun k => (mStep X call rt full (mStep X call rt full (mStep X call rt full (mStep X call rt full (mStep X call rt full (mStep X call rt full (mStep X call rt full (mStep X call rt full (mStep X call rt full (mStep X call rt full (mStep X call rt full (mStep X call rt full (mStep X call rt full (mStep X call rt full (mStep X call rt full (mStep X call rt full (mStep X call rt full (mStep X call rt full (mStep X call rt full (mStep X call rt full k)))))))))))))))))))) cur L st g) mEv_fun
theorem mEv_22 : mEv X call rt full cur L st g = (mStep X call rt full (mStep X call rt full (mStep X call rt full (mStep X call rt full (mStep X call rt full (mStep X call rt full (mStep X call rt full (mStep X call rt full (mStep X call rt full (mStep X call rt full (mStep X call rt full (mStep X call rt full (mStep X call rt full (mStep X call rt full (mStep X call rt full (mStep X call rt full (mStep X call rt full (mStep X call rt full (mStep X call rt full (mStep X call rt full (mStep X call rt full (mStep X call rt full (mEv X call rt full))))))))))))))))))))))) cur L st g := by
  rw [mEv_21]
  exact congrArg (fun k => (mStep X call rt full (mStep X call rt full (mStep X call rt full (mStep X call rt full (mStep X call rt full (mStep X call rt full (mStep X call rt full (mStep X call rt full (mStep X call rt full (mStep X call rt full (mStep X call rt full (mStep X call rt full (mStep X call rt full (mStep X call rt full (mStep X call rt full (mStep X call rt full (mStep X call rt full (mStep X call rt full (mStep X call rt full (mStep X call rt full (mStep X call rt full k))))))))))))))))))))) cur L st g) mEv_fun
theorem mEv_23 : mEv X call rt full cur L st g = (mStep X call rt full (mStep X call rt full (mStep X call rt full (mStep X call rt full (mStep X call rt full (mStep X call rt full (mStep X call rt full (mStep X call rt full (mStep X call rt full (mStep X call rt full (mStep X call rt full (mStep X call rt full (mStep X call rt full (mStep X call rt full (mStep X call rt full (mStep X call rt full (mStep X call rt full (mStep X call rt full (mStep X call rt full (mStep X call rt full (mStep X call rt full (mStep X call rt full (mStep X call rt full (mEv X call rt full)))))))))))))))))))))))) cur L st g := by
  rw [mEv_22]
  exact congrArg (fun k => (mStep X call rt full (mStep X call rt full (mStep X call rt full (mStep X call rt full (mStep X call rt full (mStep X call rt full (mStep X call rt full (mStep X call rt full (mStep X call rt full (mStep X call rt full (mStep X call rt full (mStep X call rt full (mStep X call rt full (mStep X call rt full (mStep X call rt full (mStep X call rt full (mStep X call rt full (mStep X call rt full (mStep X call rt full (mStep X call rt full (mStep X call rt full (mStep X call rt full k)))))))))))))))))))))) cur L st g) mEv_fun
theorem mEv_24 : mEv X call rt full cur L st g = (mStep X call rt full (mStep X call rt full (mStep X call rt full (mStep X call rt full (mStep X call rt full (mStep X call rt full (mStep X call rt full (mStep X call rt full (mStep X call rt full (mStep X call rt full (mStep X call rt full (mStep X call rt full (mStep X call rt full (mStep X call rt full (mStep X call rt full (mStep X call rt full (mStep X call rt full (mStep X call rt full (mStep X call rt full (mStep X call rt full (mStep X call rt full (mStep X call rt full (mStep X call rt full (mStep X call rt full (mEv X call rt full))))))))))))))))))))))))) cur L st g := by
  rw [mEv_23]
  exact congrArg (fun k => (mStep X call rt full (mStep X call rt full (mStep X call rt full (mStep X call rt full (mStep X call rt full (mStep X call rt full (mStep X call rt full (mStep X call rt full (mStep X call rt full (mStep X call rt full (mStep X call rt full (mStep X call rt full (mStep X call rt full (mStep X call rt full (mStep X call rt full (mStep X call rt full (mStep X call rt full (mStep X call rt full (mStep X call rt full (mStep X call rt full (mStep X call rt full (mStep X call rt full (mStep X call rt full k))))))))))))))))))))))) cur L st g) mEv_fun
theorem mEv_25 : mEv X call rt full cur L st g = (mStep X call rt full (mStep X call rt full (mStep X call rt full (mStep X call rt full (mStep X call rt full (mStep X call rt full (mStep X call rt full (mStep X call rt full (mStep X call rt full (mStep X call rt full (mStep X call rt full (mStep X call rt full (mStep X call rt full (mStep X call rt full (mStep X call rt full (mStep X call rt full (mStep X call rt full (mStep X call rt full (mStep X call rt full (mStep X call rt full (mStep X call rt full (mStep X call rt full (mStep X call rt full (mStep X call rt full (mStep X call rt full (mEv X call rt full)))))))))))))))))))))))))) cur L st g := by
  rw [mEv_24]
  exact congrArg (fun k => (mStep X call rt full (mStep X call rt full (mStep X call rt full (mStep X call rt full (mStep X call rt full (mStep X call rt full (mStep X call rt full (mStep X call rt full (mStep X call rt full (mStep X call rt full (mStep X call rt full (mStep X call rt full (mStep X call rt full (mStep X call rt full (mStep X call rt full (mStep X call rt full (mStep X call rt full (mStep X call rt full (mStep X call rt full (mStep X call rt full (mStep X call rt full (mStep X call rt full (mStep X call rt full (mStep X call rt full k)))))))))))))))))))))))) cur L st g) mEv_fun
theorem mEv_26 : mEv X call rt full cur L st g = (mStep X call rt full (mStep X call rt full (mStep X call rt full (mStep X call rt full (mStep X call rt full (mStep X call rt full (mStep X call rt full (mStep X call rt full (mStep X call rt full (mStep X call rt full (mStep X call rt full (mStep X call rt full (mStep X call rt full (mStep X call rt full (mStep X call rt full (mStep X call rt full (mStep X call rt full (mStep X call rt full (mStep X call rt full (mStep X call rt full (mStep X call rt full (mStep X call rt full (mStep X call rt full (mStep X call rt full (mStep X call rt full (mStep X call rt full (mEv X call rt full))))))))))))))))))))))))))) cur L st g := by
  rw [mEv_25]
  exact congrArg (fun k => (mStep X call rt full (mStep X call rt full (mStep X call rt full (mStep X call rt full (mStep X call rt full (mStep X call rt full (mStep X call rt full (mStep X call rt full (mStep X call rt full (mStep X call rt full (mStep X call rt full (mStep X call rt full (mStep X call rt full (mStep X call rt full (mStep X call rt full (mStep X call rt full (mStep X call rt full (mStep X call rt full (mStep X call rt full (mStep X call rt full (mStep X call rt full (mStep X call rt full (mStep X call rt full (mStep X call rt full (mStep X call rt full k))))))))))))))))))))))))) cur L st g) mEv_fun
theorem mEv_27 : mEv X call rt full cur L st g = (mStep X call rt full (mStep X call rt full (mStep X call rt full (mStep X call rt full (mStep X call rt full (mStep X call rt full (mStep X call rt full (mStep X call rt full (mStep X call rt full (mStep X call rt full (mStep X call rt full (mStep X call rt full (mStep X call rt full (mStep X call rt full (mStep X call rt full (mStep X call rt full (mStep X call rt full (mStep X call rt full (mStep X call rt full (mStep X call rt full (mStep X call rt full (mStep X call rt full (mStep X call rt full (mStep X call rt full (mStep X call rt full (mStep X call rt full (mStep X call rt full (mEv X call rt full)))))))))))))))))))))))))))) cur L st g := by
  rw [mEv_26]
  exact congrArg (fun k => (mStep X call rt full (mStep X call rt full (mStep X call rt full (mStep X call rt full (mStep X call rt full (mStep X call rt full (mStep X call rt full (mStep X call rt full (mStep X call rt full (mStep X call rt full (mStep X call rt full (mStep X call rt full (mStep X call rt full (mStep X call rt full (mStep X call rt full (mStep X call rt full (mStep X call rt full (mStep X call rt full (mStep X call rt full (mStep X call rt full (mStep X call rt full (mStep X call rt full (mStep X call rt full (mStep X call rt full (mStep X call rt full (mStep X call rt full k)))))))))))))))))))))))))) cur L st g) mEv_fun
theorem mEv_28 : mEv X call rt full cur L st g = (mStep X call rt full (mStep X call rt full (mStep X call rt full (mStep X call rt full (mStep X call rt full (mStep X call rt full (mStep X call rt full (mStep X call rt full (mStep X call rt full (mStep X call rt full (mStep X call rt full (mStep X call rt full (mStep X call rt full (mStep X call rt full (mStep X call rt full (mStep X call rt full (mStep X call rt full (mStep X call rt full (mStep X call rt full (mStep X call rt full (mStep X call rt full (mStep X call rt full (mStep X call rt full (mStep X call rt full (mStep X call rt full (mStep X call rt full (mStep X call rt full (mStep X call rt full (mEv X call rt full))))))))))))))))))))))))))))) cur L st g := by
  rw [mEv_27]
  exact congrArg (fun k => (mStep X call rt full (mStep X call rt full (mStep X call rt full (mStep X call rt full (mStep X call rt full (mStep X call rt full (mStep X call rt full (mStep X call rt full (mStep X call rt full (mStep X call rt full (mStep X call rt full (mStep X call rt full (mStep X call rt full (mStep X call rt full (mStep X call rt full (mStep X call rt full (mStep X call rt full (mStep X call rt full (mStep X call rt full (mStep X call rt full (mStep X call rt full (mStep X call rt full (mStep X call rt full (mStep X call rt full (mStep X call rt full (mStep X call rt full (mStep X call rt full k))))))))))))))))))))))))))) cur L st g) mEv_fun
theorem mEv_29 : mEv X call rt full cur L st g = (mStep X call rt full (mStep X call rt full (mStep X call rt full (mStep X call rt full (mStep X call rt full (mStep X call rt full (mStep X call rt full (mStep X call rt full (mStep X call rt full (mStep X call rt full (mStep X call rt full (mStep X call rt full (mStep X call rt full (mStep X call rt full (mStep X call rt full (mStep X call rt full (mStep X call rt full (mStep X call rt full (mStep X call rt full (mStep X call rt full (mStep X call rt full (mStep X call rt full (mStep X call rt full (mStep X call rt full (mStep X call rt full (mStep X call rt full (mStep X call rt full (mStep X call rt full (mStep X call rt full (mEv X call rt full)))))))))))))))))))))))))))))) cur L st g := by
  rw [mEv_28]
  exact congrArg (fun k => (mStep X call rt full (mStep X call rt full (mStep X call rt full (mStep X call rt full (mStep X call rt full (mStep X call rt full (mStep X call rt full (mStep X call rt full (mStep X call rt full (mStep X call rt full (mStep X call rt full (mStep X call rt full (mStep X call rt full (mStep X call rt full (mStep X call rt full (mStep X call rt full (mStep X call rt full (mStep X call rt full (mStep X call rt full (mStep X call rt full (mStep X call rt full (mStep X call rt full (mStep X call rt full (mStep X call rt full (mStep X call rt full (mStep X call rt full (mStep X call rt full (mStep X call rt full k)))))))))))))))))))))))))))) cur L st g) mEv_fun
theorem mEv_30 : mEv X call rt full cur L st g = (mStep X call rt full (mStep X call rt full (mStep X call rt full (mStep X call rt full (mStep X call rt full (mStep X call rt full (mStep X call rt full (mStep X call rt full (mStep X call rt full (mStep X call rt full (mStep X call rt full (mStep X call rt full (mStep X call rt full (mStep X call rt full (mStep X call rt full (mStep X call rt full (mStep X call rt full (mStep X call rt full (mStep X call rt full (mStep X call rt full (mStep X call rt full (mStep X call rt full (mStep X call rt full (mStep X call rt full (mStep X call rt full (mStep X call rt full (mStep X call rt full (mStep X call rt full (mStep X call rt full (mStep X call rt full (mEv X call rt full))))))))))))))))))))))))))))))) cur L st g := by
  rw [mEv_29]
  exact congrArg (fun k => (mStep X call rt full (mStep X call rt full (mStep X call rt full (mStep X call rt full (mStep X call rt full (mStep X call rt full (mStep X call rt full (mStep X call rt full (mStep X call rt full (mStep X call rt full (mStep X call rt full (mStep X call rt full (mStep X call rt full (mStep X call rt full (mStep X call rt full (mStep X call rt full (mStep X call rt full (mStep X call rt full (mStep X call rt full (mStep X call rt full (mStep X call rt full (mStep X call rt full (mStep X call rt full (mStep X call rt full (mStep X call rt full (mStep X call rt full (mStep X call rt full (mStep X call rt full (mStep X call rt full k))))))))))))))))))))))))))))) cur L st g) mEv_fun
theorem mEv_31 : mEv X call rt full cur L st g = (mStep X call rt full (mStep X call rt full (mStep X call rt full (mStep X call rt full (mStep X call rt full (mStep X call rt full (mStep X call rt full (mStep X call rt full (mStep X call rt full (mStep X call rt full (mStep X call rt full (mStep X call rt full (mStep X call rt full (mStep X call rt full (mStep X call rt full (mStep X call rt full (mStep X call rt full (mStep X call rt full (mStep X call rt full (mStep X call rt full (mStep X call rt full (mStep X call rt full (mStep X call rt full (mStep X call rt full (mStep X call rt full (mStep X call rt full (mStep X call rt full (mStep X call rt full (mStep X call rt full (mStep X call rt full (mStep X call rt full (mEv X call rt full)))))))))))))))))))))))))))))))) cur L st g := by
  rw [mEv_30]
  exact congrArg (fun k => (mStep X call rt full (mStep X call rt full (mStep X call rt full (mStep X call rt full (mStep X call rt full (mStep X call rt full (mStep X call rt full (mStep X call rt full (mStep X call rt full (mStep X call rt full (mStep X call rt full (mStep X call rt full (mStep X call rt full (mStep X call rt full (mStep X call rt full (mStep X call rt full (mStep X call rt full (mStep X call rt full (mStep X call rt full (mStep X call rt full (mStep X call rt full (mStep X call rt full (mStep X call rt full (mStep X call rt full (mStep X call rt full (mStep X call rt full (mStep X call rt full (mStep X call rt full (mStep X call rt full (mStep X call rt full k)))))))))))))))))))))))))))))) cur L st g) mEv_fun
theorem mEv_32 : mEv X call rt full cur L st g = (mStep X call rt full (mStep X call rt full (mStep X call rt full (mStep X call rt full (mStep X call rt full (mStep X call rt full (mStep X call rt full (mStep X call rt full (mStep X call rt full (mStep X call rt full (mStep X call rt full (mStep X call rt full (mStep X call rt full (mStep X call rt full (mStep X call rt full (mStep X call rt full (mStep X call rt full (mStep X call rt full (mStep X call rt full (mStep X call rt full (mStep X call rt full (mStep X call rt full (mStep X call rt full (mStep X call rt full (mStep X call rt full (mStep X call rt full (mStep X call rt full (mStep X call rt full (mStep X call rt full (mStep X call rt full (mStep X call rt full (mStep X call rt full (mEv X call rt full))))))))))))))))))))))))))))))))) cur L st g := by
  rw [mEv_31]
  exact congrArg (fun k => (mStep X call rt full (mStep X call rt full (mStep X call rt full (mStep X call rt full (mStep X call rt full (mStep X call rt full (mStep X call rt full (mStep X call rt full (mStep X call rt full (mStep X call rt full (mStep X call rt full (mStep X call rt full (mStep X call rt full (mStep X call rt full (mStep X call rt full (mStep X call rt full (mStep X call rt full (mStep X call rt full (mStep X call rt full (mStep X call rt full (mStep X call rt full (mStep X call rt full (mStep X call rt full (mStep X call rt full (mStep X call rt full (mStep X call rt full (mStep X call rt full (mStep X call rt full (mStep X call rt full (mStep X call rt full (mStep X call rt full k))))))))))))))))))))))))))))))) cur L st g) mEv_fun
theorem mEv_33 : mEv X call rt full cur L st g = (mStep X call rt full (mStep X call rt full (mStep X call rt full (mStep X call rt full (mStep X call rt full (mStep X call rt full (mStep X call rt full (mStep X call rt full (mStep X call rt full (mStep X call rt full (mStep X call rt full (mStep X call rt full (mStep X call rt full (mStep X call rt full (mStep X call rt full (mStep X call rt full (mStep X call rt full (mStep X call rt full (mStep X call rt full (mStep X call rt full (mStep X call rt full (mStep X call rt full (mStep X call rt full (mStep X call rt full (mStep X call rt full (mStep X call rt full (mStep X call rt full (mStep X call rt full (mStep X call rt full (mStep X call rt full (mStep X call rt full (mStep X call rt full (mStep X call rt full (mEv X call rt full)))))))))))))))))))))))))))))))))) cur L st g := by
  rw [mEv_32]
  exact congrArg (fun k => (mStep X call rt full (mStep X call rt full (mStep X call rt full (mStep X call rt full (mStep X call rt full (mStep X call rt full (mStep X call rt full (mStep X call rt full (mStep X call rt full (mStep X call rt full (mStep X call rt full (mStep X call rt full (mStep X call rt full (mStep X call rt full (mStep X call rt full (mStep X call rt full (mStep X call rt full (mStep X call rt full (mStep X call rt full (mStep X call rt full (mStep X call rt full (mStep X call rt full (mStep X call rt full (mStep X call rt full (mStep X call rt full (mStep X call rt full (mStep X call rt full (mStep X call rt full (mStep X call rt full (mStep X call rt full (mStep X call rt full (mStep X call rt full k)))))))))))))))))))))))))))))))) cur L st g) mEv_fun
theorem mEv_34 : mEv X call rt full cur L st g = (mStep X call rt full (mStep X call rt full (mStep X call rt full (mStep X call rt full (mStep X call rt full (mStep X call rt full (mStep X call rt full (mStep X call rt full (mStep X call rt full (mStep X call rt full (mStep X call rt full (mStep X call rt full (mStep X call rt full (mStep X call rt full (mStep X call rt full (mStep X call rt full (mStep X call rt full (mStep X call rt full (mStep X call rt full (mStep X call rt full (mStep X call rt full (mStep X call rt full (mStep X call rt full (mStep X call rt full (mStep X call rt full (mStep X call rt full (mStep X call rt full (mStep X call rt full (mStep X call rt full (mStep X call rt full (mStep X call rt full (mStep X call rt full (mStep X call rt full (mStep X call rt full (mEv X call rt full))))))))))))))))))))))))))))))))))) cur L st g := by
  rw [mEv_33]
  exact congrArg (fun k => (mStep X call rt full (mStep X call rt full (mStep X call rt full (mStep X call rt full (mStep X call rt full (mStep X call rt full (mStep X call rt full (mStep X call rt full (mStep X call rt full (mStep X call rt full (mStep X call rt full (mStep X call rt full (mStep X call rt full (mStep X call rt full (mStep X call rt full (mStep X call rt full (mStep X call rt full (mStep X call rt full (mStep X call rt full (mStep X call rt full (mStep X call rt full (mStep X call rt full (mStep X call rt full (mStep X call rt full (mStep X call rt full (mStep X call rt full (mStep X call rt full (mStep X call rt full (mStep X call rt full (mStep X call rt full (mStep X call rt full (mStep X call rt full (mStep X call rt full k))))))))))))))))))))))))))))))))) cur L st g) mEv_fun
theorem mEv_35 : mEv X call rt full cur L st g = (mStep X call rt full (mStep X call rt full (mStep X call rt full (mStep X call rt full (mStep X call rt full (mStep X call rt full (mStep X call rt full (mStep X call rt full (mStep X call rt full (mStep X call rt full (mStep X call rt full (mStep X call rt full (mStep X call rt full (mStep X call rt full (mStep X call rt full (mStep X call rt full (mStep X call rt full (mStep X call rt full (mStep X call rt full (mStep X call rt full (mStep X call rt full (mStep X call rt full (mStep X call rt full (mStep X call rt full (mStep X call rt full (mStep X call rt full (mStep X call rt full (mStep X call rt full (mStep X call rt full (mStep X call rt full (mStep X call rt full (mStep X call rt full (mStep X call rt full (mStep X call rt full (mStep X call rt full (mEv X call rt full)))))))))))))))))))))))))))))))))))) cur L st g := by
  rw [mEv_34]
  exact congrArg (fun k => (mStep X call rt full (mStep X call rt full (mStep X call rt full (mStep X call rt full (mStep X call rt full (mStep X call rt full (mStep X call rt full (mStep X call rt full (mStep X call rt full (mStep X call rt full (mStep X call rt full (mStep X call rt full (mStep X call rt full (mStep X call rt full (mStep X call rt full (mStep X call rt full (mStep X call rt full (mStep X call rt full (mStep X call rt full (mStep X call rt full (mStep X call rt full (mStep X call rt full (mStep X call rt full (mStep X call rt full (mStep X call rt full (mStep X call rt full (mStep X call rt full (mStep X call rt full (mStep X call rt full (mStep X call rt full (mStep X call rt full (mStep X call rt full (mStep X call rt full (mStep X call rt full k)))))))))))))))))))))))))))))))))) cur L st g) mEv_fun
theorem mEv_36 : mEv X call rt full cur L st g = (mStep X call rt full (mStep X call rt full (mStep X call rt full (mStep X call rt full (mStep X call rt full (mStep X call rt full (mStep X call rt full (mStep X call rt full (mStep X call rt full (mStep X call rt full (mStep X call rt full (mStep X call rt full (mStep X call rt full (mStep X call rt full (mStep X call rt full (mStep X call rt full (mStep X call rt full (mStep X call rt full (mStep X call rt full (mStep X call rt full (mStep X call rt full (mStep X call rt full (mStep X call rt full (mStep X call rt full (mStep X call rt full (mStep X call rt full (mStep X call rt full (mStep X call rt full (mStep X call rt full (mStep X call rt full (mStep X call rt full (mStep X call rt full (mStep X call rt full (mStep X call rt full (mStep X call rt full (mStep X call rt full (mEv X call rt full))))))))))))))))))))))))))))))))))))) cur L st g := by
  rw [mEv_35]
  exact congrArg (fun k => (mStep X call rt full (mStep X call rt full (mStep X call rt full (mStep X call rt full (mStep X call rt full (mStep X call rt full (mStep X call rt full (mStep X call rt full (mStep X call rt full (mStep X call rt full (mStep X call rt full (mStep X call rt full (mStep X call rt full (mStep X call rt full (mStep X call rt full (mStep X call rt full (mStep X call rt full (mStep X call rt full (mStep X call rt full (mStep X call rt full (mStep X call rt full (mStep X call rt full (mStep X call rt full (mStep X call rt full (mStep X call rt full (mStep X call rt full (mStep X call rt full (mStep X call rt full (mStep X call rt full (mStep X call rt full (mStep X call rt full (mStep X call rt full (mStep X call rt full (mStep X call rt full (mStep X call rt full k))))))))))))))))))))))))))))))))))) cur L st g) mEv_fun
theorem mEv_37 : mEv X call rt full cur L st g = (mStep X call rt full (mStep X call rt full (mStep X call rt full (mStep X call rt full (mStep X call rt full (mStep X call rt full (mStep X call rt full (mStep X call rt full (mStep X call rt full (mStep X call rt full (mStep X call rt full (mStep X call rt full (mStep X call rt full (mStep X call rt full (mStep X call rt full (mStep X call rt full (mStep X call rt full (mStep X call rt full (mStep X call rt full (mStep X call rt full (mStep X call rt full (mStep X call rt full (mStep X call rt full (mStep X call rt full (mStep X call rt full (mStep X call rt full (mStep X call rt full (mStep X call rt full (mStep X call rt full (mStep X call rt full (mStep X call rt full (mStep X call rt full (mStep X call rt full (mStep X call rt full (mStep X call rt full (mStep X call rt full (mStep X call rt full (mEv X call rt full)))))))))))))))))))))))))))))))))))))) cur L st g := by
  rw [mEv_36]
  exact congrArg (fun k => (mStep X call rt full (mStep X call rt full (mStep X call rt full (mStep X call rt full (mStep X call rt full (mStep X call rt full (mStep X call rt full (mStep X call rt full (mStep X call rt full (mStep X call rt full (mStep X call rt full (mStep X call rt full (mStep X call rt full (mStep X call rt full (mStep X call rt full (mStep X call rt full (mStep X call rt full (mStep X call rt full (mStep X call rt full (mStep X call rt full (mStep X call rt full (mStep X call rt full (mStep X call rt full (mStep X call rt full (mStep X call rt full (mStep X call rt full (mStep X call rt full (mStep X call rt full (mStep X call rt full (mStep X call rt full (mStep X call rt full (mStep X call rt full (mStep X call rt full (mStep X call rt full (mStep X call rt full (mStep X call rt full k)))))))))))))))))))))))))))))))))))) cur L st g) mEv_fun
theorem mEv_38 : mEv X call rt full cur L st g = (mStep X call rt full (mStep X call rt full (mStep X call rt full (mStep X call rt full (mStep X call rt full (mStep X call rt full (mStep X call rt full (mStep X call rt full (mStep X call rt full (mStep X call rt full (mStep X call rt full (mStep X call rt full (mStep X call rt full (mStep X call rt full (mStep X call rt full (mStep X call rt full (mStep X call rt full (mStep X call rt full (mStep X call rt full (mStep X call rt full (mStep X call rt full (mStep X call rt full (mStep X call rt full (mStep X call rt full (mStep X call rt full (mStep X call rt full (mStep X call rt full (mStep X call rt full (mStep X call rt full (mStep X call rt full (mStep X call rt full (mStep X call rt full (mStep X call rt full (mStep X call rt full (mStep X call rt full (mStep X call rt full (mStep X call rt full (mStep X call rt full (mEv X call rt full))))))))))))))))))))))))))))))))))))))) cur L st g := by
  rw [mEv_37]
  exact congrArg (fun k => (mStep X call rt full (mStep X call rt full (mStep X call rt full (mStep X call rt full (mStep X call rt full (mStep X call rt full (mStep X call rt full (mStep X call rt full (mStep X call rt full (mStep X call rt full (mStep X call rt full (mStep X call rt full (mStep X call rt full (mStep X call rt full (mStep X call rt full (mStep X call rt full (mStep X call rt full (mStep X call rt full (mStep X call rt full (mStep X call rt full (mStep X call rt full (mStep X call rt full (mStep X call rt full (mStep X call rt full (mStep X call rt full (mStep X call rt full (mStep X call rt full (mStep X call rt full (mStep X call rt full (mStep X call rt full (mStep X call rt full (mStep X call rt full (mStep X call rt full (mStep X call rt full (mStep X call rt full (mStep X call rt full (mStep X call rt full k))))))))))))))))))))))))))))))))))))) cur L st g) mEv_fun
theorem mEv_39 : mEv X call rt full cur L st g = (mStep X call rt full (mStep X call rt full (mStep X call rt full (mStep X call rt full (mStep X call rt full (mStep X call rt full (mStep X call rt full (mStep X call rt full (mStep X call rt full (mStep X call rt full (mStep X call rt full (mStep X call rt full (mStep X call rt full (mStep X call rt full (mStep X call rt full (mStep X call rt full (mStep X call rt full (mStep X call rt full (mStep X call rt full (mStep X call rt full (mStep X call rt full (mStep X call rt full (mStep X call rt full (mStep X call rt full (mStep X call rt full (mStep X call rt full (mStep X call rt full (mStep X call rt full (mStep X call rt full (mStep X call rt full (mStep X call rt full (mStep X call rt full (mStep X call rt full (mStep X call rt full (mStep X call rt full (mStep X call rt full (mStep X call rt full (mStep X call rt full (mStep X call rt full (mEv X call rt full)))))))))))))))))))))))))))))))))))))))) cur L st g := by
  rw [mEv_38]
  exact congrArg (fun k => (mStep X call rt full (mStep X call rt full (mStep X call rt full (mStep X call rt full (mStep X call rt full (mStep X call rt full (mStep X call rt full (mStep X call rt full (mStep X call rt full (mStep X call rt full (mStep X call rt full (mStep X call rt full (mStep X call rt full (mStep X call rt full (mStep X call rt full (mStep X call rt full (mStep X call rt full (mStep X call rt full (mStep X call rt full (mStep X call rt full (mStep X call rt full (mStep X call rt full (mStep X call rt full (mStep X call rt full (mStep X call rt full (mStep X call rt full (mStep X call rt full (mStep X call rt full (mStep X call rt full (mStep X call rt full (mStep X call rt full (mStep X call rt full (mStep X call rt full (mStep X call rt full (mStep X call rt full (mStep X call rt full (mStep X call rt full (mStep X call rt full k)))))))))))))))))))))))))))))))))))))) cur L st g) mEv_fun
theorem mEv_40 : mEv X call rt full cur L st g = (mStep X call rt full (mStep X call rt full (mStep X call rt full (mStep X call rt full (mStep X call rt full (mStep X call rt full (mStep X call rt full (mStep X call rt full (mStep X call rt full (mStep X call rt full (mStep X call rt full (mStep X call rt full (mStep X call rt full (mStep X call rt full (mStep X call rt full (mStep X call rt full (mStep X call rt full (mStep X call rt full (mStep X call rt full (mStep X call rt full (mStep X call rt full (mStep X call rt full (mStep X call rt full (mStep X call rt full (mStep X call rt full (mStep X call rt full (mStep X call rt full (mStep X call rt full (mStep X call rt full (mStep X call rt full (mStep X call rt full (mStep X call rt full (mStep X call rt full (mStep X call rt full (mStep X call rt full (mStep X call rt full (mStep X call rt full (mStep X call rt full (mStep X call rt full (mStep X call rt full (mEv X call rt full))))))))))))))))))))))))))))))))))))))))) cur L st g := by
  rw [mEv_39]
  exact congrArg (fun k => (mStep X call rt full (mStep X call rt full (mStep X call rt full (mStep X call rt full (mStep X call rt full (mStep X call rt full (mStep X call rt full (mStep X call rt full (mStep X call rt full (mStep X call rt full (mStep X call rt full (mStep X call rt full (mStep X call rt full (mStep X call rt full (mStep X call rt full (mStep X call rt full (mStep X call rt full (mStep X call rt full (mStep X call rt full (mStep X call rt full (mStep X call rt full (mStep X call rt full (mStep X call rt full (mStep X call rt full (mStep X call rt full (mStep X call rt full (mStep X call rt full (mStep X call rt full (mStep X call rt full (mStep X call rt full (mStep X call rt full (mStep X call rt full (mStep X call rt full (mStep X call rt full (mStep X call rt full (mStep X call rt full (mStep X call rt full (mStep X call rt full (mStep X call rt full k))))))))))))))))))))))))))))))))))))))) cur L st g) mEv_fun
end STEPS
