/-! runs and calls -/
section STEP7
variable {ad : Nat → Nat → Nat} {oq : Value} {dC : Nat → ClassId} {dI : Nat → Nat → Nat} {aI aB : ClassId} {X : mX}
variable {p : Program} {l : Launch} {e : Env} {R : Room} {s : State} {m : MethodId} {args : Array Value} {below : List Frame} {meth : Method} {c : Code} {cells slots : Nat} {Q : State → Prop}
variable {cc : ByteArray} {own : String} {LL : List Nat} {nL : Nat} {cp : List (Nat × Nat × Nat × Nat × Nat)} {dat : Nat → mDat} {A : Nat → Prop}
variable {k : mK} {nx full : List mT} {pc : Nat} {L : mL} {st : List mV} {g : mG} {res : Option mV × mG}
def mPc : List mT → Nat
  | [] => 0
  | x :: _ => x.1
def mSeq : List mT → Bool
  | [] => true
  | x :: nx => (match nx with
    | [] => true
    | y :: _ => mIsSw x.2.1.1 || Nat.beq y.1 (x.1 + x.2.1.2)) && mSeq nx
def mTok (LL : List Nat) (nL : Nat) (cp : List (Nat × Nat × Nat × Nat × Nat)) (cc : ByteArray) (full : List mT) : Prop :=
  mSeq full = true ∧ ∀ x ∈ full, decode cc x.1 = .ok (x.2.1.1, x.2.1.2) ∧ (mIsSw x.2.1.1 || Nat.beq x.2.1.2 (mLn x.2.1.1)) = true ∧ mCkI LL nL cp x.1 x.2.1.1 x.2.2.1.1 x.2.2.1.2.1 x.2.2.1.2.2 x.2.2.2 = true
theorem mSeq_suf : ∀ (pre cur : List mT), mSeq (pre ++ cur) = true → mSeq cur = true
  | [], _, h => h
  | x :: pre, cur, h => mSeq_suf pre cur (by
    rw [List.cons_append] at h
    unfold mSeq at h
    exact ((Bool.and_eq_true _ _).mp h).2)
theorem mDrop_spec : ∀ (full : List mT) (t : Nat), mDrop full t = [] ∨ ∃ pre x r, full = pre ++ x :: r ∧ mDrop full t = x :: r ∧ x.1 = t
  | [], _ => Or.inl rfl
  | x :: nx, t => by
    unfold mDrop
    cases hb : Nat.beq x.1 t with
    | true => exact Or.inr ⟨[], x, nx, rfl, rfl, Nat.eq_of_beq_eq_true hb⟩
    | false =>
      rcases mDrop_spec nx t with h | ⟨pre, y, r, h1, h2, h3⟩
      · exact Or.inl h
      · exact Or.inr ⟨x :: pre, y, r, by rw [h1]; rfl, h2, h3⟩
theorem mRun_nil {call : Nat → List mV → mG → mR} {rt n : Nat} : mRun X call rt full n [] L st g = none := by
  cases n <;> rfl
theorem mRun_sound {call : Nat → List mV → mG → mR} {rt : Nat} (F : mFx ad oq dC dI aI aB X p s m args c cc own nL cp dat A) (hfl : mFl) (hCa : mCa ad oq dC dI aI aB X l R dat call) (hcs : cells + 0 ≤ R.cells ∧ slots + 0 ≤ R.slots)
    (hR1 : 1 ≤ R.frames) (hR2 : 8 + (nativeFrameWords "java/lang/System" "arraycopy" 5 + 11) ≤ R.locals) (hw : Cond.native arraycopyName ∈ mGd ∧ Cond.static arraycopyName ∈ mGd ∧ Cond.initialized "java/lang/System" ∈ mGd)
    (hrt : mRt ad oq dC dI aI aB p l e R s m args below meth c cells slots Q A cc rt res) (htk : mTok LL nL cp cc full) :
    ∀ (n : Nat) (cur : List mT), (∃ pre, full = pre ++ cur) → mNx ad oq dC dI aI aB p l e R s m args below meth c cells slots Q LL nL A (mRun X call rt full n) cur res (mPc cur) := by
  intro n
  induction n with
  | zero => intro cur _ L st g h; cases h
  | succ n ih =>
    intro cur ⟨pre, hpre⟩ L st g h hOs hOl hLn
    cases cur with
    | nil => rw [mRun_nil] at h; cases h
    | cons x nx =>
      obtain ⟨t1, t2, t3⟩ := htk.2 x (by rw [hpre]; exact List.mem_append_right _ List.mem_cons_self)
      have hseq := mSeq_suf pre (x :: nx) (hpre ▸ htk.1)
      have hsuf : ∃ pre, full = pre ++ nx := ⟨pre ++ [x], by rw [hpre, List.append_assoc]; rfl⟩
      refine mStep_sound (full := full) F hfl hCa hcs hR1 hR2 hw hrt t1 t2 t3 (fun hsw => ?_) (fun t => ?_) h hOs hOl hLn
      · intro L' st' g' h' o1 o2 o3
        cases nx with
        | nil => rw [mRun_nil] at h'; cases h'
        | cons y r =>
          have e : y.1 = x.1 + mLn x.2.1.1 := by
            unfold mSeq at hseq
            have := ((Bool.and_eq_true _ _).mp hseq).1
            dsimp only at this
            rw [hsw, Bool.false_or] at this t2
            rw [Nat.eq_of_beq_eq_true this, Nat.eq_of_beq_eq_true t2]
          have := ih (y :: r) hsuf L' st' g' h' o1 o2 o3
          rw [show mPc (y :: r) = y.1 from rfl, e] at this
          exact this
      · intro L' st' g' h' o1 o2 o3
        rcases mDrop_spec full t with q | ⟨pre2, y, r, q1, q2, q3⟩
        · rw [q, mRun_nil] at h'; cases h'
        · have := ih (y :: r) ⟨pre2, q1⟩ L' st' g' (q2 ▸ h') o1 o2 o3
          rw [show mPc (y :: r) = y.1 from rfl, q3] at this
          exact this
end STEP7
section STEP8
theorem mEv_ex (X : mX) (call : Nat → List mV → mG → mR) (rt : Nat) (full : List mT) : ∃ ev : mK, ∀ cur L st g, (∀ r, ev cur L st g = some r → ∃ n, mRun X call rt full n cur L st g = some r) ∧ ((∃ n r, mRun X call rt full n cur L st g = some r) → ev cur L st g ≠ none) := by
  classical
  refine ⟨fun cur L st g => if h : ∃ n r, mRun X call rt full n cur L st g = some r then some (Classical.choose (Classical.choose_spec h)) else none, fun cur L st g => ⟨fun r h => ?_, fun h => ?_⟩⟩
  · dsimp only at h
    split at h
    next h0 =>
      cases h
      exact ⟨_, Classical.choose_spec (Classical.choose_spec h0)⟩
    next => cases h
  · dsimp only
    rw [dif_pos h]
    exact fun e => by cases e
/-- the run, without a count -/
noncomputable def mEv (X : mX) (call : Nat → List mV → mG → mR) (rt : Nat) (full : List mT) : mK := Classical.choose (mEv_ex X call rt full)
theorem mEv_run {X : mX} {call : Nat → List mV → mG → mR} {rt : Nat} {full cur : List mT} {L : mL} {st : List mV} {g : mG} {r : Option mV × mG} (h : mEv X call rt full cur L st g = some r) : ∃ n, mRun X call rt full n cur L st g = some r :=
  (Classical.choose_spec (mEv_ex X call rt full) cur L st g).1 r h
def mL0 (nL : Nat) (vs : List mV) : mL := vs.map some ++ List.replicate (nL - vs.length) none
noncomputable def mCall (dat : Nat → mDat) (X : mX) : Nat → Nat → List mV → mG → mR
  | 0 => fun _ _ _ => none
  | d + 1 => fun a vs g => match Nat.ble vs.length (mdL (dat a)) && vs.all mNoL with
    | true => mEv X (mCall dat X d) (mdK (dat a)) (mdT (dat a)) (mdT (dat a)) (mL0 (mdL (dat a)) vs) [] g
    | false => none
theorem mL0_at {nL n : Nat} {vs : List mV} {v : mV} (h : (mL0 nL vs)[n]? = some (some v)) : vs[n]? = some v := by
  unfold mL0 at h
  by_cases hn : n < vs.length
  · rw [List.getElem?_append_left (by simpa using hn), List.getElem?_map] at h
    cases hv : vs[n]? with
    | none => rw [hv] at h; cases h
    | some w => rw [hv] at h; cases h; rfl
  · rw [List.getElem?_append_right (by simpa using hn)] at h
    have := List.mem_of_getElem? h
    have := (List.mem_replicate.mp this).2
    cases this
theorem mArgs_in : ∀ (vs : List Value) (i n : Nat) (v : Value), (∀ w ∈ vs, w.category = 1) → vs[n]? = some v → (i + n, v) ∈ lv_args i vs
  | [], _, _, _, _, h => by cases h
  | w :: vs, i, n, v, hc, h => by
    have h1 := hc w List.mem_cons_self
    unfold lv_args
    rw [if_neg (by rw [h1]; decide)]
    cases n with
    | zero => cases h; exact List.mem_cons_self
    | succ n =>
      refine List.mem_cons_of_mem _ ?_
      have := mArgs_in vs (i + 1) n v (fun z hz => hc z (List.mem_cons_of_mem _ hz)) h
      rw [show i + (n + 1) = i + 1 + n by omega]
      exact this
theorem mSl_len : ∀ (vs : List Value), (∀ w ∈ vs, w.category = 1) → (lg_sl vs).length = vs.length
  | [], _ => rfl
  | w :: vs, hc => by
    have h1 := hc w List.mem_cons_self
    have ih := mSl_len vs (fun z hz => hc z (List.mem_cons_of_mem _ hz))
    unfold lg_sl at ih ⊢
    rw [List.flatMap_cons, List.length_append, ih, h1]
    simp
    omega
end STEP8
