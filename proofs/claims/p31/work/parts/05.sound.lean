/-! One instruction -/
theorem mAns_some {k : mK} {nx : List mT} {L : mL} {st : List mV} {x : mR} {res : Option mV × mG} (h : mAns k nx L st x = some res) : ∃ r g, x = some (r, g) ∧ k nx L (r.toList ++ st) g = some res := by
  unfold mAns at h
  split at h
  · cases h
  · exact ⟨none, _, rfl, h⟩
  · exact ⟨some _, _, rfl, h⟩
section STEP
variable {ad : Nat → Nat → Nat} {oq : Value} {dC : Nat → ClassId} {dI : Nat → Nat → Nat} {aI aB : ClassId} {X : mX}
variable {p : Program} {l : Launch} {e : Env} {R : Room} {s : State} {m : MethodId} {args : Array Value} {below : List Frame} {meth : Method} {c : Code} {cells slots : Nat} {Q : State → Prop}
variable {cc : ByteArray} {own : String} {LL : List Nat} {nL : Nat} {cp : List (Nat × Nat × Nat × Nat × Nat)} {dat : Nat → mDat} {A : Nat → Prop}
/-- the frame: the machine, the code, what the tables say -/
def mFx (ad : Nat → Nat → Nat) (oq : Value) (dC : Nat → ClassId) (dI : Nat → Nat → Nat) (aI aB : ClassId) (X : mX) (p : Program) (s : State) (m : MethodId) (args : Array Value) (c : Code) (cc : ByteArray) (own : String) (nL : Nat) (cp : List (Nat × Nat × Nat × Nat × Nat)) (dat : Nat → mDat) (A : Nat → Prop) : Prop :=
  p.tables.exec = Jvm.exec ∧ c.code = cc ∧ c.maxLocals = nL ∧ s.vm.findClass own = some m.cls ∧ (∀ w ∈ mGd, w.before args s = true) ∧ va_K (dC, dI) mCLS [(aI, .int), (aB, .byte)] s ∧ mRo ad oq X A s ∧ (∀ q ∈ cp, mCpO dat own q) ∧ oq.category = 1
def mHp (ad : Nat → Nat → Nat) (dC : Nat → ClassId) (dI : Nat → Nat → Nat) (aI aB : ClassId) (s : State) (A : Nat → Prop) (g : mG) (H : Heap) (locs : List Loc) : Prop := va_P (dC, dI) mCLS (mWs ad aI aB g) H ∧ va_D A (mWs ad aI aB g) ∧ va_S A s.heap H locs
/-- from here on all goes well -/
def mWk (ad : Nat → Nat → Nat) (oq : Value) (dC : Nat → ClassId) (dI : Nat → Nat → Nat) (aI aB : ClassId) (p : Program) (l : Launch) (e : Env) (R : Room) (s : State) (m : MethodId) (args : Array Value) (below : List Frame) (meth : Method) (c : Code) (cells slots : Nat) (Q : State → Prop) (LL : List Nat) (A : Nat → Prop) (pc : Nat) (L : mL) (st : List mV) (g : mG) : Prop :=
  ∀ (H : Heap) (locs : List Loc) (ls : Array Slot), mHp ad dC dI aI aB s A g H locs → mLH ad oq LL ls L → W p l e R s m args below meth c H locs cells slots Q (F0 m pc ls (st.map (mE ad oq)))
/-- the answers of calls -/
def mCa (ad : Nat → Nat → Nat) (oq : Value) (dC : Nat → ClassId) (dI : Nat → Nat → Nat) (aI aB : ClassId) (X : mX) (l : Launch) (R : Room) (dat : Nat → mDat) (call : Nat → List mV → mG → mR) : Prop :=
  ∀ (a : Nat) (vs : List mV) (g : mG) (r : Option mV) (g' : mG), call a vs g = some (r, g') → mOs vs → ∃ rm : Room, rm.frames + 1 ≤ R.frames ∧ rm.locals + 36 ≤ R.locals ∧ rm.cells = 0 ∧ rm.slots = 0 ∧ mMO (dat a) ∧
    Met l (mdY (dat a)) (Cond.code (mdY (dat a)) (mdB (dat a)) (mdL (dat a)) (mdR (dat a)) :: mGd) rm
      (va_Pc (vs.map (mE ad oq)) (fun U => va_P (dC, dI) mCLS (mWs ad aI aB g) U.heap ∧ va_D (mAd ad) (mWs ad aI aB g) ∧ va_K (dC, dI) mCLS [(aI, .int), (aB, .byte)] U ∧ mRo ad oq X (mAd ad) U))
      (fun _ st oc t => oc = .returned (r.map (mE ad oq)) ∧ ((∀ v, r = some v → mOv v) ∧ va_P (dC, dI) mCLS (mWs ad aI aB g') t.heap) ∧ va_F (mAd ad) st t) 0 0 (mAd ad)
theorem mE_ref {i j : Nat} (h : i ≠ 99) : mE ad oq (.inr (.inr (i, j))) = .ref (ad i j) := by
  have : Nat.beq i 99 = false := by
    cases hb : Nat.beq i 99 with
    | false => rfl
    | true => exact absurd (Nat.eq_of_beq_eq_true hb) h
  unfold mE
  dsimp only
  rw [this]
theorem mE_refIn {q : Nat × Nat} (h : q ∈ mCL) : mE ad oq (.inr (.inr q)) = .ref (ad q.1 q.2) := by
  obtain ⟨i, j⟩ := q
  exact mE_ref (mCL_99 _ h).1
/-- a store into a cell -/
theorem mHp_set {g : mG} {q : Nat × Nat} {c' : mC} {n : Nat} {x : va_E} {H1 : Heap} {locs1 : List Loc} {s : State} (hn : mCL[n]? = some q) (hx : x = mEnt ad aI aB (mU g q.1 c') q) (hc : ∀ j', j' ≠ q.2 → c' j' = g q.1 j')
    (hP : va_P (dC, dI) mCLS ((mWs ad aI aB g).set n (ad q.1 q.2, x)) H1) (hD : va_D A (mWs ad aI aB g)) (hS : va_S A s.heap H1 locs1) : mHp ad dC dI aI aB s A (mU g q.1 c') H1 locs1 := by
  have e : (mWs ad aI aB g).set n (ad q.1 q.2, x) = mWs ad aI aB (mU g q.1 c') := mWs_set ad aI aB hn hx (fun r _ hr => mEnt_cong ad aI aB (mU_other (i := q.1) (j := q.2) hc (by simpa using hr)))
  rw [e] at hP
  exact ⟨hP, mD_of ad aI aB hD, hS⟩
theorem mEnt_obj {g : mG} {q : Nat × Nat} {ci : Nat} (h : mCls q.2 = some ci) : mEnt ad aI aB g q = .inr (ci, (List.range (mNF ci)).map (fun k => mFv ad g q.1 q.2 k)) := by
  unfold mEnt; rw [h]
theorem mArr_X {X Y : mX} {i j : Nat} (h : j ≤ 23) : mArr X i j = mArr Y i j := by
  unfold mArr
  split <;> first | rfl | omega
theorem mArr_cls {X : mX} {i j n : Nat} {b : Bool} (h : mArr X i j = some (n, b)) : mCls j = none := by
  unfold mArr at h
  split at h <;> first | rfl | cases h
theorem mEnt_arrI {g : mG} {q : Nat × Nat} {n : Nat} (hj : q.2 ≤ 23) (h : mArr X q.1 q.2 = some (n, false)) : mEnt ad aI aB g q = .inl (aI, n, .inl (g q.1 q.2)) := by
  unfold mEnt
  rw [mArr_cls h, mArr_X (Y := X) hj, h]
theorem mEnt_arrB {g : mG} {q : Nat × Nat} {n : Nat} (hj : q.2 ≤ 23) (h : mArr X q.1 q.2 = some (n, true)) : mEnt ad aI aB g q = .inl (aB, n, .inl (g q.1 q.2)) := by
  unfold mEnt
  rw [mArr_cls h, mArr_X (Y := X) hj, h]
theorem mCLS_nf : ∀ (ci : Nat) (r : vw_C), mCLS[ci]? = some r → mNF ci = r.2.2 := by
  intro ci r h
  rcases ci with _ | _ | _ | _ | _ | _ | _ | ci <;> first | (cases h; rfl) | (simp at h)
theorem mU_same (g : mG) (i : Nat) (c' : mC) : mU g i c' i = c' := by
  funext j; unfold mU; rw [if_pos rfl]
theorem mP_upd (f : mC) (j k : Nat) (v : Int32) : mP f j k v j = upd (f j) k v := by
  funext q
  unfold mP upd
  by_cases h : q = k
  · rw [if_pos ⟨rfl, h⟩, if_pos h]
  · rw [if_neg (fun z => h z.2), if_neg h]
theorem mFv_set {g : mG} {i j b ci : Nat} {v : Int32} (hr : mRef i j b = none) (hb : b < mNF ci) (hv : mBoF j b = true → v &&& 1 = v) : (((List.range (mNF ci)).map (fun k => mFv ad g i j k)).set b (.int v)) = (List.range (mNF ci)).map (fun k => mFv ad (mU g i (mP (g i) j b v)) i j k) := by
  apply List.ext_getElem?
  intro k
  rw [List.getElem?_set]
  by_cases hk : b = k
  · subst hk
    rw [if_pos rfl, if_pos (by simpa using hb), List.getElem?_map, List.getElem?_range hb]
    show _ = some (mFv ad _ i j b)
    unfold mFv
    have e : mU g i (mP (g i) j b v) i j b = v := by
      rw [mU_same]
      show mP (g i) j b v j b = v
      unfold mP
      rw [if_pos ⟨rfl, rfl⟩]
    rw [hr, e]
    dsimp only
    split
    next h => rw [hv h]
    next => rfl
  · rw [if_neg hk, List.getElem?_map, List.getElem?_map]
    cases hc : (List.range (mNF ci))[k]? with
    | none => rfl
    | some k' =>
      have e : k' = k := by
        have h1 := List.getElem?_eq_some_iff.mp hc
        obtain ⟨h2, h3⟩ := h1
        rw [List.getElem_range] at h3
        exact h3.symm
      subst e
      show some (mFv ad g i j k') = some (mFv ad _ i j k')
      have e : mU g i (mP (g i) j b v) i j k' = g i j k' := by
        rw [mU_same]
        show mP (g i) j b v j k' = g i j k'
        unfold mP
        rw [if_neg (fun z => hk z.2.symm)]
      unfold mFv
      rw [e]
theorem mNar_b {v : Int32} (h : v &&& 1 = v) : narrow .boolean (.int v) = .int v ∧ fits .boolean (.int v) = true := by
  have h1 : narrow .boolean (.int v) = .int v := by
    show Value.int (v &&& 1) = .int v
    rw [h]
  exact ⟨h1, by rw [← h1]; exact fits_narrow_boolean v⟩
theorem mOs_c {v : mV} {st : List mV} (h1 : mOv v) (h2 : mOs st) : mOs (v :: st) := fun w hw => (List.mem_cons.mp hw).elim (fun e => e ▸ h1) (h2 w)
theorem mOs_h {v : mV} {st : List mV} (h : mOs (v :: st)) : mOv v := h v List.mem_cons_self
theorem mOs_t {v : mV} {st : List mV} (h : mOs (v :: st)) : mOs st := fun w hw => h w (List.mem_cons_of_mem _ hw)
theorem mOl_set {L : mL} {n : Nat} {v : mV} (h : mOl L) (hv : mOv v) : mOl (L.set n (some v)) := by
  intro a w hw
  rw [List.getElem?_set] at hw
  split at hw
  · split at hw
    · cases hw; exact hv
    · cases hw
  · exact h a w hw
theorem mOl_setN {L : mL} {n : Nat} (h : mOl L) : mOl (L.set n none) := by
  intro a w hw
  rw [List.getElem?_set] at hw
  split at hw
  · split at hw
    · cases hw
    · cases hw
  · exact h a w hw
theorem mSt1_ok {n : Nat} (h : mSt1 LL nL n = true) : n < nL ∧ ∀ a ∈ LL, a + 1 ≠ n := by
  unfold mSt1 at h
  rw [Bool.and_eq_true] at h
  refine ⟨Nat.blt_eq.mp h.1, fun a ha e => ?_⟩
  have := List.all_eq_true.mp h.2 a ha
  rw [e] at this
  simp at this
variable {Ts : Instr} {len : Nat} {k : mK} {nx full : List mT} {pc : Nat} {L : mL} {st : List mV} {g : mG} {res : Option mV × mG}
/-- what comes next goes well -/
def mNx (ad : Nat → Nat → Nat) (oq : Value) (dC : Nat → ClassId) (dI : Nat → Nat → Nat) (aI aB : ClassId) (p : Program) (l : Launch) (e : Env) (R : Room) (s : State) (m : MethodId) (args : Array Value) (below : List Frame) (meth : Method) (c : Code) (cells slots : Nat) (Q : State → Prop) (LL : List Nat) (nL : Nat) (A : Nat → Prop) (k : mK) (cur : List mT) (res : Option mV × mG) (pc : Nat) : Prop :=
  ∀ (L : mL) (st : List mV) (g : mG), k cur L st g = some res → mOs st → mOl L → L.length = nL → mWk ad oq dC dI aI aB p l e R s m args below meth c cells slots Q LL A pc L st g
theorem mBeq_ne {i n : Nat} (h : Nat.beq i n = false) : i ≠ n := fun e => by rw [e, Nat.beq_refl] at h; cases h
theorem mIn_99 {i j : Nat} (h : mIn (i, j)) (hj : j ≠ 99) : i ≠ 99 := by
  intro e
  rcases h with q | q
  · exact (mCL_99 _ q).1 e
  · have : ∀ q ∈ mROL, q.1 = 99 → q.2 = 99 := by decide +kernel
    exact hj (this _ q e)
theorem mS_ldI {n : Nat} (hn : mNx ad oq dC dI aI aB p l e R s m args below meth c cells slots Q LL nL A k nx res (pc + len)) (h : mLdI n k nx L st g = some res) (hOs : mOs st) (hOl : mOl L) (hLn : L.length = nL)
    (row : ∀ (H : Heap) (locs : List Loc) (ls : Array Slot) (rest : List Value) (v : Int32), ls[n]? = some (.val (.int v)) → W p l e R s m args below meth c H locs cells slots Q (F0 m (pc + len) ls (.int v :: rest)) → W p l e R s m args below meth c H locs cells slots Q (F0 m pc ls rest)) : mWk ad oq dC dI aI aB p l e R s m args below meth c cells slots Q LL A pc L st g := by
  intro H locs ls hH hL
  unfold mLdI at h
  split at h
  next v hv => exact row H locs ls _ v (mLH_at ad oq hL hv) (hn L (.inl v :: st) g h (mOs_c trivial hOs) hOl hLn H locs ls hH hL)
  next => cases h
theorem mS_ldL {n : Nat} (hn : mNx ad oq dC dI aI aB p l e R s m args below meth c cells slots Q LL nL A k nx res (pc + len)) (h : mLdL n k nx L st g = some res) (hOs : mOs st) (hOl : mOl L) (hLn : L.length = nL)
    (row : ∀ (H : Heap) (locs : List Loc) (ls : Array Slot) (rest : List Value) (v : Int64), ls[n]? = some (.val (.long v)) → W p l e R s m args below meth c H locs cells slots Q (F0 m (pc + len) ls (.long v :: rest)) → W p l e R s m args below meth c H locs cells slots Q (F0 m pc ls rest)) : mWk ad oq dC dI aI aB p l e R s m args below meth c cells slots Q LL A pc L st g := by
  intro H locs ls hH hL
  unfold mLdL at h
  split at h
  next v hv => exact row H locs ls _ v (mLH_at ad oq hL hv) (hn L (.inr (.inl v) :: st) g h (mOs_c trivial hOs) hOl hLn H locs ls hH hL)
  next => cases h
theorem mS_ldR {n : Nat} (hn : mNx ad oq dC dI aI aB p l e R s m args below meth c cells slots Q LL nL A k nx res (pc + len)) (h : mLdR n k nx L st g = some res) (hOs : mOs st) (hOl : mOl L) (hLn : L.length = nL)
    (row : ∀ (H : Heap) (locs : List Loc) (ls : Array Slot) (rest : List Value) (v : Nat), ls[n]? = some (.val (.ref v)) → W p l e R s m args below meth c H locs cells slots Q (F0 m (pc + len) ls (.ref v :: rest)) → W p l e R s m args below meth c H locs cells slots Q (F0 m pc ls rest)) : mWk ad oq dC dI aI aB p l e R s m args below meth c cells slots Q LL A pc L st g := by
  intro H locs ls hH hL
  unfold mLdR at h
  split at h
  next i j hv =>
    split at h
    next => cases h
    next hj =>
      have hO := hOl _ _ hv
      have e99 := mIn_99 hO (mBeq_ne hj)
      have h1 := mLH_at ad oq hL hv
      have kk := hn L (.inr (.inr (i, j)) :: st) g h (mOs_c hO hOs) hOl hLn H locs ls hH hL
      rw [mE_ref e99] at h1
      rw [List.map_cons, mE_ref e99] at kk
      exact row H locs ls _ _ h1 kk
  next => cases h
theorem mS_b2 {f : Int32 → Int32 → Int32} (hn : mNx ad oq dC dI aI aB p l e R s m args below meth c cells slots Q LL nL A k nx res (pc + len)) (h : mB2 f k nx L st g = some res) (hOs : mOs st) (hOl : mOl L) (hLn : L.length = nL)
    (row : ∀ (H : Heap) (locs : List Loc) (ls : Array Slot) (rest : List Value) (x y : Int32), W p l e R s m args below meth c H locs cells slots Q (F0 m (pc + len) ls (.int (f x y) :: rest)) → W p l e R s m args below meth c H locs cells slots Q (F0 m pc ls (.int y :: .int x :: rest))) : mWk ad oq dC dI aI aB p l e R s m args below meth c cells slots Q LL A pc L st g := by
  intro H locs ls hH hL
  unfold mB2 at h
  split at h
  next y x r => exact row H locs ls (r.map (mE ad oq)) x y (hn L (.inl (f x y) :: r) g h (mOs_c trivial (mOs_t (mOs_t hOs))) hOl hLn H locs ls hH hL)
  next => cases h
theorem mS_b2n {f : Int32 → Int32 → Int32} (hn : mNx ad oq dC dI aI aB p l e R s m args below meth c cells slots Q LL nL A k nx res (pc + len)) (h : mB2n f k nx L st g = some res) (hOs : mOs st) (hOl : mOl L) (hLn : L.length = nL)
    (row : ∀ (H : Heap) (locs : List Loc) (ls : Array Slot) (rest : List Value) (x y : Int32), ¬ y = 0 → W p l e R s m args below meth c H locs cells slots Q (F0 m (pc + len) ls (.int (f x y) :: rest)) → W p l e R s m args below meth c H locs cells slots Q (F0 m pc ls (.int y :: .int x :: rest))) : mWk ad oq dC dI aI aB p l e R s m args below meth c cells slots Q LL A pc L st g := by
  intro H locs ls hH hL
  unfold mB2n at h
  split at h
  next y x r =>
    split at h
    next => cases h
    next hy => exact row H locs ls (r.map (mE ad oq)) x y hy (hn L (.inl (f x y) :: r) g h (mOs_c trivial (mOs_t (mOs_t hOs))) hOl hLn H locs ls hH hL)
  next => cases h
theorem mS_j2 {f : Int64 → Int64 → Int64} (hn : mNx ad oq dC dI aI aB p l e R s m args below meth c cells slots Q LL nL A k nx res (pc + len)) (h : mJ2 f k nx L st g = some res) (hOs : mOs st) (hOl : mOl L) (hLn : L.length = nL)
    (row : ∀ (H : Heap) (locs : List Loc) (ls : Array Slot) (rest : List Value) (x y : Int64), W p l e R s m args below meth c H locs cells slots Q (F0 m (pc + len) ls (.long (f x y) :: rest)) → W p l e R s m args below meth c H locs cells slots Q (F0 m pc ls (.long y :: .long x :: rest))) : mWk ad oq dC dI aI aB p l e R s m args below meth c cells slots Q LL A pc L st g := by
  intro H locs ls hH hL
  unfold mJ2 at h
  split at h
  next y x r => exact row H locs ls (r.map (mE ad oq)) x y (hn L (.inr (.inl (f x y)) :: r) g h (mOs_c trivial (mOs_t (mOs_t hOs))) hOl hLn H locs ls hH hL)
  next => cases h
theorem mS_j2n {f : Int64 → Int64 → Int64} (hn : mNx ad oq dC dI aI aB p l e R s m args below meth c cells slots Q LL nL A k nx res (pc + len)) (h : mJ2n f k nx L st g = some res) (hOs : mOs st) (hOl : mOl L) (hLn : L.length = nL)
    (row : ∀ (H : Heap) (locs : List Loc) (ls : Array Slot) (rest : List Value) (x y : Int64), ¬ y = 0 → W p l e R s m args below meth c H locs cells slots Q (F0 m (pc + len) ls (.long (f x y) :: rest)) → W p l e R s m args below meth c H locs cells slots Q (F0 m pc ls (.long y :: .long x :: rest))) : mWk ad oq dC dI aI aB p l e R s m args below meth c cells slots Q LL A pc L st g := by
  intro H locs ls hH hL
  unfold mJ2n at h
  split at h
  next y x r =>
    split at h
    next => cases h
    next hy => exact row H locs ls (r.map (mE ad oq)) x y hy (hn L (.inr (.inl (f x y)) :: r) g h (mOs_c trivial (mOs_t (mOs_t hOs))) hOl hLn H locs ls hH hL)
  next => cases h
theorem mS_lcmp  (hn : mNx ad oq dC dI aI aB p l e R s m args below meth c cells slots Q LL nL A k nx res (pc + len)) (h : mLcmp k nx L st g = some res) (hOs : mOs st) (hOl : mOl L) (hLn : L.length = nL)
    (row : ∀ (H : Heap) (locs : List Loc) (ls : Array Slot) (rest : List Value) (x y : Int64), W p l e R s m args below meth c H locs cells slots Q (F0 m (pc + len) ls (.int (lg_cmp x y) :: rest)) → W p l e R s m args below meth c H locs cells slots Q (F0 m pc ls (.long y :: .long x :: rest))) : mWk ad oq dC dI aI aB p l e R s m args below meth c cells slots Q LL A pc L st g := by
  intro H locs ls hH hL
  unfold mLcmp at h
  split at h
  next y x r => exact row H locs ls (r.map (mE ad oq)) x y (hn L (.inl (lg_cmp x y) :: r) g h (mOs_c trivial (mOs_t (mOs_t hOs))) hOl hLn H locs ls hH hL)
  next => cases h
theorem mS_i2l  (hn : mNx ad oq dC dI aI aB p l e R s m args below meth c cells slots Q LL nL A k nx res (pc + len)) (h : mI2l k nx L st g = some res) (hOs : mOs st) (hOl : mOl L) (hLn : L.length = nL)
    (row : ∀ (H : Heap) (locs : List Loc) (ls : Array Slot) (rest : List Value) (x : Int32), W p l e R s m args below meth c H locs cells slots Q (F0 m (pc + len) ls (.long x.toInt64 :: rest)) → W p l e R s m args below meth c H locs cells slots Q (F0 m pc ls (.int x :: rest))) : mWk ad oq dC dI aI aB p l e R s m args below meth c cells slots Q LL A pc L st g := by
  intro H locs ls hH hL
  unfold mI2l at h
  split at h
  next x r => exact row H locs ls (r.map (mE ad oq)) x (hn L (.inr (.inl x.toInt64) :: r) g h (mOs_c trivial (mOs_t hOs)) hOl hLn H locs ls hH hL)
  next => cases h
theorem mS_l2i  (hn : mNx ad oq dC dI aI aB p l e R s m args below meth c cells slots Q LL nL A k nx res (pc + len)) (h : mL2i k nx L st g = some res) (hOs : mOs st) (hOl : mOl L) (hLn : L.length = nL)
    (row : ∀ (H : Heap) (locs : List Loc) (ls : Array Slot) (rest : List Value) (x : Int64), W p l e R s m args below meth c H locs cells slots Q (F0 m (pc + len) ls (.int x.toInt32 :: rest)) → W p l e R s m args below meth c H locs cells slots Q (F0 m pc ls (.long x :: rest))) : mWk ad oq dC dI aI aB p l e R s m args below meth c cells slots Q LL A pc L st g := by
  intro H locs ls hH hL
  unfold mL2i at h
  split at h
  next x r => exact row H locs ls (r.map (mE ad oq)) x (hn L (.inl x.toInt32 :: r) g h (mOs_c trivial (mOs_t hOs)) hOl hLn H locs ls hH hL)
  next => cases h
theorem mS_i2b  (hn : mNx ad oq dC dI aI aB p l e R s m args below meth c cells slots Q LL nL A k nx res (pc + len)) (h : mI2b k nx L st g = some res) (hOs : mOs st) (hOl : mOl L) (hLn : L.length = nL)
    (row : ∀ (H : Heap) (locs : List Loc) (ls : Array Slot) (rest : List Value) (x : Int32), W p l e R s m args below meth c H locs cells slots Q (F0 m (pc + len) ls (.int x.toInt8.toInt32 :: rest)) → W p l e R s m args below meth c H locs cells slots Q (F0 m pc ls (.int x :: rest))) : mWk ad oq dC dI aI aB p l e R s m args below meth c cells slots Q LL A pc L st g := by
  intro H locs ls hH hL
  unfold mI2b at h
  split at h
  next x r => exact row H locs ls (r.map (mE ad oq)) x (hn L (.inl x.toInt8.toInt32 :: r) g h (mOs_c trivial (mOs_t hOs)) hOl hLn H locs ls hH hL)
  next => cases h
theorem mS_i2c  (hn : mNx ad oq dC dI aI aB p l e R s m args below meth c cells slots Q LL nL A k nx res (pc + len)) (h : mI2c k nx L st g = some res) (hOs : mOs st) (hOl : mOl L) (hLn : L.length = nL)
    (row : ∀ (H : Heap) (locs : List Loc) (ls : Array Slot) (rest : List Value) (x : Int32), W p l e R s m args below meth c H locs cells slots Q (F0 m (pc + len) ls (.int (x.toUInt32 % 65536).toInt32 :: rest)) → W p l e R s m args below meth c H locs cells slots Q (F0 m pc ls (.int x :: rest))) : mWk ad oq dC dI aI aB p l e R s m args below meth c cells slots Q LL A pc L st g := by
  intro H locs ls hH hL
  unfold mI2c at h
  split at h
  next x r => exact row H locs ls (r.map (mE ad oq)) x (hn L (.inl (x.toUInt32 % 65536).toInt32 :: r) g h (mOs_c trivial (mOs_t hOs)) hOl hLn H locs ls hH hL)
  next => cases h
theorem mS_stI {n : Nat} (F : mFx ad oq dC dI aI aB X p s m args c cc own nL cp dat A) (hn : mNx ad oq dC dI aI aB p l e R s m args below meth c cells slots Q LL nL A k nx res (pc + len)) (h : mStI n k nx L st g = some res) (hOs : mOs st) (hOl : mOl L) (hLn : L.length = nL) (hck : mSt1 LL nL n = true)
    (row : ∀ (H : Heap) (locs : List Loc) (ls : Array Slot) (rest : List Value) (lv : List (Nat × Value)) (v : Value) (x : mV), mNoL x = true → v = mE ad oq x → (∃ q, x = .inl q) → lv_has ls nL lv → n < nL → (∀ ls' : Array Slot, lv_has ls' nL ((n, v) :: lv.filter (fun q => !(q.1 == n) && !(q.1 + 1 == n && q.2.category == 2))) → W p l e R s m args below meth c H locs cells slots Q (F0 m (pc + len) ls' rest)) → W p l e R s m args below meth c H locs cells slots Q (F0 m pc ls (v :: rest))) : mWk ad oq dC dI aI aB p l e R s m args below meth c cells slots Q LL A pc L st g := by
  intro H locs ls hH hL
  obtain ⟨h1, h2⟩ := mSt1_ok hck
  unfold mStI at h
  split at h
  next v r =>
    refine row H locs ls (r.map (mE ad oq)) (mPr ad oq L) _ (.inl v) rfl rfl ⟨v, rfl⟩ (hLn ▸ hL.1) h1 (fun ls' h' => ?_)
    exact hn (L.set n (some (.inl v))) r g h (mOs_t hOs) (mOl_set hOl (mOs_h hOs)) (by rw [List.length_set]; exact hLn) H locs ls' hH (mLH_set ad oq F.2.2.2.2.2.2.2.2 hL rfl h2 (hLn ▸ h'))
  next => cases h
theorem mS_stR {n : Nat} (F : mFx ad oq dC dI aI aB X p s m args c cc own nL cp dat A) (hn : mNx ad oq dC dI aI aB p l e R s m args below meth c cells slots Q LL nL A k nx res (pc + len)) (h : mStR n k nx L st g = some res) (hOs : mOs st) (hOl : mOl L) (hLn : L.length = nL) (hck : mSt1 LL nL n = true)
    (row : ∀ (H : Heap) (locs : List Loc) (ls : Array Slot) (rest : List Value) (lv : List (Nat × Value)) (v : Value) (x : Nat), v = .ref x → lv_has ls nL lv → n < nL → (∀ ls' : Array Slot, lv_has ls' nL ((n, v) :: lv.filter (fun q => !(q.1 == n) && !(q.1 + 1 == n && q.2.category == 2))) → W p l e R s m args below meth c H locs cells slots Q (F0 m (pc + len) ls' rest)) → W p l e R s m args below meth c H locs cells slots Q (F0 m pc ls (v :: rest))) : mWk ad oq dC dI aI aB p l e R s m args below meth c cells slots Q LL A pc L st g := by
  intro H locs ls hH hL
  obtain ⟨h1, h2⟩ := mSt1_ok hck
  unfold mStR at h
  split at h
  next i j r =>
    split at h
    next => cases h
    next hj =>
      have hO := mOs_h hOs
      have e99 := mIn_99 hO (mBeq_ne hj)
      have e := mE_ref (ad := ad) (oq := oq) (j := j) e99
      rw [List.map_cons, e]
      refine row H locs ls (r.map (mE ad oq)) (mPr ad oq L) _ (ad i j) rfl (hLn ▸ hL.1) h1 (fun ls' h' => ?_)
      rw [← e] at h'
      exact hn (L.set n (some (.inr (.inr (i, j))))) r g h (mOs_t hOs) (mOl_set hOl hO) (by rw [List.length_set]; exact hLn) H locs ls' hH (mLH_set ad oq F.2.2.2.2.2.2.2.2 hL rfl h2 (hLn ▸ h'))
  next => cases h
theorem mS_stL {n : Nat} (F : mFx ad oq dC dI aI aB X p s m args c cc own nL cp dat A) (hn : mNx ad oq dC dI aI aB p l e R s m args below meth c cells slots Q LL nL A k nx res (pc + len)) (h : mStL n k nx L st g = some res) (hOs : mOs st) (hOl : mOl L) (hLn : L.length = nL) (hck : mSt1 LL nL n = true) (hm : n ∈ LL) (hb : n + 1 < nL)
    (row : ∀ (H : Heap) (locs : List Loc) (ls : Array Slot) (rest : List Value) (lv : List (Nat × Value)) (x : Int64), lv_has ls nL lv → (∀ ls' : Array Slot, lv_has ls' nL ((n, .long x) :: lv.filter (fun q => !(q.1 == n) && (!(q.1 == n + 1) && !(q.1 + 1 == n && q.2.category == 2)))) → W p l e R s m args below meth c H locs cells slots Q (F0 m (pc + len) ls' rest)) → W p l e R s m args below meth c H locs cells slots Q (F0 m pc ls (.long x :: rest))) : mWk ad oq dC dI aI aB p l e R s m args below meth c cells slots Q LL A pc L st g := by
  intro H locs ls hH hL
  obtain ⟨h1, h2⟩ := mSt1_ok hck
  unfold mStL at h
  split at h
  next v r =>
    refine row H locs ls (r.map (mE ad oq)) (mPr ad oq L) v (hLn ▸ hL.1) (fun ls' h' => ?_)
    exact hn ((L.set n (some (.inr (.inl v)))).set (n + 1) none) r g h (mOs_t hOs) (mOl_setN (mOl_set hOl (mOs_h hOs))) (by rw [List.length_set, List.length_set]; exact hLn) H locs ls' hH (mLH_set2 ad oq F.2.2.2.2.2.2.2.2 hL hm h2 (hLn ▸ h'))
  next => cases h
theorem mS_inc {n : Nat} {q : Int} (F : mFx ad oq dC dI aI aB X p s m args c cc own nL cp dat A) (hn : mNx ad oq dC dI aI aB p l e R s m args below meth c cells slots Q LL nL A k nx res (pc + len)) (h : mInc n q k nx L st g = some res) (hOs : mOs st) (hOl : mOl L) (hLn : L.length = nL) (hck : mSt1 LL nL n = true)
    (row : ∀ (H : Heap) (locs : List Loc) (ls : Array Slot) (rest : List Value) (lv : List (Nat × Value)) (x : Int32) (a : Nat), lv_has ls nL lv → lv[a]? = some (n, .int x) → n < nL → (∀ ls' : Array Slot, lv_has ls' nL ((n, .int (x + Int32.ofInt q)) :: lv.filter (fun q => !(q.1 == n) && !(q.1 + 1 == n && q.2.category == 2))) → W p l e R s m args below meth c H locs cells slots Q (F0 m (pc + len) ls' rest)) → W p l e R s m args below meth c H locs cells slots Q (F0 m pc ls rest)) : mWk ad oq dC dI aI aB p l e R s m args below meth c cells slots Q LL A pc L st g := by
  intro H locs ls hH hL
  obtain ⟨h1, h2⟩ := mSt1_ok hck
  unfold mInc at h
  split at h
  next x hx =>
    obtain ⟨a, ha⟩ := List.getElem?_of_mem (mPr_mem ad oq hx)
    refine row H locs ls (st.map (mE ad oq)) (mPr ad oq L) x a (hLn ▸ hL.1) ha h1 (fun ls' h' => ?_)
    exact hn (L.set n (some (.inl (x + Int32.ofInt q)))) st g h hOs (mOl_set hOl trivial) (by rw [List.length_set]; exact hLn) H locs ls' hH (mLH_set ad oq F.2.2.2.2.2.2.2.2 hL rfl h2 (hLn ▸ h'))
  next => cases h
end STEP
