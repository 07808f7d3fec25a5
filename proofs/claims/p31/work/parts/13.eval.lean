/-! The run without a count: one equation a step -/
section EVAL
variable {X : mX} {call : Nat → List mV → mG → mR} {rt : Nat} {full : List mT}
def mF (φ : mK → mR) : Prop := ∃ z : mR ⊕ (List mT × mL × List mV × mG), ∀ k : mK, φ k = (match z with
  | .inl r => r
  | .inr c => k c.1 c.2.1 c.2.2.1 c.2.2.2)
theorem mF_c (r : mR) : mF (fun _ => r) := ⟨.inl r, fun _ => rfl⟩
theorem mF_k (cur : List mT) (L : mL) (st : List mV) (g : mG) : mF (fun k => k cur L st g) := ⟨.inr (cur, L, st, g), fun _ => rfl⟩
theorem mF_i {c : Prop} {hd : Decidable c} {φ ψ : mK → mR} (h1 : mF φ) (h2 : mF ψ) : mF (fun k => @ite _ c hd (φ k) (ψ k)) := by
  by_cases h : c
  · obtain ⟨z, hz⟩ := h1
    exact ⟨z, fun k => (if_pos h).trans (hz k)⟩
  · obtain ⟨z, hz⟩ := h2
    exact ⟨z, fun k => (if_neg h).trans (hz k)⟩
variable (nx tg : List mT) (L : mL) (st : List mV) (g : mG) (n a b d : Nat)
theorem mF_ldI : mF (fun k => mLdI n k nx L st g) := by
  unfold mLdI
  generalize L[n]? = o
  rcases o with _ | _ | x | x | ⟨i, j⟩ <;> first | exact mF_c _ | exact mF_k _ _ _ _
theorem mF_ldL : mF (fun k => mLdL n k nx L st g) := by
  unfold mLdL
  generalize L[n]? = o
  rcases o with _ | _ | x | x | ⟨i, j⟩ <;> first | exact mF_c _ | exact mF_k _ _ _ _
theorem mF_ldR : mF (fun k => mLdR n k nx L st g) := by
  unfold mLdR
  generalize L[n]? = o
  rcases o with _ | _ | x | x | ⟨i, j⟩ <;> first | exact mF_c _ | skip
  dsimp only
  cases Nat.beq j 99 <;> first | exact mF_c _ | exact mF_k _ _ _ _
theorem mF_stI : mF (fun k => mStI n k nx L st g) := by
  unfold mStI
  rcases st with _ | ⟨x | x | ⟨i, j⟩, st⟩ <;> first | exact mF_c _ | exact mF_k _ _ _ _
theorem mF_stL : mF (fun k => mStL n k nx L st g) := by
  unfold mStL
  rcases st with _ | ⟨x | x | ⟨i, j⟩, st⟩ <;> first | exact mF_c _ | exact mF_k _ _ _ _
theorem mF_stR : mF (fun k => mStR n k nx L st g) := by
  unfold mStR
  rcases st with _ | ⟨x | x | ⟨i, j⟩, st⟩ <;> first | exact mF_c _ | skip
  dsimp only
  cases Nat.beq j 99 <;> first | exact mF_c _ | exact mF_k _ _ _ _
theorem mF_inc (q : Int) : mF (fun k => mInc n q k nx L st g) := by
  unfold mInc
  generalize L[n]? = o
  rcases o with _ | _ | x | x | ⟨i, j⟩ <;> first | exact mF_c _ | exact mF_k _ _ _ _
theorem mF_b2 (f : Int32 → Int32 → Int32) : mF (fun k => mB2 f k nx L st g) := by
  unfold mB2
  rcases st with _ | ⟨x | x | ⟨i, j⟩, _ | ⟨y | y | ⟨i2, j2⟩, st⟩⟩ <;> first | exact mF_c _ | exact mF_k _ _ _ _
theorem mF_b2n (f : Int32 → Int32 → Int32) : mF (fun k => mB2n f k nx L st g) := by
  unfold mB2n
  rcases st with _ | ⟨x | x | ⟨i, j⟩, _ | ⟨y | y | ⟨i2, j2⟩, st⟩⟩ <;> first | exact mF_c _ | exact mF_i (mF_c _) (mF_k _ _ _ _)
theorem mF_j2 (f : Int64 → Int64 → Int64) : mF (fun k => mJ2 f k nx L st g) := by
  unfold mJ2
  rcases st with _ | ⟨x | x | ⟨i, j⟩, _ | ⟨y | y | ⟨i2, j2⟩, st⟩⟩ <;> first | exact mF_c _ | exact mF_k _ _ _ _
theorem mF_j2n (f : Int64 → Int64 → Int64) : mF (fun k => mJ2n f k nx L st g) := by
  unfold mJ2n
  rcases st with _ | ⟨x | x | ⟨i, j⟩, _ | ⟨y | y | ⟨i2, j2⟩, st⟩⟩ <;> first | exact mF_c _ | exact mF_i (mF_c _) (mF_k _ _ _ _)
theorem mF_lcmp : mF (fun k => mLcmp k nx L st g) := by
  unfold mLcmp
  rcases st with _ | ⟨x | x | ⟨i, j⟩, _ | ⟨y | y | ⟨i2, j2⟩, st⟩⟩ <;> first | exact mF_c _ | exact mF_k _ _ _ _
theorem mF_i2l : mF (fun k => mI2l k nx L st g) := by
  unfold mI2l
  rcases st with _ | ⟨x | x | ⟨i, j⟩, st⟩ <;> first | exact mF_c _ | exact mF_k _ _ _ _
theorem mF_l2i : mF (fun k => mL2i k nx L st g) := by
  unfold mL2i
  rcases st with _ | ⟨x | x | ⟨i, j⟩, st⟩ <;> first | exact mF_c _ | exact mF_k _ _ _ _
theorem mF_i2b : mF (fun k => mI2b k nx L st g) := by
  unfold mI2b
  rcases st with _ | ⟨x | x | ⟨i, j⟩, st⟩ <;> first | exact mF_c _ | exact mF_k _ _ _ _
theorem mF_i2c : mF (fun k => mI2c k nx L st g) := by
  unfold mI2c
  rcases st with _ | ⟨x | x | ⟨i, j⟩, st⟩ <;> first | exact mF_c _ | exact mF_k _ _ _ _
theorem mF_dup : mF (fun k => mDup k nx L st g) := by
  unfold mDup
  rcases st with _ | ⟨x | x | ⟨i, j⟩, st⟩ <;> first | exact mF_c _ | exact mF_k _ _ _ _
theorem mF_dup2 : mF (fun k => mDup2 k nx L st g) := by
  unfold mDup2
  rcases st with _ | ⟨x | x | ⟨i, j⟩, _ | ⟨y | y | ⟨i2, j2⟩, st⟩⟩ <;> first | exact mF_c _ | exact mF_k _ _ _ _
theorem mF_pop : mF (fun k => mPop k nx L st g) := by
  unfold mPop
  rcases st with _ | ⟨x | x | ⟨i, j⟩, st⟩ <;> first | exact mF_c _ | exact mF_k _ _ _ _
theorem mF_if1 (cd : ClassFile.Cond) : mF (fun k => mIf1 cd tg k nx L st g) := by
  unfold mIf1
  rcases st with _ | ⟨x | x | ⟨i, j⟩, st⟩ <;> first | exact mF_c _ | skip
  cases cd <;> exact mF_i (mF_k _ _ _ _) (mF_k _ _ _ _)
theorem mF_if2 (cd : ClassFile.Cond) : mF (fun k => mIf2 cd tg k nx L st g) := by
  unfold mIf2
  rcases st with _ | ⟨x | x | ⟨i, j⟩, _ | ⟨y | y | ⟨i2, j2⟩, st⟩⟩ <;> first | exact mF_c _ | skip
  cases cd <;> exact mF_i (mF_k _ _ _ _) (mF_k _ _ _ _)
theorem mF_swG (dflt : Nat) (x : Int32) : ∀ sw : List (Int32 × Nat), mF (fun k => mSwG full dflt k L st g x sw)
  | [] => mF_k _ _ _ _
  | q :: sw => mF_i (mF_k _ _ _ _) (mF_swG dflt x sw)
theorem mF_sw (dflt : Nat) (sw : List (Int32 × Nat)) : mF (fun k => mSw full dflt sw k L st g) := by
  unfold mSw
  rcases st with _ | ⟨x | x | ⟨i, j⟩, st⟩ <;> first | exact mF_c _ | exact mF_swG _ _ _ _ _ _
theorem mF_get : mF (fun k => mGet a b k nx L st g) := by
  unfold mGet
  rcases st with _ | ⟨x | x | ⟨i, j⟩, st⟩ <;> first | exact mF_c _ | skip
  cases Nat.beq a 7
  · dsimp only
    cases mCls j with
    | none => exact mF_c _
    | some ci =>
      dsimp only
      cases Nat.beq ci a with
      | false => exact mF_c _
      | true =>
        dsimp only
        cases mRef i j b with
        | none =>
          dsimp only
          cases mBoF j b <;> exact mF_k _ _ _ _
        | some q => exact mF_k _ _ _ _
  · dsimp only
    cases Nat.beq j 24 with
    | false => exact mF_c _
    | true => cases b <;> exact mF_k _ _ _ _
theorem mF_put : mF (fun k => mPut a b k nx L st g) := by
  unfold mPut
  rcases st with _ | ⟨x | x | ⟨i, j⟩, _ | ⟨y | y | ⟨i2, j2⟩, st⟩⟩ <;> first | exact mF_c _ | skip
  dsimp only
  cases mCls j2 with
  | none => exact mF_c _
  | some ci =>
    dsimp only
    cases Nat.beq ci a with
    | false => exact mF_c _
    | true =>
      dsimp only
      cases mRef i2 j2 b with
      | some q => exact mF_c _
      | none =>
        dsimp only
        cases mBoF j2 b with
        | true => exact mF_i (mF_k _ _ _ _) (mF_c _)
        | false => exact mF_k _ _ _ _
theorem mF_gets : mF (fun k => mGetS a b k nx L st g) := by
  unfold mGetS
  rcases a with _ | _ | _ | a <;> first | exact mF_c _ | exact mF_k _ _ _ _
theorem mF_ald (bt : Bool) : mF (fun k => mAld X bt k nx L st g) := by
  unfold mAld
  rcases st with _ | ⟨x | x | ⟨i, j⟩, _ | ⟨y | y | ⟨i2, j2⟩, st⟩⟩ <;> first | exact mF_c _ | skip
  dsimp only
  rcases mArr X i2 j2 with _ | ⟨n, b⟩
  · exact mF_c _
  · exact mF_i (mF_i (mF_c _) (mF_k _ _ _ _)) (mF_c _)
theorem mF_ast (bt : Bool) : mF (fun k => mAst X bt k nx L st g) := by
  unfold mAst
  rcases st with _ | ⟨x | x | ⟨i, j⟩, _ | ⟨y | y | ⟨i2, j2⟩, _ | ⟨z | z | ⟨i3, j3⟩, st⟩⟩⟩ <;> first | exact mF_c _ | skip
  dsimp only
  rcases mArr X i3 j3 with _ | ⟨n, b⟩
  · exact mF_c _
  · refine mF_i (mF_i (mF_c _) ?_) (mF_c _)
    cases Nat.ble j3 23
    · exact mF_c _
    · exact mF_k _ _ _ _
theorem mF_len : mF (fun k => mLen X k nx L st g) := by
  unfold mLen
  rcases st with _ | ⟨x | x | ⟨i, j⟩, st⟩ <;> first | exact mF_c _ | skip
  dsimp only
  rcases mArr X i j with _ | ⟨n, b⟩
  · exact mF_c _
  · exact mF_k _ _ _ _
theorem mF_copy : mF (fun k => mCopy X k nx L st g) := by
  unfold mCopy
  rcases st with _ | ⟨x | x | ⟨i, j⟩, _ | ⟨y | y | ⟨i2, j2⟩, _ | ⟨z | z | ⟨i3, j3⟩, _ | ⟨w | w | ⟨i4, j4⟩, _ | ⟨u | u | ⟨i5, j5⟩, st⟩⟩⟩⟩⟩ <;> first | exact mF_c _ | skip
  dsimp only
  rcases mArr X i5 j5 with _ | ⟨n, b⟩
  · exact mF_c _
  · rcases mArr X i3 j3 with _ | ⟨n2, b2⟩
    · cases b <;> exact mF_c _
    · cases b <;> cases b2 <;> first | exact mF_c _ | exact mF_i (mF_k _ _ _ _) (mF_c _)
theorem mF_inv : mF (fun k => mInv call a b d k nx L st g) := by
  unfold mInv
  cases mArgOk d (st.take b).reverse && (Nat.ble (mWts (st.drop b)) 8 && Nat.ble b st.length) with
  | false => exact mF_c _
  | true =>
    dsimp only
    rcases call a (st.take b).reverse g with _ | ⟨_ | v, g'⟩
    · exact mF_c _
    · exact mF_k _ _ _ _
    · exact mF_k _ _ _ _
theorem mF_ins (ins : Instr) (sw : List (Int32 × Nat)) : mF (fun k => mIns X call rt full k ins a b d sw nx L st g) := by
  cases ins
  case iconst => exact mF_k _ _ _ _
  case bipush => exact mF_k _ _ _ _
  case sipush => exact mF_k _ _ _ _
  case ldc2_w => exact mF_k _ _ _ _
  case ldc => exact mF_k _ _ _ _
  case iload => exact mF_ldI _ _ _ _ _
  case iload_n => exact mF_ldI _ _ _ _ _
  case aload => exact mF_ldR _ _ _ _ _
  case aload_n => exact mF_ldR _ _ _ _ _
  case lload => exact mF_ldL _ _ _ _ _
  case lload_n => exact mF_ldL _ _ _ _ _
  case istore => exact mF_stI _ _ _ _ _
  case istore_n => exact mF_stI _ _ _ _ _
  case astore => exact mF_stR _ _ _ _ _
  case astore_n => exact mF_stR _ _ _ _ _
  case lstore => exact mF_stL _ _ _ _ _
  case lstore_n => exact mF_stL _ _ _ _ _
  case iinc => exact mF_inc _ _ _ _ _ _
  case iadd => exact mF_b2 _ _ _ _ _
  case isub => exact mF_b2 _ _ _ _ _
  case imul => exact mF_b2 _ _ _ _ _
  case iand => exact mF_b2 _ _ _ _ _
  case ior => exact mF_b2 _ _ _ _ _
  case ixor => exact mF_b2 _ _ _ _ _
  case ishl => exact mF_b2 _ _ _ _ _
  case ishr => exact mF_b2 _ _ _ _ _
  case idiv => exact mF_b2n _ _ _ _ _
  case irem => exact mF_b2n _ _ _ _ _
  case ladd => exact mF_j2 _ _ _ _ _
  case lmul => exact mF_j2 _ _ _ _ _
  case ldiv => exact mF_j2n _ _ _ _ _
  case lrem => exact mF_j2n _ _ _ _ _
  case lcmp => exact mF_lcmp _ _ _ _
  case i2l => exact mF_i2l _ _ _ _
  case l2i => exact mF_l2i _ _ _ _
  case i2b => exact mF_i2b _ _ _ _
  case i2c => exact mF_i2c _ _ _ _
  case dup => exact mF_dup _ _ _ _
  case dup2 => exact mF_dup2 _ _ _ _
  case pop => exact mF_pop _ _ _ _
  case ifCond => exact mF_if1 _ _ _ _ _ _
  case if_icmp => exact mF_if2 _ _ _ _ _ _
  case goto => exact mF_k _ _ _ _
  case tableswitch => exact mF_sw _ _ _ _ _
  case lookupswitch => exact mF_sw _ _ _ _ _
  case getfield => exact mF_get _ _ _ _ _ _
  case putfield => exact mF_put _ _ _ _ _ _
  case getstatic => exact mF_gets _ _ _ _ _ _
  case iaload => exact mF_ald _ _ _ _ _
  case baload => exact mF_ald _ _ _ _ _
  case iastore => exact mF_ast _ _ _ _ _
  case bastore => exact mF_ast _ _ _ _ _
  case arraylength => exact mF_len _ _ _ _
  case invokevirtual => exact mF_inv _ _ _ _ _ _ _
  case invokestatic =>
    show mF (fun k => match Nat.beq a 999 with
      | true => mCopy X k nx L st g
      | false => (match Nat.beq a 998 with
        | true => none
        | false => mInv call a b d k nx L st g))
    cases Nat.beq a 999
    · dsimp only
      cases Nat.beq a 998
      · exact mF_inv _ _ _ _ _ _ _
      · exact mF_c _
    · exact mF_copy _ _ _ _
  all_goals exact mF_c _
theorem mF_step (cur : List mT) : mF (fun k => mStep X call rt full k cur L st g) := by
  cases cur with
  | nil => exact mF_c _
  | cons x nx => exact mF_ins _ _ _ _ _ _ _ _ _
theorem mRun_mono : ∀ (n : Nat) (cur : List mT) (L : mL) (st : List mV) (g : mG) (r : Option mV × mG), mRun X call rt full n cur L st g = some r → mRun X call rt full (n + 1) cur L st g = some r
  | 0, _, _, _, _, _, h => by cases h
  | n + 1, cur, L, st, g, r, h => by
    obtain ⟨z, hz⟩ := mF_step (X := X) (call := call) (rt := rt) (full := full) L st g cur
    have h1 := hz (mRun X call rt full n)
    have h2 := hz (mRun X call rt full (n + 1))
    have h : mStep X call rt full (mRun X call rt full n) cur L st g = some r := h
    show mStep X call rt full (mRun X call rt full (n + 1)) cur L st g = some r
    dsimp only at h1 h2
    rw [h1] at h
    rw [h2]
    rcases z with z | z
    · exact h
    · exact mRun_mono n _ _ _ _ _ h
theorem mRun_le {n m : Nat} {cur : List mT} {r : Option mV × mG} (hnm : n ≤ m) (h : mRun X call rt full n cur L st g = some r) : mRun X call rt full m cur L st g = some r := by
  induction hnm with
  | refl => exact h
  | step _ ih => exact mRun_mono _ _ _ _ _ _ ih
theorem mEv_of {n : Nat} {cur : List mT} {r : Option mV × mG} (h : mRun X call rt full n cur L st g = some r) : mEv X call rt full cur L st g = some r := by
  have h0 : ∃ n r, mRun X call rt full n cur L st g = some r := ⟨n, r, h⟩
  cases he : mEv X call rt full cur L st g with
  | none =>
    exact absurd he ((Classical.choose_spec (mEv_ex X call rt full) cur L st g).2 h0)
  | some r2 =>
    obtain ⟨m, hm⟩ := mEv_run he
    have a1 := mRun_le L st g (Nat.le_max_left n m) h
    have a2 := mRun_le L st g (Nat.le_max_right n m) hm
    rw [a1] at a2
    exact a2.symm
/-- the equation -/
theorem mEv_eq (cur : List mT) : mEv X call rt full cur L st g = mStep X call rt full (mEv X call rt full) cur L st g := by
  obtain ⟨z, hz⟩ := mF_step (X := X) (call := call) (rt := rt) (full := full) L st g cur
  have h1 := hz (mEv X call rt full)
  dsimp only at h1
  rw [h1]
  have hs : ∀ n, mRun X call rt full (n + 1) cur L st g = (match (generalizing := false) z with
    | .inl r => r
    | .inr c => mRun X call rt full n c.1 c.2.1 c.2.2.1 c.2.2.2) := fun n => hz (mRun X call rt full n)
  rcases z with z | z
  · cases z with
    | some r => exact mEv_of (n := 1) L st g (hs 0)
    | none =>
      cases he : mEv X call rt full cur L st g with
      | none => rfl
      | some r =>
        obtain ⟨n, hn⟩ := mEv_run he
        have := mRun_mono n cur L st g r hn
        rw [hs n] at this
        cases this
  · cases he : mEv X call rt full cur L st g with
    | some r =>
      obtain ⟨n, hn⟩ := mEv_run he
      have := mRun_mono n cur L st g r hn
      rw [hs n] at this
      exact (mEv_of _ _ _ this).symm
    | none =>
      cases h2 : mEv X call rt full z.1 z.2.1 z.2.2.1 z.2.2.2 with
      | none => exact h2.symm
      | some r =>
        obtain ⟨n, hn⟩ := mEv_run h2
        have := mEv_of (n := n + 1) L st g ((hs n).trans hn)
        rw [he] at this
        cases this
/-- a method of truth values answers one -/
def mZ (res : Option mV × mG) : Prop := ∀ v g, res = (some (.inl v), g) → v &&& 1 = v
theorem mN_sw {dflt : Nat} {x : Int32} : ∀ sw : List (Int32 × Nat), mSwG full dflt (fun _ _ _ _ => none) L st g x sw = none
  | [] => rfl
  | q :: sw => by
    unfold mSwG
    split
    · rfl
    · exact mN_sw sw
theorem mN_ans {nx : List mT} (r : mR) : mAns (fun _ _ _ _ => none) nx L st r = none := by
  rcases r with _ | ⟨_ | v, g'⟩ <;> rfl
theorem mZ_ins {nx : List mT} {ins : Instr} {sw : List (Int32 × Nat)} {a b d : Nat} {res : Option mV × mG} (h : mIns X call 2 full (fun _ _ _ _ => none) ins a b d sw nx L st g = some res) : mZ res := by
  cases ins
  case ireturn =>
    rcases st with _ | ⟨x | x | ⟨i, j⟩, _ | ⟨y, st⟩⟩ <;> first | (cases h; done) | skip
    have h : (if x &&& 1 = x then some (some (mi x), g) else none) = some res := h
    by_cases hv : x &&& 1 = x
    · rw [if_pos hv] at h
      intro w g' e
      cases h
      cases e
      exact hv
    · rw [if_neg hv] at h; cases h
  case areturn => cases h
  case return_ => cases h
  all_goals
    exfalso
    first
      | (cases h; done)
      | (revert h
         simp only [mIns, mLdI, mLdL, mLdR, mStI, mStL, mStR, mInc, mB2, mB2n, mJ2, mJ2n, mLcmp, mI2l, mL2i, mI2b, mI2c, mDup, mDup2, mPop, mIf1, mIf2, mSw, mGet, mPut, mGetS, mAld, mAst, mLen, mCopy, mInv, mN_sw, mN_ans]
         (repeat' split) <;> (intro h; cases h))
end EVAL
