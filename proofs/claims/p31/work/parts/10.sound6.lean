/-! a whole method -/
section STEP6
variable {ad : Nat → Nat → Nat} {oq : Value} {dC : Nat → ClassId} {dI : Nat → Nat → Nat} {aI aB : ClassId} {X : mX}
variable {p : Program} {l : Launch} {e : Env} {R : Room} {s : State} {m : MethodId} {args : Array Value} {below : List Frame} {meth : Method} {c : Code} {cells slots : Nat} {Q : State → Prop}
variable {cc : ByteArray} {own : String} {LL : List Nat} {nL : Nat} {cp : List (Nat × Nat × Nat × Nat × Nat)} {dat : Nat → mDat} {A : Nat → Prop}
variable {k : mK} {nx full : List mT} {pc : Nat} {L : mL} {st : List mV} {g : mG} {res : Option mV × mG}
/-- the ends of a method: what holds there -/
def mRt (ad : Nat → Nat → Nat) (oq : Value) (dC : Nat → ClassId) (dI : Nat → Nat → Nat) (aI aB : ClassId) (p : Program) (l : Launch) (e : Env) (R : Room) (s : State) (m : MethodId) (args : Array Value) (below : List Frame) (meth : Method) (c : Code) (cells slots : Nat) (Q : State → Prop) (A : Nat → Prop) (cc : ByteArray) (rt : Nat) (res : Option mV × mG) : Prop :=
  ∀ (g : mG) (H : Heap) (locs : List Loc) (ls : Array Slot) (pc : Nat), mHp ad dC dI aI aB s A g H locs →
    (∀ v : Int32, decode cc pc = .ok (.ireturn, 1) → mRetI rt [.inl v] g = some res → W p l e R s m args below meth c H locs cells slots Q (F0 m pc ls [.int v])) ∧
    (∀ q : Nat × Nat, decode cc pc = .ok (.areturn, 1) → rt = 5 → mIn q → q.1 ≠ 99 → (some (.inr (.inr q)), g) = res → W p l e R s m args below meth c H locs cells slots Q (F0 m pc ls [mE ad oq (.inr (.inr q))])) ∧
    (decode cc pc = .ok (.return_, 1) → rt = 0 → (none, g) = res → W p l e R s m args below meth c H locs cells slots Q (F0 m pc ls []))
def mIsSw : Instr → Bool
  | .tableswitch _ _ _ _ => true
  | .lookupswitch _ _ => true
  | _ => false
theorem mKl_at {b d n : Nat} {L : mL} {v : mV} (h : (mKl b d L)[n]? = some (some v)) : L[n]? = some (some v) := by
  unfold mKl at h
  split at h
  · exact h
  · by_cases hn : n < (L.take d).length
    · rw [List.getElem?_append_left hn, List.getElem?_take] at h
      split at h
      · exact h
      · cases h
    · rw [List.getElem?_append_right (by omega)] at h
      have := (List.mem_replicate.mp (List.mem_of_getElem? h)).2
      cases this
theorem mKl_len {b d : Nat} {L : mL} : (mKl b d L).length = L.length := by
  unfold mKl
  split
  · rfl
  · rw [List.length_append, List.length_take, List.length_replicate]
    omega
theorem mKl_ol {b d : Nat} {L : mL} (h : mOl L) : mOl (mKl b d L) := fun n v hn => h n v (mKl_at hn)
theorem mKl_lh {b d : Nat} {L : mL} {ls : Array Slot} (h : mLH ad oq LL ls L) : mLH ad oq LL ls (mKl b d L) :=
  ⟨⟨by rw [mKl_len]; exact h.1.1, h.1.2.1, fun q hq => by
    obtain ⟨v, hv, e⟩ := mPr_of ad oq hq
    rw [e]
    exact mLH_at ad oq h (mKl_at hv)⟩, fun n x hn => h.2 n x (mKl_at hn)⟩
theorem mWk_kl {b d : Nat} (h : mWk ad oq dC dI aI aB p l e R s m args below meth c cells slots Q LL A pc (mKl b d L) st g) : mWk ad oq dC dI aI aB p l e R s m args below meth c cells slots Q LL A pc L st g :=
  fun H locs ls hH hL => h H locs ls hH (mKl_lh hL)
theorem mStep_sound {call : Nat → List mV → mG → mR} {rt ln : Nat} {ins : Instr} {a b d : Nat} {sw : List (Int32 × Nat)} (F : mFx ad oq dC dI aI aB X p s m args c cc own nL cp dat A) (hfl : mFl) (hCa : mCa ad oq dC dI aI aB X l R dat call) (hcs : cells + 0 ≤ R.cells ∧ slots + 0 ≤ R.slots)
    (hR1 : 1 ≤ R.frames) (hR2 : 8 + (nativeFrameWords "java/lang/System" "arraycopy" 5 + 11) ≤ R.locals) (hw : Cond.native arraycopyName ∈ mGd ∧ Cond.static arraycopyName ∈ mGd ∧ Cond.initialized "java/lang/System" ∈ mGd)
    (hrt : mRt ad oq dC dI aI aB p l e R s m args below meth c cells slots Q A cc rt res) (hdg : decode cc pc = .ok (ins, ln)) (hln : (mIsSw ins || Nat.beq ln (mLn ins)) = true) (hck : mCkI LL nL cp pc ins a b d sw = true)
    (hn : mIsSw ins = false → mNx ad oq dC dI aI aB p l e R s m args below meth c cells slots Q LL nL A k nx res (pc + mLn ins)) (hj : ∀ t, mNx ad oq dC dI aI aB p l e R s m args below meth c cells slots Q LL nL A k (mDrop full t) res t) (h : mIns X call rt full k ins a b d sw nx L st g = some res) (hOs : mOs st) (hOl : mOl L) (hLn : L.length = nL) : mWk ad oq dC dI aI aB p l e R s m args below meth c cells slots Q LL A pc L st g := by
  have hd : mIsSw ins = false → decode cc pc = .ok (ins, mLn ins) := fun z => by
    rw [z, Bool.false_or] at hln
    rw [hdg, Nat.eq_of_beq_eq_true hln]
  have hx := F.1
  have hb := F.2.1
  unfold mIns at h
  split at h
  next n => exact fun H locs ls hH hL => lv_iconst hx hb (hd rfl) rfl ((hn rfl) L _ g h (mOs_c trivial hOs) hOl hLn H locs ls hH hL)
  next n => exact fun H locs ls hH hL => lv_bipush hx hb (hd rfl) rfl ((hn rfl) L _ g h (mOs_c trivial hOs) hOl hLn H locs ls hH hL)
  next n => exact fun H locs ls hH hL => lv_sipush hx hb (hd rfl) rfl ((hn rfl) L _ g h (mOs_c trivial hOs) hOl hLn H locs ls hH hL)
  next i => exact mS_ldc2 F (hd rfl) hck (hn rfl) h hOs hOl hLn
  next i => exact mS_ldc F (hd rfl) hck (hn rfl) h hOs hOl hLn
  next n => exact mWk_kl (b := b) (d := d) (mS_ldI (len := 2) (hn rfl) h hOs (mKl_ol hOl) (mKl_len.trans hLn) (fun H locs ls rest v h1 kk => lv_iload hx hb (hd rfl)  h1 kk))
  next n => exact mWk_kl (b := b) (d := d) (mS_ldI (len := 1) (hn rfl) h hOs (mKl_ol hOl) (mKl_len.trans hLn) (fun H locs ls rest v h1 kk => lv_iload_n hx hb (hd rfl) rfl h1 kk))
  next n => exact mWk_kl (b := b) (d := d) (mS_ldR (len := 2) (hn rfl) h hOs (mKl_ol hOl) (mKl_len.trans hLn) (fun H locs ls rest v h1 kk => lv_aload hx hb (hd rfl)  h1 kk))
  next n => exact mWk_kl (b := b) (d := d) (mS_ldR (len := 1) (hn rfl) h hOs (mKl_ol hOl) (mKl_len.trans hLn) (fun H locs ls rest v h1 kk => lv_aload_n hx hb (hd rfl) rfl h1 kk))
  next n => exact mWk_kl (b := b) (d := d) (mS_ldL (len := 2) (hn rfl) h hOs (mKl_ol hOl) (mKl_len.trans hLn) (fun H locs ls rest v h1 kk => lv_lload hx hb (hd rfl)  h1 kk))
  next n => exact mWk_kl (b := b) (d := d) (mS_ldL (len := 1) (hn rfl) h hOs (mKl_ol hOl) (mKl_len.trans hLn) (fun H locs ls rest v h1 kk => lv_lload_n hx hb (hd rfl) rfl h1 kk))
  next n => exact mS_stI (len := 2) F (hn rfl) h hOs hOl hLn hck (fun H locs ls rest lv v x _ hv hx2 hl h1 kk => by
    obtain ⟨q, rfl⟩ := hx2
    subst hv
    exact lv_istore hx hb (hd rfl) hl h1 rfl kk)
  next n => exact mS_stI (len := 1) F (hn rfl) h hOs hOl hLn hck (fun H locs ls rest lv v x _ hv hx2 hl h1 kk => by
    obtain ⟨q, rfl⟩ := hx2
    subst hv
    exact lv_istore_n hx hb (hd rfl) rfl hl h1 rfl kk)
  next n => exact mS_stR (len := 2) F (hn rfl) h hOs hOl hLn hck (fun H locs ls rest lv v x hv hl h1 kk => by
    subst hv
    exact lv_astore hx hb (hd rfl) hl h1 rfl kk)
  next n => exact mS_stR (len := 1) F (hn rfl) h hOs hOl hLn hck (fun H locs ls rest lv v x hv hl h1 kk => by
    subst hv
    exact lv_astore_n hx hb (hd rfl) rfl hl h1 rfl kk)
  next n =>
    unfold mCkI at hck
    dsimp only at hck
    rw [Bool.and_eq_true, Bool.and_eq_true] at hck
    exact mS_stL (len := 2) F (hn rfl) h hOs hOl hLn hck.1.1 (List.contains_iff_mem.mp hck.1.2) (Nat.blt_eq.mp hck.2) (fun H locs ls rest lv x hl kk => lv_lstore hx hb (hd rfl) hl (Nat.blt_eq.mp hck.2) rfl kk)
  next n =>
    unfold mCkI at hck
    dsimp only at hck
    rw [Bool.and_eq_true, Bool.and_eq_true] at hck
    exact mS_stL (len := 1) F (hn rfl) h hOs hOl hLn hck.1.1 (List.contains_iff_mem.mp hck.1.2) (Nat.blt_eq.mp hck.2) (fun H locs ls rest lv x hl kk => lv_lstore_n hx hb (hd rfl) rfl hl (Nat.blt_eq.mp hck.2) rfl kk)
  next n q => exact mS_inc (len := 3) F (hn rfl) h hOs hOl hLn hck (fun H locs ls rest lv x a hl ha h1 kk => lv_iinc hx hb (hd rfl) hl ha rfl h1 rfl kk)
  next => exact mS_b2 (len := 1) (hn rfl) h hOs hOl hLn (fun H locs ls rest x y kk => lv_iadd hx hb (hd rfl) kk)
  next => exact mS_b2 (len := 1) (hn rfl) h hOs hOl hLn (fun H locs ls rest x y kk => lv_isub hx hb (hd rfl) kk)
  next => exact mS_b2 (len := 1) (hn rfl) h hOs hOl hLn (fun H locs ls rest x y kk => lv_imul hx hb (hd rfl) kk)
  next => exact mS_b2 (len := 1) (hn rfl) h hOs hOl hLn (fun H locs ls rest x y kk => lv_iand hx hb (hd rfl) kk)
  next => exact mS_b2 (len := 1) (hn rfl) h hOs hOl hLn (fun H locs ls rest x y kk => lv_ior hx hb (hd rfl) kk)
  next => exact mS_b2 (len := 1) (hn rfl) h hOs hOl hLn (fun H locs ls rest x y kk => lv_ixor hx hb (hd rfl) kk)
  next => exact mS_b2 (len := 1) (hn rfl) h hOs hOl hLn (fun H locs ls rest x y kk => lv_ishl hx hb (hd rfl) kk)
  next => exact mS_b2 (len := 1) (hn rfl) h hOs hOl hLn (fun H locs ls rest x y kk => lv_ishr hx hb (hd rfl) kk)
  next => exact mS_b2n (len := 1) (hn rfl) h hOs hOl hLn (fun H locs ls rest x y hy kk => lv_idiv hx hb (hd rfl) hy kk)
  next => exact mS_b2n (len := 1) (hn rfl) h hOs hOl hLn (fun H locs ls rest x y hy kk => lv_irem hx hb (hd rfl) hy kk)
  next => exact mS_j2 (len := 1) (hn rfl) h hOs hOl hLn (fun H locs ls rest x y kk => lv_ladd hx hb (hd rfl) kk)
  next => exact mS_j2 (len := 1) (hn rfl) h hOs hOl hLn (fun H locs ls rest x y kk => lv_lmul hx hb (hd rfl) kk)
  next => exact mS_j2n (len := 1) (hn rfl) h hOs hOl hLn (fun H locs ls rest x y hy kk => lv_ldiv hx hb (hd rfl) hy kk)
  next => exact mS_j2n (len := 1) (hn rfl) h hOs hOl hLn (fun H locs ls rest x y hy kk => lv_lrem hx hb (hd rfl) hy kk)
  next => exact mS_lcmp (len := 1) (hn rfl) h hOs hOl hLn (fun H locs ls rest x y kk => W.lcmp hx hb (hd rfl) kk)
  next => exact mS_i2l (len := 1) (hn rfl) h hOs hOl hLn (fun H locs ls rest x kk => lv_i2l hx hb (hd rfl) rfl kk)
  next => exact mS_l2i (len := 1) (hn rfl) h hOs hOl hLn (fun H locs ls rest x kk => lv_l2i hx hb (hd rfl) rfl kk)
  next => exact mS_i2b (len := 1) (hn rfl) h hOs hOl hLn (fun H locs ls rest x kk => lv_i2b hx hb (hd rfl) rfl kk)
  next => exact mS_i2c (len := 1) (hn rfl) h hOs hOl hLn (fun H locs ls rest x kk => lv_i2c hx hb (hd rfl) rfl kk)
  next => exact mS_dup F (hd rfl) (hn rfl) h hOs hOl hLn
  next => exact mS_dup2 F (hd rfl) (hn rfl) h hOs hOl hLn
  next => exact mS_pop F (hd rfl) (hn rfl) h hOs hOl hLn
  next cd off =>
    unfold mCkI at hck
    exact mS_if1 F (hd rfl) (of_decide_eq_true hck) (hn rfl) (hj a) h hOs hOl hLn
  next cd off =>
    unfold mCkI at hck
    exact mS_if2 F (hd rfl) (of_decide_eq_true hck) (hn rfl) (hj a) h hOs hOl hLn
  next off =>
    unfold mCkI at hck
    exact fun H locs ls hH hL => lv_goto hx hb (hd rfl) (of_decide_eq_true hck) (hj a L st g h hOs hOl hLn H locs ls hH hL)
  next => exact mS_tsw F hdg hck hj h hOs hOl hLn
  next => exact mS_lsw F hdg hck hj h hOs hOl hLn
  next i => exact mS_get F hfl (hd rfl) hck (hn rfl) h hOs hOl hLn
  next i =>
    unfold mCkI at hck
    dsimp only at hck
    have hck2 := (Bool.and_eq_true _ _).mp hck
    exact mS_put F hfl (hd rfl) hck2.1 hck2.2 (hn rfl) h hOs hOl hLn
  next i => exact mS_gets F (hd rfl) hck (hn rfl) h hOs hOl hLn
  next => exact mS_ald (bt := false) F (hd rfl) (hn rfl) h hOs hOl hLn
  next => exact mS_ald (bt := true) F (hd rfl) (hn rfl) h hOs hOl hLn
  next => exact mS_ast (bt := false) F (hd rfl) (hn rfl) h hOs hOl hLn
  next => exact mS_ast (bt := true) F (hd rfl) (hn rfl) h hOs hOl hLn
  next => exact mS_len F (hd rfl) (hn rfl) h hOs hOl hLn
  next i =>
    unfold mCkI at hck
    dsimp only at hck
    have hck2 := (Bool.and_eq_true _ _).mp hck
    exact mS_inv (vi := true) F hCa hcs (hd rfl) hck2.1 hck2.2.symm (hn rfl) h hOs hOl hLn
  next i =>
    unfold mCkI at hck
    dsimp only at hck
    cases h9 : Nat.beq a 999 with
    | true =>
      rw [h9] at h hck
      exact mS_copy F hR1 hR2 hw (hd rfl) hck (hn rfl) h hOs hOl hLn
    | false =>
      rw [h9] at h hck
      dsimp only at h hck
      cases h8 : Nat.beq a 998 with
      | true => rw [h8] at h; cases h
      | false =>
      rw [h8] at h hck
      have hck2 := (Bool.and_eq_true _ _).mp hck
      exact mS_inv (vi := false) F hCa hcs (hd rfl) hck2.1 (by rw [hck2.2]; rfl) (hn rfl) h hOs hOl hLn
  next =>
    intro H locs ls hH hL
    have h0 := h
    unfold mRetI at h
    split at h
    next v => exact (hrt g H locs ls pc hH).1 v (hd rfl) h0
    next => cases h
  next =>
    intro H locs ls hH hL
    cases h5 : Nat.beq rt 5 with
    | false => rw [h5] at h; cases h
    | true =>
      rw [h5] at h
      dsimp only at h
      unfold mRetR at h
      split at h
      next i j =>
        split at h
        next => cases h
        next hj0 => exact (hrt g H locs ls pc hH).2.1 (i, j) (hd rfl) (Nat.eq_of_beq_eq_true h5) (mOs_h hOs) (mIn_99 (mOs_h hOs) (mBeq_ne hj0)) (Option.some.inj h)
      next => cases h
  next =>
    intro H locs ls hH hL
    cases h5 : Nat.beq rt 0 with
    | false => rw [h5] at h; cases h
    | true =>
      rw [h5] at h
      dsimp only at h
      unfold mRetV at h
      split at h
      next => exact (hrt g H locs ls pc hH).2.2 (hd rfl) (Nat.eq_of_beq_eq_true h5) (Option.some.inj h)
      next => cases h
  next => cases h
end STEP6
