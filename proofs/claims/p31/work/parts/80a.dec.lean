/-! Decoding by a table -/
abbrev dSh := Instr ⊕ (Nat → Instr) ⊕ (Int → Instr) ⊕ (Nat → Instr) ⊕ (Int → Instr) ⊕ Unit
abbrev dSp (i : Instr) : dSh := .inl i
abbrev dSu (f : Nat → Instr) : dSh := .inr (.inl f)
abbrev dSs (f : Int → Instr) : dSh := .inr (.inr (.inl f))
abbrev dSv (f : Nat → Instr) : dSh := .inr (.inr (.inr (.inl f)))
abbrev dSt (f : Int → Instr) : dSh := .inr (.inr (.inr (.inr (.inl f))))
abbrev dSi : dSh := .inr (.inr (.inr (.inr (.inr ()))))
def dDec : dSh → Decoder Instr
  | .inl i => pure i
  | .inr (.inl f) => do pure (f (← Reader.u1))
  | .inr (.inr (.inl f)) => do pure (f (← Reader.s1))
  | .inr (.inr (.inr (.inl f))) => do pure (f (← Reader.u2))
  | .inr (.inr (.inr (.inr (.inl f)))) => do pure (f (← Reader.s2))
  | .inr (.inr (.inr (.inr (.inr _)))) => do pure (.iinc (← Reader.u1) (← Reader.s1))
def dK (pc : Nat) : { K : Nat → Decoder Instr // Decoder.instr pc = bind Reader.u1 K } := ⟨_, rfl⟩
/-- opcode, shape and operands of an instruction -/
def dEnc : Instr → Option (Nat × dSh × Nat × Int)
  | .iconst (-1) => some (2, dSp (.iconst (-1)), 0, 0)
  | .iconst 0 => some (3, dSp (.iconst (0)), 0, 0)
  | .iconst 1 => some (4, dSp (.iconst (1)), 0, 0)
  | .iconst 2 => some (5, dSp (.iconst (2)), 0, 0)
  | .iconst 3 => some (6, dSp (.iconst (3)), 0, 0)
  | .iconst 4 => some (7, dSp (.iconst (4)), 0, 0)
  | .iconst 5 => some (8, dSp (.iconst (5)), 0, 0)
  | .bipush v => some (16, dSs .bipush, 0, v)
  | .sipush v => some (17, dSt .sipush, 0, v)
  | .ldc n => some (18, dSu .ldc, n, 0)
  | .ldc2_w n => some (20, dSv .ldc2_w, n, 0)
  | .iload n => some (21, dSu .iload, n, 0)
  | .istore n => some (54, dSu .istore, n, 0)
  | .iinc n v => some (132, dSi, n, v)
  | .iload_n 0 => some (26, dSp (.iload_n 0), 0, 0)
  | .lload_n 0 => some (30, dSp (.lload_n 0), 0, 0)
  | .aload_n 0 => some (42, dSp (.aload_n 0), 0, 0)
  | .istore_n 0 => some (59, dSp (.istore_n 0), 0, 0)
  | .lstore_n 0 => some (63, dSp (.lstore_n 0), 0, 0)
  | .astore_n 0 => some (75, dSp (.astore_n 0), 0, 0)
  | .iload_n 1 => some (27, dSp (.iload_n 1), 0, 0)
  | .lload_n 1 => some (31, dSp (.lload_n 1), 0, 0)
  | .aload_n 1 => some (43, dSp (.aload_n 1), 0, 0)
  | .istore_n 1 => some (60, dSp (.istore_n 1), 0, 0)
  | .lstore_n 1 => some (64, dSp (.lstore_n 1), 0, 0)
  | .astore_n 1 => some (76, dSp (.astore_n 1), 0, 0)
  | .iload_n 2 => some (28, dSp (.iload_n 2), 0, 0)
  | .lload_n 2 => some (32, dSp (.lload_n 2), 0, 0)
  | .aload_n 2 => some (44, dSp (.aload_n 2), 0, 0)
  | .istore_n 2 => some (61, dSp (.istore_n 2), 0, 0)
  | .lstore_n 2 => some (65, dSp (.lstore_n 2), 0, 0)
  | .astore_n 2 => some (77, dSp (.astore_n 2), 0, 0)
  | .iload_n 3 => some (29, dSp (.iload_n 3), 0, 0)
  | .lload_n 3 => some (33, dSp (.lload_n 3), 0, 0)
  | .aload_n 3 => some (45, dSp (.aload_n 3), 0, 0)
  | .istore_n 3 => some (62, dSp (.istore_n 3), 0, 0)
  | .lstore_n 3 => some (66, dSp (.lstore_n 3), 0, 0)
  | .astore_n 3 => some (78, dSp (.astore_n 3), 0, 0)
  | .iaload => some (46, dSp .iaload, 0, 0)
  | .baload => some (51, dSp .baload, 0, 0)
  | .iastore => some (79, dSp .iastore, 0, 0)
  | .bastore => some (84, dSp .bastore, 0, 0)
  | .pop => some (87, dSp .pop, 0, 0)
  | .dup => some (89, dSp .dup, 0, 0)
  | .dup2 => some (92, dSp .dup2, 0, 0)
  | .iadd => some (96, dSp .iadd, 0, 0)
  | .ladd => some (97, dSp .ladd, 0, 0)
  | .isub => some (100, dSp .isub, 0, 0)
  | .imul => some (104, dSp .imul, 0, 0)
  | .lmul => some (105, dSp .lmul, 0, 0)
  | .idiv => some (108, dSp .idiv, 0, 0)
  | .ldiv => some (109, dSp .ldiv, 0, 0)
  | .irem => some (112, dSp .irem, 0, 0)
  | .lrem => some (113, dSp .lrem, 0, 0)
  | .ishl => some (120, dSp .ishl, 0, 0)
  | .ishr => some (122, dSp .ishr, 0, 0)
  | .iand => some (126, dSp .iand, 0, 0)
  | .ior => some (128, dSp .ior, 0, 0)
  | .ixor => some (130, dSp .ixor, 0, 0)
  | .i2l => some (133, dSp .i2l, 0, 0)
  | .l2i => some (136, dSp .l2i, 0, 0)
  | .i2b => some (145, dSp .i2b, 0, 0)
  | .i2c => some (146, dSp .i2c, 0, 0)
  | .lcmp => some (148, dSp .lcmp, 0, 0)
  | .ireturn => some (172, dSp .ireturn, 0, 0)
  | .areturn => some (176, dSp .areturn, 0, 0)
  | .return_ => some (177, dSp .return_, 0, 0)
  | .arraylength => some (190, dSp .arraylength, 0, 0)
  | .athrow => some (191, dSp .athrow, 0, 0)
  | .ifCond .eq v => some (153, dSt (.ifCond .eq), 0, v)
  | .if_icmp .eq v => some (159, dSt (.if_icmp .eq), 0, v)
  | .ifCond .ne v => some (154, dSt (.ifCond .ne), 0, v)
  | .if_icmp .ne v => some (160, dSt (.if_icmp .ne), 0, v)
  | .ifCond .lt v => some (155, dSt (.ifCond .lt), 0, v)
  | .if_icmp .lt v => some (161, dSt (.if_icmp .lt), 0, v)
  | .ifCond .ge v => some (156, dSt (.ifCond .ge), 0, v)
  | .if_icmp .ge v => some (162, dSt (.if_icmp .ge), 0, v)
  | .ifCond .gt v => some (157, dSt (.ifCond .gt), 0, v)
  | .if_icmp .gt v => some (163, dSt (.if_icmp .gt), 0, v)
  | .ifCond .le v => some (158, dSt (.ifCond .le), 0, v)
  | .if_icmp .le v => some (164, dSt (.if_icmp .le), 0, v)
  | .goto v => some (167, dSt .goto, 0, v)
  | .getstatic n => some (178, dSv .getstatic, n, 0)
  | .getfield n => some (180, dSv .getfield, n, 0)
  | .putfield n => some (181, dSv .putfield, n, 0)
  | .invokevirtual n => some (182, dSv .invokevirtual, n, 0)
  | .invokestatic n => some (184, dSv .invokestatic, n, 0)
  | _ => none
def dVal (n : Nat) (i : Int) : dSh → Instr
  | .inl j => j
  | .inr (.inl f) => f n
  | .inr (.inr (.inl f)) => f i
  | .inr (.inr (.inr (.inl f))) => f n
  | .inr (.inr (.inr (.inr (.inl f)))) => f i
  | .inr (.inr (.inr (.inr (.inr _)))) => .iinc n i
theorem dEnc_ok {pc : Nat} {ins : Instr} {k : Nat} {sh : dSh} {n : Nat} {i : Int} (h : dEnc ins = some (k, sh, n, i)) : (dK pc).1 k = dDec sh ∧ dVal n i sh = ins := by
  unfold dEnc at h
  split at h
  all_goals first
    | (cases h; exact ⟨rfl, rfl⟩)
    | cases h
theorem u1_at {cc : ByteArray} {p : Nat} {b : UInt8} (h : cc[p]? = some b) : (Reader.u1 : Decoder Nat) cc p = .ok (b.toNat, p + 1) := by
  by_cases hp : p < cc.size
  · rw [getElem?_pos cc p hp] at h
    have e : (Reader.u1 : Decoder Nat) cc p = (if h : p < cc.size then (do set (p + 1); pure cc[p].toNat : Decoder Nat) else throw (HasTruncated.truncated p)) cc p := rfl
    rw [e, dif_pos hp, ← Option.some.inj h]
    rfl
  · rw [getElem?_neg cc p hp] at h
    cases h
theorem bind_at {α β : Type} {m : Decoder α} {f : α → Decoder β} {cc : ByteArray} {p q : Nat} {a : α} (h : m cc p = .ok (a, q)) : (bind m f) cc p = f a cc q := by
  have e : (bind m f) cc p = Except.bind (m cc p) (fun x => f x.1 cc x.2) := rfl
  rw [e, h]
  rfl
theorem decode_at {cc : ByteArray} {pc q : Nat} {i : Instr} (h : Decoder.instr pc cc pc = .ok (i, q)) : decode cc pc = .ok (i, q - pc) := by
  have e : decode cc pc = Except.bind (Decoder.instr pc cc pc) (fun x => .ok (x.1, x.2 - pc)) := rfl
  rw [e, h]
  rfl
theorem u2_at {cc : ByteArray} {p : Nat} {a b : UInt8} (h : cc[p]? = some a) (h2 : cc[p + 1]? = some b) : (Reader.u2 : Decoder Nat) cc p = .ok (a.toNat * 256 + b.toNat, p + 2) :=
  (bind_at (u1_at h)).trans (bind_at (u1_at h2))
theorem s1_at {cc : ByteArray} {p : Nat} {a : UInt8} (h : cc[p]? = some a) : (Reader.s1 : Decoder Int) cc p = .ok (Reader.signed 8 a.toNat, p + 1) :=
  bind_at (f := fun x => pure (Reader.signed 8 x)) (u1_at h)
theorem s2_at {cc : ByteArray} {p : Nat} {a b : UInt8} (h : cc[p]? = some a) (h2 : cc[p + 1]? = some b) : (Reader.s2 : Decoder Int) cc p = .ok (Reader.signed 16 (a.toNat * 256 + b.toNat), p + 2) :=
  bind_at (f := fun x => pure (Reader.signed 16 x)) (u2_at h h2)
/-- an instruction of a known shape -/
theorem dec_sh {cc : ByteArray} {pc : Nat} {ins : Instr} {k m n : Nat} {sh : dSh} {i : Int} {op : UInt8} (he : dEnc ins = some (k, sh, n, i)) (h0 : cc[pc]? = some op) (hk : op.toNat = k) (hd : dDec sh cc (pc + 1) = .ok (dVal n i sh, pc + m)) : decode cc pc = .ok (ins, m) := by
  obtain ⟨e1, e2⟩ := dEnc_ok (pc := pc) he
  have := decode_at (cc := cc) (pc := pc) (i := ins) (q := pc + m) (by
    rw [(dK pc).2]
    refine (bind_at (u1_at h0)).trans ?_
    rw [hk, e1, hd, e2])
  rw [this, Nat.add_sub_cancel_left]
theorem at_drop {cc : ByteArray} {pc : Nat} {b : UInt8} {r : List UInt8} (h : cc.data.toList.drop pc = b :: r) : cc[pc]? = some b ∧ cc.data.toList.drop (pc + 1) = r := by
  have hl : pc < cc.data.toList.length := by
    apply Decidable.byContradiction
    intro z
    rw [List.drop_eq_nil_of_le (Nat.not_lt.mp z)] at h
    cases h
  rw [List.drop_eq_getElem_cons hl] at h
  obtain ⟨h1, h2⟩ := List.cons.inj h
  have hp : pc < cc.size := by
    show pc < cc.data.size
    rw [← Array.length_toList]; exact hl
  refine ⟨?_, h2⟩
  rw [getElem?_pos cc pc hp, ← h1]
  rfl
def dCk (LL : List Nat) (nL : Nat) (cp : List (Nat × Nat × Nat × Nat × Nat)) (x : mT) : Bool := (mIsSw x.2.1.1 || Nat.beq x.2.1.2 (mLn x.2.1.1)) && mCkI LL nL cp x.1 x.2.1.1 x.2.2.1.1 x.2.2.1.2.1 x.2.2.1.2.2 x.2.2.2
/-- the bytes and the instructions, side by side -/
def dWk (LL : List Nat) (nL : Nat) (cp : List (Nat × Nat × Nat × Nat × Nat)) (cc : ByteArray) : List mT → List UInt8 → Nat → Bool
  | [], _, _ => true
  | x :: nx, bs, pc => Nat.beq x.1 pc && dCk LL nL cp x && (match dEnc x.2.1.1 with
    | some (k, sh, n, i) => (match bs with
      | op :: r1 => Nat.beq op.toNat k && (match sh with
        | .inl _ => Nat.beq x.2.1.2 1 && dWk LL nL cp cc nx r1 (x.1 + 1)
        | .inr (.inl _) => (match r1 with
          | a :: r2 => Nat.beq x.2.1.2 2 && Nat.beq a.toNat n && dWk LL nL cp cc nx r2 (x.1 + 2)
          | [] => false)
        | .inr (.inr (.inl _)) => (match r1 with
          | a :: r2 => Nat.beq x.2.1.2 2 && decide (Reader.signed 8 a.toNat = i) && dWk LL nL cp cc nx r2 (x.1 + 2)
          | [] => false)
        | .inr (.inr (.inr (.inl _))) => (match r1 with
          | a :: b :: r3 => Nat.beq x.2.1.2 3 && Nat.beq (a.toNat * 256 + b.toNat) n && dWk LL nL cp cc nx r3 (x.1 + 3)
          | _ => false)
        | .inr (.inr (.inr (.inr (.inl _)))) => (match r1 with
          | a :: b :: r3 => Nat.beq x.2.1.2 3 && decide (Reader.signed 16 (a.toNat * 256 + b.toNat) = i) && dWk LL nL cp cc nx r3 (x.1 + 3)
          | _ => false)
        | .inr (.inr (.inr (.inr (.inr _)))) => (match r1 with
          | a :: b :: r3 => Nat.beq x.2.1.2 3 && Nat.beq a.toNat n && decide (Reader.signed 8 b.toNat = i) && dWk LL nL cp cc nx r3 (x.1 + 3)
          | _ => false))
      | [] => false)
    | none => decide (decode cc x.1 = .ok (x.2.1.1, x.2.1.2)) && dWk LL nL cp cc nx (bs.drop x.2.1.2) (x.1 + x.2.1.2))
theorem dWk_ok {LL : List Nat} {nL : Nat} {cp : List (Nat × Nat × Nat × Nat × Nat)} {cc : ByteArray} : ∀ (full : List mT) (bs : List UInt8) (pc : Nat), dWk LL nL cp cc full bs pc = true → cc.data.toList.drop pc = bs → ∀ x ∈ full, decode cc x.1 = .ok (x.2.1.1, x.2.1.2) ∧ (mIsSw x.2.1.1 || Nat.beq x.2.1.2 (mLn x.2.1.1)) = true ∧ mCkI LL nL cp x.1 x.2.1.1 x.2.2.1.1 x.2.2.1.2.1 x.2.2.1.2.2 x.2.2.2 = true
  | [], _, _, _, _, x, hx => absurd hx List.not_mem_nil
  | x :: nx, bs, pc, h, hb, y, hy => by
    unfold dWk at h
    obtain ⟨h, h3⟩ := (Bool.and_eq_true _ _).mp h
    obtain ⟨h1, h2⟩ := (Bool.and_eq_true _ _).mp h
    have hpc : x.1 = pc := Nat.eq_of_beq_eq_true h1
    unfold dCk at h2
    obtain ⟨k1, k2⟩ := (Bool.and_eq_true _ _).mp h2
    have fin : ∀ (m : Nat) (r : List UInt8), decode cc x.1 = .ok (x.2.1.1, x.2.1.2) → dWk LL nL cp cc nx r (x.1 + m) = true → cc.data.toList.drop (pc + m) = r → decode cc y.1 = .ok (y.2.1.1, y.2.1.2) ∧ (mIsSw y.2.1.1 || Nat.beq y.2.1.2 (mLn y.2.1.1)) = true ∧ mCkI LL nL cp y.1 y.2.1.1 y.2.2.1.1 y.2.2.1.2.1 y.2.2.1.2.2 y.2.2.2 = true := fun m r e w d => by
      rcases List.mem_cons.mp hy with z | z
      · subst z; exact ⟨e, k1, k2⟩
      · exact dWk_ok nx r (x.1 + m) w (by rw [hpc]; exact d) y z
    cases he : dEnc x.2.1.1 with
    | none =>
      rw [he] at h3
      dsimp only at h3
      obtain ⟨a, b⟩ := (Bool.and_eq_true _ _).mp h3
      exact fin _ _ (of_decide_eq_true a) b (by rw [← hb, List.drop_drop])
    | some q =>
      obtain ⟨k, sh, n, i⟩ := q
      rw [he] at h3
      dsimp only at h3
      cases bs with
      | nil => cases h3
      | cons op r1 =>
        dsimp only at h3
        obtain ⟨hop, h3⟩ := (Bool.and_eq_true _ _).mp h3
        have hk := Nat.eq_of_beq_eq_true hop
        obtain ⟨c0, d0⟩ := at_drop hb
        rw [← hpc] at c0
        rcases sh with j | f | f | f | f | u
        · -- p j
          obtain ⟨a, b⟩ := (Bool.and_eq_true _ _).mp h3
          refine fin 1 r1 ?_ b d0
          rw [Nat.eq_of_beq_eq_true a]
          exact dec_sh he c0 hk rfl
        · -- u1 f
          cases r1 with
          | nil => cases h3
          | cons a r2 =>
            obtain ⟨h3, w⟩ := (Bool.and_eq_true _ _).mp h3
            obtain ⟨l, v⟩ := (Bool.and_eq_true _ _).mp h3
            obtain ⟨c1, d1⟩ := at_drop d0
            rw [← hpc] at c1
            refine fin 2 r2 ?_ w d1
            rw [Nat.eq_of_beq_eq_true l]
            exact dec_sh he c0 hk (by rw [← Nat.eq_of_beq_eq_true v]; exact bind_at (f := fun x => pure (f x)) (u1_at c1))
        · -- s1 f
          cases r1 with
          | nil => cases h3
          | cons a r2 =>
            obtain ⟨h3, w⟩ := (Bool.and_eq_true _ _).mp h3
            obtain ⟨l, v⟩ := (Bool.and_eq_true _ _).mp h3
            obtain ⟨c1, d1⟩ := at_drop d0
            rw [← hpc] at c1
            refine fin 2 r2 ?_ w d1
            rw [Nat.eq_of_beq_eq_true l]
            exact dec_sh he c0 hk (by rw [← of_decide_eq_true v]; exact bind_at (f := fun x => pure (f x)) (s1_at c1))
        · -- u2 f
          cases r1 with
          | nil => cases h3
          | cons a r2 =>
            cases r2 with
            | nil => cases h3
            | cons b r3 =>
              obtain ⟨h3, w⟩ := (Bool.and_eq_true _ _).mp h3
              obtain ⟨l, v⟩ := (Bool.and_eq_true _ _).mp h3
              obtain ⟨c1, d1⟩ := at_drop d0
              obtain ⟨c2, d2⟩ := at_drop d1
              rw [← hpc] at c1 c2
              refine fin 3 r3 ?_ w d2
              rw [Nat.eq_of_beq_eq_true l]
              exact dec_sh he c0 hk (by rw [← Nat.eq_of_beq_eq_true v]; exact bind_at (f := fun x => pure (f x)) (u2_at c1 c2))
        · -- s2 f
          cases r1 with
          | nil => cases h3
          | cons a r2 =>
            cases r2 with
            | nil => cases h3
            | cons b r3 =>
              obtain ⟨h3, w⟩ := (Bool.and_eq_true _ _).mp h3
              obtain ⟨l, v⟩ := (Bool.and_eq_true _ _).mp h3
              obtain ⟨c1, d1⟩ := at_drop d0
              obtain ⟨c2, d2⟩ := at_drop d1
              rw [← hpc] at c1 c2
              refine fin 3 r3 ?_ w d2
              rw [Nat.eq_of_beq_eq_true l]
              exact dec_sh he c0 hk (by rw [← of_decide_eq_true v]; exact bind_at (f := fun x => pure (f x)) (s2_at c1 c2))
        · -- ii
          cases r1 with
          | nil => cases h3
          | cons a r2 =>
            cases r2 with
            | nil => cases h3
            | cons b r3 =>
              obtain ⟨h3, w⟩ := (Bool.and_eq_true _ _).mp h3
              obtain ⟨h3, v2⟩ := (Bool.and_eq_true _ _).mp h3
              obtain ⟨l, v⟩ := (Bool.and_eq_true _ _).mp h3
              obtain ⟨c1, d1⟩ := at_drop d0
              obtain ⟨c2, d2⟩ := at_drop d1
              rw [← hpc] at c1 c2
              refine fin 3 r3 ?_ w d2
              rw [Nat.eq_of_beq_eq_true l]
              exact dec_sh he c0 hk (by rw [← of_decide_eq_true v2, ← Nat.eq_of_beq_eq_true v]; exact (Eq.trans (bind_at (f := fun x => (do pure (Instr.iinc x (← Reader.s1)) : Decoder Instr)) (u1_at c1)) (bind_at (f := fun y => (pure (Instr.iinc a.toNat y) : Decoder Instr)) (s1_at c2))))
def mTokB (LL : List Nat) (nL : Nat) (cp : List (Nat × Nat × Nat × Nat × Nat)) (cc : ByteArray) (full : List mT) : Bool := mSeq full && dWk LL nL cp cc full cc.data.toList 0
theorem mTokB_ok {LL : List Nat} {nL : Nat} {cp : List (Nat × Nat × Nat × Nat × Nat)} {cc : ByteArray} {full : List mT} (h : mTokB LL nL cp cc full = true) : mTok LL nL cp cc full := by
  unfold mTokB at h
  obtain ⟨h1, h2⟩ := (Bool.and_eq_true _ _).mp h
  exact ⟨h1, dWk_ok full _ 0 h2 rfl⟩
