/-! One step of the small machine is a step of the machine -/
def mGd : List Cond := lw_tbl.filter goodWord
def mIsN : Cond → Bool
  | .methodLinkNest .. => true
  | .fieldLinkNest .. => true
  | _ => false
def mNest : List Cond := lw_tbl.filter mIsN
def mStrL : List (String × Nat × String × Nat) := [("RingedLights$Reader", 59, "phase", 0), ("RingedLights$Reader", 68, "cycle", 1), ("RingedLights$Reader", 73, "offset", 2), ("RingedLights$Reader", 78, "break", 3), ("RingedLights$Reader", 197, "track", 4), ("RingedLights$Reader", 205, "dwell", 5), ("RingedLights$Reader", 207, "cut", 6), ("RingedLights$Reader", 158, "min", 7), ("RingedLights$Reader", 159, "pass", 8), ("RingedLights$Reader", 161, "max", 9), ("RingedLights$Reader", 163, "yellow", 10), ("RingedLights$Reader", 165, "clear", 11), ("RingedLights$Reader", 167, "walk", 12), ("RingedLights$Reader", 169, "halt", 13), ("RingedLights$Reader", 171, "recall", 14), ("RingedLights$Reader", 173, "split", 15), ("RingedLights$Reader", 175, "rate", 16), ("RingedLightsModel", 249, " min pass max yellow clear walk halt recall split rate phase cycle offset break track dwell cut ", 17)]
def mStN (j : Nat) : String := match j with
  | 27 => "LEAST_MARK"
  | 28 => "MOST_MARK"
  | _ => "USUAL_MARK"
/-- what a method is: name, bytes, variables, what it returns, of which kind, whether static, its parameters, its instructions, those of two words, its pool -/
abbrev mDat : Type := MethodName × ByteArray × Nat × Option FieldType × (Nat × Nat × Nat) × List mT × List Nat × List (Nat × Nat × Nat × Nat × Nat)
abbrev mdY (q : mDat) : MethodName := q.1
abbrev mdB (q : mDat) : ByteArray := q.2.1
abbrev mdL (q : mDat) : Nat := q.2.2.1
abbrev mdR (q : mDat) : Option FieldType := q.2.2.2.1
abbrev mdK (q : mDat) : Nat := q.2.2.2.2.1.1
abbrev mdC (q : mDat) : Nat := q.2.2.2.2.1.2.1
abbrev mdN (q : mDat) : Nat := q.2.2.2.2.1.2.2
abbrev mdT (q : mDat) : List mT := q.2.2.2.2.2.1
abbrev mdW (q : mDat) : List Nat := q.2.2.2.2.2.2.1
abbrev mdP (q : mDat) : List (Nat × Nat × Nat × Nat × Nat) := q.2.2.2.2.2.2.2
def mClN (ci : Nat) : String := match ci with
  | 0 => RX0 | 1 => RX1 | 2 => RX2 | 3 => RX3 | 4 => RX4 | 5 => RX5 | 6 => RX6 | 7 => "java/lang/String"
  | _ => ""
/-- what the tables say of an entry of a class's pool: 0 a field, 1 a static one, 2 a method, 3 a text, 4 a long, 5 arraycopy -/
def mCpO (dat : Nat → mDat) (own : String) (q : Nat × Nat × Nat × Nat × Nat) : Prop := match q.1 with
  | 0 => (q.2.2.1 = 7 ∧ q.2.2.2.1 = 0 ∧ Cond.fieldLink own q.2.1 "java/lang/String" "value" "[B" ∈ mGd) ∨ (q.2.2.1 = 7 ∧ q.2.2.2.1 = 1 ∧ Cond.fieldLink own q.2.1 "java/lang/String" "coder" "B" ∈ mGd) ∨
      ∃ r, mCLS[q.2.2.1]? = some r ∧ q.2.2.2.1 < r.2.2 ∧ Cond.fieldLink own q.2.1 (r.2.1 q.2.2.2.1).1 (r.2.1 q.2.2.2.1).2.1 (r.2.1 q.2.2.2.1).2.2.1 ∈ mGd
  | 1 => (q.2.2.1 = 0 ∧ (27 ≤ q.2.2.2.1 ∧ q.2.2.2.1 ≤ 29) ∧ (Cond.fieldLink own q.2.1 "RingedLights" (mStN q.2.2.2.1) "[I" ∈ mGd ∨ Cond.fieldLinkNest own q.2.1 "RingedLights" (mStN q.2.2.2.1) "[I" "RingedLights" ∈ mNest)) ∨
      (q.2.2.1 = 1 ∧ Cond.fieldLink own q.2.1 "java/lang/String" "COMPACT_STRINGS" "Z" ∈ mGd) ∨ (q.2.2.1 = 2 ∧ Cond.fieldLink own q.2.1 "jdk/internal/util/Preconditions" "SIOOBE_FORMATTER" "Ljava/util/function/BiFunction;" ∈ mGd)
  | 2 => q.2.2.2.1 = mdN (dat q.2.2.1) + (if mdC (dat q.2.2.1) = 99 then 0 else 1) ∧ q.2.2.2.2 = mdC (dat q.2.2.1) ∧ (Cond.methodLink own q.2.1 (mdY (dat q.2.2.1)) ∈ mGd ∨ Cond.methodLinkNest own q.2.1 (mdY (dat q.2.2.1)) "RingedLights" ∈ mNest)
  | 3 => ∃ tx, (own, q.2.1, tx, q.2.2.1) ∈ mStrL
  | 4 => Cond.constantLong own q.2.1 (Int64.ofNat q.2.2.1) ∈ mGd
  | 5 => Cond.methodLink own q.2.1 arraycopyName ∈ mGd
  | _ => False
/-- what the tables say of a method -/
def mMO (q : mDat) : Prop := Cond.code (mdY q) (mdB q) (mdL q) (mdR q) ∈ mGd ∧ mdL q ≤ 17 ∧ plainFor (mdY q) = true ∧ ((mdY q).cls ≠ "java/lang/invoke/MethodHandle" ∧ (mdY q).cls ≠ "java/lang/invoke/VarHandle" ∧ (parseMethodDescriptor (mdY q).desc).map (fun d => d.parameters.length) = some (mdN q)) ∧ Cond.initialized (mdY q).cls ∈ mGd ∧
  ((mdC q = 99 ∧ Cond.static (mdY q) ∈ mGd) ∨ (mdC q ≠ 99 ∧ Cond.instanceMethod (mdY q) ∈ mGd ∧ Cond.selects (mdY q).cls (mdY q) (mdY q) ∈ mGd ∧ mClN (mdC q) = (mdY q).cls)) ∧
  ((mdK q = 0 ∧ mdR q = none) ∨ (mdK q = 1 ∧ mdR q = some .int) ∨ (mdK q = 2 ∧ mdR q = some .boolean) ∨ (mdK q = 3 ∧ mdR q = some .char) ∨ (mdK q = 4 ∧ mdR q = some .byte) ∨ (mdK q = 5 ∧ ∃ cn, mdR q = some (.object cn)))
def mLn : Instr → Nat
  | .bipush _ => 2 | .iload _ => 2 | .istore _ => 2 | .aload _ => 2 | .astore _ => 2 | .lload _ => 2 | .lstore _ => 2 | .ldc _ => 2
  | .sipush _ => 3 | .ldc2_w _ => 3 | .iinc _ _ => 3 | .ifCond _ _ => 3 | .if_icmp _ _ => 3 | .goto _ => 3 | .getfield _ => 3 | .putfield _ => 3 | .getstatic _ => 3 | .invokevirtual _ => 3 | .invokestatic _ => 3
  | _ => 1
def mSt1 (LL : List Nat) (nL n : Nat) : Bool := Nat.blt n nL && LL.all (fun q => !(Nat.beq (q + 1) n))
def mTsw (pc : Nat) (lo : Int) (offs : List Int) : List (Int32 × Nat) := (List.range offs.length).map (fun (k : Nat) => (Int32.ofInt (lo + (k : Int)), ((pc : Int) + offs.getD k 0).toNat))
def mCkI (LL : List Nat) (nL : Nat) (cp : List (Nat × Nat × Nat × Nat × Nat)) (pc : Nat) (ins : Instr) (a b d : Nat) (sw : List (Int32 × Nat)) : Bool := match ins with
  | .ldc2_w i => cp.contains (4, i, a, b, d)
  | .ldc i => cp.contains (3, i, a, b, d)
  | .istore n => mSt1 LL nL n
  | .istore_n n => mSt1 LL nL n.val
  | .astore n => mSt1 LL nL n
  | .astore_n n => mSt1 LL nL n.val
  | .iinc n _ => mSt1 LL nL n
  | .lstore n => mSt1 LL nL n && LL.contains n && Nat.blt (n + 1) nL
  | .lstore_n n => mSt1 LL nL n.val && LL.contains n.val && Nat.blt (n.val + 1) nL
  | .ifCond _ off => decide ((pc : Int) + off = (a : Int))
  | .if_icmp _ off => decide ((pc : Int) + off = (a : Int))
  | .goto off => decide ((pc : Int) + off = (a : Int))
  | .tableswitch dflt lo hi offs => decide ((pc : Int) + dflt = (a : Int)) && decide (sw = mTsw pc lo offs.toList) && decide (hi = lo + offs.toList.length - 1) && decide (-1000 ≤ lo) && decide (hi ≤ 1000) && offs.toList.all (fun o => decide (0 ≤ (pc : Int) + o)) && decide (0 < offs.toList.length)
  | .lookupswitch dflt ps => decide ((pc : Int) + dflt = (a : Int)) && (ps.toList.zip (ps.toList.drop 1)).all (fun (a, next) => decide (a.1 < next.1)) && decide (sw = ps.toList.map (fun q => (Int32.ofInt q.1, ((pc : Int) + q.2).toNat))) && ps.toList.all (fun q => decide (0 ≤ (pc : Int) + q.2) && decide (-1000 ≤ q.1) && decide (q.1 ≤ 1000))
  | .getfield i => cp.contains (0, i, a, b, d)
  | .putfield i => cp.contains (0, i, a, b, d) && (Nat.blt a 7 && !(Nat.beq a 4 && Nat.beq b 0))
  | .getstatic i => cp.contains (1, i, a, b, d)
  | .invokevirtual i => cp.contains (2, i, a, b, d) && !(Nat.beq d 99)
  | .invokestatic i => (match Nat.beq a 999 with
    | true => cp.contains (5, i, a, b, d)
    | false => (match Nat.beq a 998 with
      | true => true
      | false => cp.contains (2, i, a, b, d) && Nat.beq d 99))
  | _ => true
theorem mGd_in {i : Nat} {w : Cond} (h : lw_tbl[i]? = some w) (hg : goodWord w = true) : w ∈ mGd := List.mem_filter.mpr ⟨List.mem_of_getElem? h, hg⟩
theorem mNest_in {i : Nat} {w : Cond} (h : lw_tbl[i]? = some w) (hg : mIsN w = true) : w ∈ mNest := List.mem_filter.mpr ⟨List.mem_of_getElem? h, hg⟩
theorem mGd_good {w : Cond} (h : w ∈ mGd) : w ∈ mGd ∧ ((w.onTables && w.keeps) = true ∨ ∃ ty, w = .arrayClass ty) := ⟨h, good_of_word (List.mem_filter.mp h).2⟩
theorem mNest_warm {w : Cond} {s U : State} (hw : w ∈ mNest) (hW : s.WarmedH U.vm) (h : va_Nw w s) : va_Nw w U := by
  have h2 := (List.mem_filter.mp hw).2
  cases w
  case methodLinkNest a i x h0 => exact va_Nw.warmM hW h
  case fieldLinkNest a i b n d h0 => exact va_Nw.warmF hW h
  all_goals cases h2
theorem mNest_tab {w : Cond} (hw : w ∈ mNest) : w.onTables = true := by
  have h2 := (List.mem_filter.mp hw).2
  cases w
  case methodLinkNest => rfl
  case fieldLinkNest => rfl
  all_goals cases h2
section RO
variable (ad : Nat → Nat → Nat) (oq : Value) (X : mX)
/-- what stays all along: texts, rows of the marks, statics, the script -/
def mRo (A : Nat → Prop) (s : State) : Prop :=
  (∀ i j n b, mIn (i, j) → 25 ≤ j → mArr X i j = some (n, b) → va_T (if b then .byte else .int) (ad i j) n (fun k => .int (mRO X i j k)) A s s.heap) ∧
  (∀ n, n < 18 → va_O "java/lang/String" (ad n 24) A s s.heap ∧ va_OF "java/lang/String" "coder" "B" (.int 0) (ad n 24) A s s.heap ∧ va_OF "java/lang/String" "value" "[B" (.ref (ad n 25)) (ad n 24) A s s.heap) ∧
  (∀ j, 27 ≤ j ∧ j ≤ 29 → va_Z "RingedLights" (mStN j) "[I" (.ref (ad 9 j)) A s s.heap) ∧
  va_Z "java/lang/String" "COMPACT_STRINGS" "Z" (.int 1) A s s.heap ∧ va_Z "jdk/internal/util/Preconditions" "SIOOBE_FORMATTER" "Ljava/util/function/BiFunction;" oq A s s.heap ∧
  (∀ q ∈ mStrL, vk_R q.1 q.2.1 q.2.2.1 (ad q.2.2.2 24) s) ∧ (∀ w ∈ mNest, va_Nw w s)
theorem mRo_moved {A A1 : Nat → Prop} {s U : State} {H : Heap} {locs : List Loc} (h : mRo ad oq X A s) (hS : va_S A s.heap H locs) (hA : ∀ q, A1 q → A q) (hU : U.heap = H) (hW : s.WarmedH U.vm) : mRo ad oq X A1 U := by
  obtain ⟨h1, h2, h3, h4, h5, h6, h7⟩ := h
  have hv : s.vm.Alike U.vm := hW.alike
  subst hU
  refine ⟨fun i j n b q1 q2 q3 => ((h1 i j n b q1 q2 q3).kept hS.2.1).narrow hA |>.moved hv, fun n hn => ⟨va_O.moved hv (((h2 n hn).1.kept hS.2.1).narrow hA), va_OF.moved hv (((h2 n hn).2.1.kept hS.2.1).narrow hA), va_OF.moved hv (((h2 n hn).2.2.kept hS.2.1).narrow hA)⟩, fun j hj => va_Z.moved hv (((h3 j hj).kept hS.2.1).narrow hA), va_Z.moved hv ((h4.kept hS.2.1).narrow hA), va_Z.moved hv ((h5.kept hS.2.1).narrow hA), fun q hq => vk_R.warm hW (h6 q hq), fun w hw => mNest_warm hw hW (h7 w hw)⟩
/-- the same, at a state over the same tables and heap -/
theorem mRo_same {A : Nat → Prop} {s U : State} (h : mRo ad oq X A s) (hv : U.vm = s.vm) (hh : U.heap = s.heap) : mRo ad oq X A U := by
  obtain ⟨h1, h2, h3, h4, h5, h6, h7⟩ := h
  have ha : s.vm.Alike U.vm := by rw [hv]; exact Vm.Alike.refl _
  refine ⟨fun i j n b q1 q2 q3 => ?_, fun n hn => ?_, fun j hj => ?_, ?_, ?_, fun q hq => vk_R.same hv (h6 q hq), fun w hw => va_Nw.same (mNest_tab hw) hv.symm (h7 w hw)⟩
  · rw [hh]; exact va_T.moved ha (h1 i j n b q1 q2 q3)
  · rw [hh]; exact ⟨va_O.moved ha (h2 n hn).1, va_OF.moved ha (h2 n hn).2.1, va_OF.moved ha (h2 n hn).2.2⟩
  · rw [hh]; exact va_Z.moved ha (h3 j hj)
  · rw [hh]; exact va_Z.moved ha h4
  · rw [hh]; exact va_Z.moved ha h5
end RO
