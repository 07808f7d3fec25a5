/-! The small machine: the instructions that these classes use, over a picture of the cells: cell (i, j) is part j of owner i, and holds ints by slots -/
abbrev mV : Type := Int32 ⊕ (Int64 ⊕ (Nat × Nat))
abbrev mC : Type := Nat → Nat → Int32
abbrev mG : Type := Nat → mC
abbrev mR : Type := Option (Option mV × mG)
abbrev mT : Type := Nat × (Instr × Nat) × (Nat × Nat × Nat) × List (Int32 × Nat)
abbrev mL : Type := List (Option mV)
abbrev mX : Type := (Nat → Int32) × Nat
abbrev mK : Type := List mT → mL → List mV → mG → mR
abbrev mi (x : Int32) : mV := .inl x
abbrev ml (x : Int64) : mV := .inr (.inl x)
abbrev mr (i j : Nat) : mV := .inr (.inr (i, j))
def mP (c : mC) (j k : Nat) (v : Int32) : mC := fun j' k' => if j' = j ∧ k' = k then v else c j' k'
def mU (g : mG) (i : Nat) (c : mC) : mG := fun i' => if i' = i then c else g i'
def mA (c : mC) (j : Nat) (f : Nat → Int32) : mC := fun j' => if j' = j then f else c j'
/-- the class of a part that is an object; its fields that are references; those that are booleans -/
def mCls (j : Nat) : Option Nat := match j with
  | 0 => some 0 | 1 => some 2 | 8 => some 4 | 9 => some 4 | 10 => some 1 | 16 => some 3 | 18 => some 5 | 20 => some 6
  | _ => none
def mNF (ci : Nat) : Nat := match ci with
  | 0 => 19 | 1 => 5 | 2 => 12 | 3 => 12 | 4 => 9 | 5 => 10 | 6 => 21
  | _ => 0
def mRef (i j k : Nat) : Option (Nat × Nat) := match j with
  | 0 => (match k with | 0 => some (i, 1) | 1 => some (i, 8) | 2 => some (i, 9) | 3 => some (i, 10) | 4 => some (i, 14) | 5 => some (i, 15) | _ => none)
  | 1 => (match k with | 3 => some (i, 2) | 4 => some (i, 3) | 5 => some (i, 4) | 6 => some (i, 5) | 7 => some (i, 6) | 8 => some (i, 7) | _ => none)
  | 10 => (match k with | 0 => some (i, 11) | 1 => some (i, 12) | 2 => some (i, 13) | _ => none)
  | 16 => (match k with | 0 => some (i, 19) | 1 => some (i, 1) | _ => none)
  | 18 => (match k with | 0 => some (5, 16) | 1 => some (0, 0) | 2 => some (1, 0) | 3 => some (2, 0) | 4 => some (3, 0) | 5 => some (4, 0) | _ => none)
  | 20 => (match k with | 0 => some (7, 21) | 6 => some (7, 22) | 7 => some (7, 23) | _ => none)
  | _ => none
def mBoF (j k : Nat) : Bool := match j with
  | 0 => Nat.beq k 15
  | 18 => Nat.beq k 8
  | 20 => Nat.beq k 5
  | _ => false
/-- the constants: the strings' signs, the three rows of the marks; the script -/
def mSL : List Nat := [5, 5, 6, 5, 5, 5, 3, 3, 4, 3, 6, 5, 4, 4, 6, 5, 4, 96]
def mSB : List (List Int32) := [[112, 104, 97, 115, 101], [99, 121, 99, 108, 101], [111, 102, 102, 115, 101, 116], [98, 114, 101, 97, 107], [116, 114, 97, 99, 107], [100, 119, 101, 108, 108], [99, 117, 116], [109, 105, 110], [112, 97, 115, 115], [109, 97, 120], [121, 101, 108, 108, 111, 119], [99, 108, 101, 97, 114], [119, 97, 108, 107], [104, 97, 108, 116], [114, 101, 99, 97, 108, 108], [115, 112, 108, 105, 116], [114, 97, 116, 101], [32, 109, 105, 110, 32, 112, 97, 115, 115, 32, 109, 97, 120, 32, 121, 101, 108, 108, 111, 119, 32, 99, 108, 101, 97, 114, 32, 119, 97, 108, 107, 32, 104, 97, 108, 116, 32, 114, 101, 99, 97, 108, 108, 32, 115, 112, 108, 105, 116, 32, 114, 97, 116, 101, 32, 112, 104, 97, 115, 101, 32, 99, 121, 99, 108, 101, 32, 111, 102, 102, 115, 101, 116, 32, 98, 114, 101, 97, 107, 32, 116, 114, 97, 99, 107, 32, 100, 119, 101, 108, 108, 32, 99, 117, 116, 32]]
def mLeast : List Int32 := [1, 1, 1, 1, 0, 0, 0, 0, 0, 0]
def mMost : List Int32 := [30, 9, 60, 5, 4, 20, 20, 3, 60, 30]
def mUsual : List Int32 := [5, 2, 20, 3, 1, 0, 0, 0, 0, 0]
/-- the length of a part that is an array; whether of bytes -/
def mArr (X : mX) (i j : Nat) : Option (Nat × Bool) := match j with
  | 2 => some (8, false) | 3 => some (8, false) | 4 => some (8, false) | 5 => some (80, false) | 6 => some (10, false) | 7 => some (4, false)
  | 11 => some (32, false) | 12 => some (32, false) | 13 => some (32, false) | 14 => some (8, false) | 15 => some (8, false)
  | 19 => some (700, true) | 21 => some (1440, false) | 22 => some (700, true) | 23 => some (700, true)
  | 25 => some (mSL.getD i 0, true) | 26 => some (X.2, false) | 27 => some (10, false) | 28 => some (10, false) | 29 => some (10, false)
  | _ => none
def mRO (X : mX) (i j k : Nat) : Int32 := match j with
  | 25 => (mSB.getD i []).getD k 0
  | 26 => X.1 k
  | 27 => mLeast.getD k 0
  | 28 => mMost.getD k 0
  | 29 => mUsual.getD k 0
  | _ => 0
def mRd (X : mX) (g : mG) (i j k : Nat) : Int32 := match Nat.ble j 23 with
  | true => g i j k
  | false => mRO X i j k
def mDrop : List mT → Nat → List mT
  | [], _ => []
  | x :: nx, t => match Nat.beq x.1 t with
    | true => x :: nx
    | false => mDrop nx t
section MACH
def mLdI (n : Nat) (k : mK) (nx : List mT) (L : mL) (st : List mV) (g : mG) : mR := match L[n]? with
  | some (some (.inl v)) => k nx L (.inl v :: st) g
  | _ => none
def mLdL (n : Nat) (k : mK) (nx : List mT) (L : mL) (st : List mV) (g : mG) : mR := match L[n]? with
  | some (some (.inr (.inl v))) => k nx L (.inr (.inl v) :: st) g
  | _ => none
def mLdR (n : Nat) (k : mK) (nx : List mT) (L : mL) (st : List mV) (g : mG) : mR := match L[n]? with
  | some (some (.inr (.inr (i, j)))) => (match Nat.beq j 99 with
    | true => none
    | false => k nx L (.inr (.inr (i, j)) :: st) g)
  | _ => none
def mStI (n : Nat) (k : mK) (nx : List mT) (L : mL) (st : List mV) (g : mG) : mR := match st with
  | .inl v :: r => k nx (L.set n (some (.inl v))) r g
  | _ => none
def mStR (n : Nat) (k : mK) (nx : List mT) (L : mL) (st : List mV) (g : mG) : mR := match st with
  | .inr (.inr (i, j)) :: r => (match Nat.beq j 99 with
    | true => none
    | false => k nx (L.set n (some (.inr (.inr (i, j))))) r g)
  | _ => none
def mStL (n : Nat) (k : mK) (nx : List mT) (L : mL) (st : List mV) (g : mG) : mR := match st with
  | .inr (.inl v) :: r => k nx ((L.set n (some (.inr (.inl v)))).set (n + 1) none) r g
  | _ => none
def mInc (n : Nat) (d : Int) (k : mK) (nx : List mT) (L : mL) (st : List mV) (g : mG) : mR := match L[n]? with
  | some (some (.inl x)) => k nx (L.set n (some (.inl (x + Int32.ofInt d)))) st g
  | _ => none
def mB2 (f : Int32 → Int32 → Int32) (k : mK) (nx : List mT) (L : mL) (st : List mV) (g : mG) : mR := match st with
  | .inl y :: .inl x :: r => k nx L (.inl (f x y) :: r) g
  | _ => none
def mB2n (f : Int32 → Int32 → Int32) (k : mK) (nx : List mT) (L : mL) (st : List mV) (g : mG) : mR := match st with
  | .inl y :: .inl x :: r => if y = 0 then none else k nx L (.inl (f x y) :: r) g
  | _ => none
def mJ2 (f : Int64 → Int64 → Int64) (k : mK) (nx : List mT) (L : mL) (st : List mV) (g : mG) : mR := match st with
  | .inr (.inl y) :: .inr (.inl x) :: r => k nx L (.inr (.inl (f x y)) :: r) g
  | _ => none
def mJ2n (f : Int64 → Int64 → Int64) (k : mK) (nx : List mT) (L : mL) (st : List mV) (g : mG) : mR := match st with
  | .inr (.inl y) :: .inr (.inl x) :: r => if y = 0 then none else k nx L (.inr (.inl (f x y)) :: r) g
  | _ => none
def mLcmp (k : mK) (nx : List mT) (L : mL) (st : List mV) (g : mG) : mR := match st with
  | .inr (.inl y) :: .inr (.inl x) :: r => k nx L (.inl (lg_cmp x y) :: r) g
  | _ => none
def mI2l (k : mK) (nx : List mT) (L : mL) (st : List mV) (g : mG) : mR := match st with
  | .inl x :: r => k nx L (.inr (.inl x.toInt64) :: r) g
  | _ => none
def mL2i (k : mK) (nx : List mT) (L : mL) (st : List mV) (g : mG) : mR := match st with
  | .inr (.inl x) :: r => k nx L (.inl x.toInt32 :: r) g
  | _ => none
def mI2b (k : mK) (nx : List mT) (L : mL) (st : List mV) (g : mG) : mR := match st with
  | .inl x :: r => k nx L (.inl x.toInt8.toInt32 :: r) g
  | _ => none
def mI2c (k : mK) (nx : List mT) (L : mL) (st : List mV) (g : mG) : mR := match st with
  | .inl x :: r => k nx L (.inl (x.toUInt32 % 65536).toInt32 :: r) g
  | _ => none
def mDup (k : mK) (nx : List mT) (L : mL) (st : List mV) (g : mG) : mR := match st with
  | .inl x :: r => k nx L (.inl x :: .inl x :: r) g
  | .inr (.inr x) :: r => k nx L (.inr (.inr x) :: .inr (.inr x) :: r) g
  | _ => none
def mDup2 (k : mK) (nx : List mT) (L : mL) (st : List mV) (g : mG) : mR := match st with
  | .inl y :: .inr (.inr x) :: r => k nx L (.inl y :: .inr (.inr x) :: .inl y :: .inr (.inr x) :: r) g
  | _ => none
def mPop (k : mK) (nx : List mT) (L : mL) (st : List mV) (g : mG) : mR := match st with
  | .inl _ :: r => k nx L r g
  | _ => none
def mIf1 (cd : ClassFile.Cond) (tg : List mT) (k : mK) (nx : List mT) (L : mL) (st : List mV) (g : mG) : mR := match st with
  | .inl x :: r => (match cd with
    | .eq => if x = 0 then k tg L r g else k nx L r g
    | .ne => if x = 0 then k nx L r g else k tg L r g
    | .lt => if x < 0 then k tg L r g else k nx L r g
    | .ge => if 0 ≤ x then k tg L r g else k nx L r g
    | .gt => if 0 < x then k tg L r g else k nx L r g
    | .le => if x ≤ 0 then k tg L r g else k nx L r g)
  | _ => none
def mIf2 (cd : ClassFile.Cond) (tg : List mT) (k : mK) (nx : List mT) (L : mL) (st : List mV) (g : mG) : mR := match st with
  | .inl y :: .inl x :: r => (match cd with
    | .eq => if x = y then k tg L r g else k nx L r g
    | .ne => if x = y then k nx L r g else k tg L r g
    | .lt => if x < y then k tg L r g else k nx L r g
    | .ge => if y ≤ x then k tg L r g else k nx L r g
    | .gt => if y < x then k tg L r g else k nx L r g
    | .le => if x ≤ y then k tg L r g else k nx L r g)
  | _ => none
def mSwG (full : List mT) (dflt : Nat) (k : mK) (L : mL) (r : List mV) (g : mG) (x : Int32) : List (Int32 × Nat) → mR
  | [] => k (mDrop full dflt) L r g
  | q :: sw => if x = q.1 then k (mDrop full q.2) L r g else mSwG full dflt k L r g x sw
def mSw (full : List mT) (dflt : Nat) (sw : List (Int32 × Nat)) (k : mK) (L : mL) (st : List mV) (g : mG) : mR := match st with
  | .inl x :: r => mSwG full dflt k L r g x sw
  | _ => none
def mGet (a b : Nat) (k : mK) (nx : List mT) (L : mL) (st : List mV) (g : mG) : mR := match st with
  | .inr (.inr (i, j)) :: r => (match Nat.beq a 7 with
    | true => (match Nat.beq j 24 with
      | true => (match b with
        | 0 => k nx L (.inr (.inr (i, 25)) :: r) g
        | _ => k nx L (.inl 0 :: r) g)
      | false => none)
    | false => (match mCls j with
      | some ci => (match Nat.beq ci a with
        | true => (match mRef i j b with
          | some q => k nx L (.inr (.inr q) :: r) g
          | none => (match mBoF j b with
            | true => k nx L (.inl (g i j b &&& 1) :: r) g
            | false => k nx L (.inl (g i j b) :: r) g))
        | false => none)
      | none => none))
  | _ => none
def mPut (a b : Nat) (k : mK) (nx : List mT) (L : mL) (st : List mV) (g : mG) : mR := match st with
  | .inl v :: .inr (.inr (i, j)) :: r => (match mCls j with
      | some ci => (match Nat.beq ci a with
        | true => (match mRef i j b with
          | some _ => none
          | none => (match mBoF j b with
            | true => if v &&& 1 = v then k nx L r (mU g i (mP (g i) j b v)) else none
            | false => k nx L r (mU g i (mP (g i) j b v))))
        | false => none)
      | none => none)
  | _ => none
def mGetS (a b : Nat) (k : mK) (nx : List mT) (L : mL) (st : List mV) (g : mG) : mR := match a with
  | 0 => k nx L (.inr (.inr (9, b)) :: st) g
  | 1 => k nx L (.inl 1 :: st) g
  | 2 => k nx L (.inr (.inr (99, 99)) :: st) g
  | _ => none
def mAld (X : mX) (bt : Bool) (k : mK) (nx : List mT) (L : mL) (st : List mV) (g : mG) : mR := match st with
  | .inl ix :: .inr (.inr (i, j)) :: r => (match mArr X i j with
    | some (n, b) => if b = bt then (if ix < 0 ∨ n ≤ ix.toNatClampNeg then none else k nx L (.inl (mRd X g i j ix.toNatClampNeg) :: r) g) else none
    | none => none)
  | _ => none
def mAst (X : mX) (bt : Bool) (k : mK) (nx : List mT) (L : mL) (st : List mV) (g : mG) : mR := match st with
  | .inl v :: .inl ix :: .inr (.inr (i, j)) :: r => (match mArr X i j with
    | some (n, b) => if b = bt then (if ix < 0 ∨ n ≤ ix.toNatClampNeg then none else (match Nat.ble j 23 with
      | true => k nx L r (mU g i (mP (g i) j ix.toNatClampNeg (if bt then v.toInt8.toInt32 else v)))
      | false => none)) else none
    | none => none)
  | _ => none
def mLen (X : mX) (k : mK) (nx : List mT) (L : mL) (st : List mV) (g : mG) : mR := match st with
  | .inr (.inr (i, j)) :: r => (match mArr X i j with
    | some (n, _) => k nx L (.inl (Int32.ofNat n) :: r) g
    | none => none)
  | _ => none
def mCopy (X : mX) (k : mK) (nx : List mT) (L : mL) (st : List mV) (g : mG) : mR := match st with
  | .inl n :: .inl dp :: .inr (.inr (i2, j2)) :: .inl sp :: .inr (.inr (i1, j1)) :: r => (match mArr X i1 j1, mArr X i2 j2 with
    | some (n1, false), some (n2, false) => if sp = 0 ∧ dp = 0 ∧ ¬ n < 0 ∧ n.toNatClampNeg ≤ n1 ∧ n.toNatClampNeg ≤ n2 ∧ j1 ≤ 23 ∧ j2 ≤ 23 ∧ r.length ≤ 4 then
        k nx L r (mU g i2 (mA (g i2) j2 (fun q => if q < n.toNatClampNeg then g i1 j1 q else g i2 j2 q))) else none
    | _, _ => none)
  | _ => none
def mNoL (v : mV) : Bool := match v with
  | .inr (.inl _) => false
  | _ => true
def mArgOk (ci : Nat) (vs : List mV) : Bool := vs.all mNoL && (match ci with
  | 99 => true
  | _ => (match vs with
    | .inr (.inr (_, j)) :: _ => (match Nat.beq ci 7 with
      | true => Nat.beq j 24
      | false => (match mCls j with
        | some c => Nat.beq c ci
        | none => false))
    | _ => false))
def mAns (k : mK) (nx : List mT) (L : mL) (st : List mV) : mR → mR
  | none => none
  | some (none, g) => k nx L st g
  | some (some v, g) => k nx L (v :: st) g
def mWts : List mV → Nat
  | [] => 0
  | .inr (.inl _) :: r => 2 + mWts r
  | _ :: r => 1 + mWts r
/-- a call: a its number, b how many arguments (the receiver too), ci the class that the receiver must have (99: static) -/
def mInv (call : Nat → List mV → mG → mR) (a b ci : Nat) (k : mK) (nx : List mT) (L : mL) (st : List mV) (g : mG) : mR :=
  match mArgOk ci (st.take b).reverse && (Nat.ble (mWts (st.drop b)) 8 && Nat.ble b st.length) with
  | true => mAns k nx L (st.drop b) (call a (st.take b).reverse g)
  | false => none
def mRetI (rt : Nat) (st : List mV) (g : mG) : mR := match st with
  | [.inl v] => (match rt with
    | 1 => some (some (.inl v), g)
    | 2 => if v &&& 1 = v then some (some (.inl v), g) else none
    | 3 => if v.toUInt32.toUInt16.toUInt32.toInt32 = v then some (some (.inl v), g) else none
    | 4 => if v.toInt8.toInt32 = v then some (some (.inl v), g) else none
    | _ => none)
  | _ => none
def mRetR (st : List mV) (g : mG) : mR := match st with
  | [.inr (.inr (i, j))] => (match Nat.beq j 99 with
    | true => none
    | false => some (some (.inr (.inr (i, j))), g))
  | _ => none
def mRetV (st : List mV) (g : mG) : mR := match st with
  | [] => some (none, g)
  | _ => none
/-- at a loop's head: what its body alone uses is let go -/
def mKl (b d : Nat) (L : mL) : mL := match b with
  | 0 => L
  | _ => L.take d ++ List.replicate (L.length - d) none
def mIns (X : mX) (call : Nat → List mV → mG → mR) (rt : Nat) (full : List mT) (k : mK) (ins : Instr) (a b d : Nat) (sw : List (Int32 × Nat)) (nx : List mT) (L : mL) (st : List mV) (g : mG) : mR := match ins with
  | .iconst n => k nx L (.inl (Int32.ofInt n) :: st) g
  | .bipush n => k nx L (.inl (Int8.ofInt n).toInt32 :: st) g
  | .sipush n => k nx L (.inl (Int16.ofInt n).toInt32 :: st) g
  | .ldc2_w _ => k nx L (.inr (.inl (Int64.ofNat a)) :: st) g
  | .ldc _ => k nx L (.inr (.inr (a, 24)) :: st) g
  | .iload n => mLdI n k nx (mKl b d L) st g
  | .iload_n n => mLdI n.val k nx (mKl b d L) st g
  | .aload n => mLdR n k nx (mKl b d L) st g
  | .aload_n n => mLdR n.val k nx (mKl b d L) st g
  | .lload n => mLdL n k nx (mKl b d L) st g
  | .lload_n n => mLdL n.val k nx (mKl b d L) st g
  | .istore n => mStI n k nx L st g
  | .istore_n n => mStI n.val k nx L st g
  | .astore n => mStR n k nx L st g
  | .astore_n n => mStR n.val k nx L st g
  | .lstore n => mStL n k nx L st g
  | .lstore_n n => mStL n.val k nx L st g
  | .iinc n q => mInc n q k nx L st g
  | .iadd => mB2 (fun x y => x + y) k nx L st g
  | .isub => mB2 (fun x y => x - y) k nx L st g
  | .imul => mB2 (fun x y => x * y) k nx L st g
  | .iand => mB2 (fun x y => x &&& y) k nx L st g
  | .ior => mB2 (fun x y => x ||| y) k nx L st g
  | .ixor => mB2 (fun x y => x ^^^ y) k nx L st g
  | .ishl => mB2 (fun x y => x <<< (y &&& 31)) k nx L st g
  | .ishr => mB2 (fun x y => x >>> (y &&& 31)) k nx L st g
  | .idiv => mB2n (fun x y => x / y) k nx L st g
  | .irem => mB2n (fun x y => x - x / y * y) k nx L st g
  | .ladd => mJ2 (fun x y => x + y) k nx L st g
  | .lmul => mJ2 (fun x y => x * y) k nx L st g
  | .ldiv => mJ2n (fun x y => x / y) k nx L st g
  | .lrem => mJ2n (fun x y => x - x / y * y) k nx L st g
  | .lcmp => mLcmp k nx L st g
  | .i2l => mI2l k nx L st g
  | .l2i => mL2i k nx L st g
  | .i2b => mI2b k nx L st g
  | .i2c => mI2c k nx L st g
  | .dup => mDup k nx L st g
  | .dup2 => mDup2 k nx L st g
  | .pop => mPop k nx L st g
  | .ifCond c _ => mIf1 c (mDrop full a) k nx L st g
  | .if_icmp c _ => mIf2 c (mDrop full a) k nx L st g
  | .goto _ => k (mDrop full a) L st g
  | .tableswitch _ _ _ _ => mSw full a sw k L st g
  | .lookupswitch _ _ => mSw full a sw k L st g
  | .getfield _ => mGet a b k nx L st g
  | .putfield _ => mPut a b k nx L st g
  | .getstatic _ => mGetS a b k nx L st g
  | .iaload => mAld X false k nx L st g
  | .baload => mAld X true k nx L st g
  | .iastore => mAst X false k nx L st g
  | .bastore => mAst X true k nx L st g
  | .arraylength => mLen X k nx L st g
  | .invokevirtual _ => mInv call a b d k nx L st g
  | .invokestatic _ => (match Nat.beq a 999 with
    | true => mCopy X k nx L st g
    | false => (match Nat.beq a 998 with
      | true => none
      | false => mInv call a b d k nx L st g))
  | .ireturn => mRetI rt st g
  | .areturn => (match Nat.beq rt 5 with
    | true => mRetR st g
    | false => none)
  | .return_ => (match Nat.beq rt 0 with
    | true => mRetV st g
    | false => none)
  | _ => none
def mStep (X : mX) (call : Nat → List mV → mG → mR) (rt : Nat) (full : List mT) (k : mK) (cur : List mT) (L : mL) (st : List mV) (g : mG) : mR := match cur with
  | [] => none
  | x :: nx => mIns X call rt full k x.2.1.1 x.2.2.1.1 x.2.2.1.2.1 x.2.2.1.2.2 x.2.2.2 nx L st g
def mRun (X : mX) (call : Nat → List mV → mG → mR) (rt : Nat) (full : List mT) : Nat → mK
  | 0 => fun _ _ _ _ => none
  | n + 1 => mStep X call rt full (mRun X call rt full n)
end MACH
