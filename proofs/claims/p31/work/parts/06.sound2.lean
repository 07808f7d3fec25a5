/-! branches, stack, cells, calls, ends -/
section STEP2
variable {ad : Nat → Nat → Nat} {oq : Value} {dC : Nat → ClassId} {dI : Nat → Nat → Nat} {aI aB : ClassId} {X : mX}
variable {p : Program} {l : Launch} {e : Env} {R : Room} {s : State} {m : MethodId} {args : Array Value} {below : List Frame} {meth : Method} {c : Code} {cells slots : Nat} {Q : State → Prop}
variable {cc : ByteArray} {own : String} {LL : List Nat} {nL : Nat} {cp : List (Nat × Nat × Nat × Nat × Nat)} {dat : Nat → mDat} {A : Nat → Prop}
variable {k : mK} {nx full : List mT} {pc : Nat} {L : mL} {st : List mV} {g : mG} {res : Option mV × mG}
theorem mS_if1 {cd : ClassFile.Cond} {off : Int} {a : Nat} (F : mFx ad oq dC dI aI aB X p s m args c cc own nL cp dat A) (hd : decode cc pc = .ok (.ifCond cd off, 3)) (ht : (pc : Int) + off = (a : Int)) (hn : mNx ad oq dC dI aI aB p l e R s m args below meth c cells slots Q LL nL A k nx res (pc + 3)) (hj : mNx ad oq dC dI aI aB p l e R s m args below meth c cells slots Q LL nL A k (mDrop full a) res a) (h : mIf1 cd (mDrop full a) k nx L st g = some res) (hOs : mOs st) (hOl : mOl L) (hLn : L.length = nL) : mWk ad oq dC dI aI aB p l e R s m args below meth c cells slots Q LL A pc L st g := by
  obtain ⟨hx, hb, -⟩ := F
  intro H locs ls hH hL
  unfold mIf1 at h
  split at h
  next x r =>
    have kn := fun (h : k nx L r g = some res) => hn L r g h (mOs_t hOs) hOl hLn H locs ls hH hL
    have kj := fun (h : k (mDrop full a) L r g = some res) => hj L r g h (mOs_t hOs) hOl hLn H locs ls hH hL
    split at h
    · exact lv_if_eq (tgt := a) hx hb hd ht (fun q => kj (by rw [if_pos q] at h; exact h)) (fun q => kn (by rw [if_neg q] at h; exact h))
    · exact lv_if_ne (tgt := a) hx hb hd ht (fun q => kj (by rw [if_neg q] at h; exact h)) (fun q => kn (by rw [if_pos q] at h; exact h))
    · exact lv_if_lt (tgt := a) hx hb hd ht (fun q => kj (by rw [if_pos q] at h; exact h)) (fun q => kn (by rw [if_neg q] at h; exact h))
    · exact lv_if_ge (tgt := a) hx hb hd ht (fun q => kj (by rw [if_pos q] at h; exact h)) (fun q => kn (by rw [if_neg q] at h; exact h))
    · exact lv_if_gt (tgt := a) hx hb hd ht (fun q => kj (by rw [if_pos q] at h; exact h)) (fun q => kn (by rw [if_neg q] at h; exact h))
    · exact lv_if_le (tgt := a) hx hb hd ht (fun q => kj (by rw [if_pos q] at h; exact h)) (fun q => kn (by rw [if_neg q] at h; exact h))
  next => cases h
theorem mS_if2 {cd : ClassFile.Cond} {off : Int} {a : Nat} (F : mFx ad oq dC dI aI aB X p s m args c cc own nL cp dat A) (hd : decode cc pc = .ok (.if_icmp cd off, 3)) (ht : (pc : Int) + off = (a : Int)) (hn : mNx ad oq dC dI aI aB p l e R s m args below meth c cells slots Q LL nL A k nx res (pc + 3)) (hj : mNx ad oq dC dI aI aB p l e R s m args below meth c cells slots Q LL nL A k (mDrop full a) res a) (h : mIf2 cd (mDrop full a) k nx L st g = some res) (hOs : mOs st) (hOl : mOl L) (hLn : L.length = nL) : mWk ad oq dC dI aI aB p l e R s m args below meth c cells slots Q LL A pc L st g := by
  obtain ⟨hx, hb, -⟩ := F
  intro H locs ls hH hL
  unfold mIf2 at h
  split at h
  next y x r =>
    have kn := fun (h : k nx L r g = some res) => hn L r g h (mOs_t (mOs_t hOs)) hOl hLn H locs ls hH hL
    have kj := fun (h : k (mDrop full a) L r g = some res) => hj L r g h (mOs_t (mOs_t hOs)) hOl hLn H locs ls hH hL
    split at h
    · exact lv_icmp_eq (tgt := a) hx hb hd ht (fun q => kj (by rw [if_pos q] at h; exact h)) (fun q => kn (by rw [if_neg q] at h; exact h))
    · exact lv_icmp_ne (tgt := a) hx hb hd ht (fun q => kj (by rw [if_neg q] at h; exact h)) (fun q => kn (by rw [if_pos q] at h; exact h))
    · exact lv_icmp_lt (tgt := a) hx hb hd ht (fun q => kj (by rw [if_pos q] at h; exact h)) (fun q => kn (by rw [if_neg q] at h; exact h))
    · exact lv_icmp_ge (tgt := a) hx hb hd ht (fun q => kj (by rw [if_pos q] at h; exact h)) (fun q => kn (by rw [if_neg q] at h; exact h))
    · exact lv_icmp_gt (tgt := a) hx hb hd ht (fun q => kj (by rw [if_pos q] at h; exact h)) (fun q => kn (by rw [if_neg q] at h; exact h))
    · exact lv_icmp_le (tgt := a) hx hb hd ht (fun q => kj (by rw [if_pos q] at h; exact h)) (fun q => kn (by rw [if_neg q] at h; exact h))
  next => cases h
/-- where a switch leads -/
def mSwT (dflt : Nat) (x : Int32) : List (Int32 × Nat) → Nat
  | [] => dflt
  | q :: sw => if x = q.1 then q.2 else mSwT dflt x sw
theorem mSwG_eq (dflt : Nat) (r : List mV) (x : Int32) : ∀ sw : List (Int32 × Nat), mSwG full dflt k L r g x sw = k (mDrop full (mSwT dflt x sw)) L r g
  | [] => rfl
  | q :: sw => by
    unfold mSwG mSwT
    split
    · rfl
    · exact mSwG_eq dflt r x sw
theorem mSwT_no (dflt : Nat) (x : Int32) : ∀ sw : List (Int32 × Nat), (∀ q ∈ sw, x ≠ q.1) → mSwT dflt x sw = dflt
  | [], _ => rfl
  | q :: sw, h => by
    unfold mSwT
    rw [if_neg (h q List.mem_cons_self)]
    exact mSwT_no dflt x sw (fun r hr => h r (List.mem_cons_of_mem _ hr))
theorem mSwT_yes (dflt : Nat) (x : Int32) : ∀ (sw : List (Int32 × Nat)) (n : Nat) (q : Int32 × Nat), sw[n]? = some q → x = q.1 → (∀ a r, a < n → sw[a]? = some r → x ≠ r.1) → mSwT dflt x sw = q.2
  | [], _, _, h, _, _ => by cases h
  | r :: sw, n, q, h, hx, hn => by
    unfold mSwT
    cases n with
    | zero => cases h; rw [if_pos hx]
    | succ n =>
      rw [if_neg (hn 0 r (Nat.succ_pos n) rfl)]
      exact mSwT_yes dflt x sw n q h hx (fun a z ha hz => hn (a + 1) z (Nat.succ_lt_succ ha) hz)
theorem mTsw_at {lo : Int} {offs : List Int} {n : Nat} (h : n < offs.length) : (mTsw pc lo offs)[n]? = some (Int32.ofInt (lo + (n : Int)), ((pc : Int) + offs.getD n 0).toNat) := by
  unfold mTsw
  rw [List.getElem?_map, List.getElem?_range h]
  rfl
theorem mOfI {z : Int} (h1 : -1000 ≤ z) (h2 : z ≤ 1000) : (Int32.ofInt z).toInt = z := by
  rw [Int32.toInt_ofInt]
  simp only [Int.bmod, Int32.size]
  omega
theorem mS_tsw {dflt lo hi : Int} {offs : Array Int} {a b d len : Nat} {sw : List (Int32 × Nat)} (F : mFx ad oq dC dI aI aB X p s m args c cc own nL cp dat A) (hd : decode cc pc = .ok (.tableswitch dflt lo hi offs, len)) (hck : mCkI LL nL cp pc (.tableswitch dflt lo hi offs) a b d sw = true) (hj : ∀ t, mNx ad oq dC dI aI aB p l e R s m args below meth c cells slots Q LL nL A k (mDrop full t) res t) (h : mSw full a sw k L st g = some res) (hOs : mOs st) (hOl : mOl L) (hLn : L.length = nL) : mWk ad oq dC dI aI aB p l e R s m args below meth c cells slots Q LL A pc L st g := by
  obtain ⟨hx, hb, -⟩ := F
  intro H locs ls hH hL
  unfold mCkI at hck
  simp only [Bool.and_eq_true, decide_eq_true_eq] at hck
  obtain ⟨⟨⟨⟨⟨⟨h1, h2⟩, h3⟩, h4⟩, h5⟩, h6⟩, h7⟩ := hck
  unfold mSw at h
  split at h
  next x r =>
    rw [mSwG_eq] at h
    have kj := hj _ L r g h (mOs_t hOs) hOl hLn H locs ls hH hL
    have hsz : offs.size = offs.toList.length := (Array.length_toList).symm
    by_cases hin : x.toInt < lo ∨ hi < x.toInt
    · have e : mSwT a x sw = a := by
        refine mSwT_no a x sw (fun q hq e => ?_)
        rw [h2] at hq
        obtain ⟨n, hn, rfl⟩ := List.mem_map.mp hq
        have hn' := List.mem_range.mp hn
        rw [e] at hin
        rw [show (Int32.ofInt (lo + (n : Int)), ((pc : Int) + offs.toList.getD n 0).toNat).1 = Int32.ofInt (lo + (n : Int)) from rfl, mOfI (by omega) (by omega)] at hin
        omega
      rw [e] at kj
      exact lv_tableOut hx hb hd hin h1 kj
    · have g1 : ¬ x.toInt < lo := fun q => hin (Or.inl q)
      have g2 : ¬ hi < x.toInt := fun q => hin (Or.inr q)
      have hn : (x.toInt - lo).toNat < offs.toList.length := by omega
      have hc : ((x.toInt - lo).toNat : Int) = x.toInt - lo := by omega
      have hxo : x = Int32.ofInt (lo + ((x.toInt - lo).toNat : Int)) := by
        rw [hc, show lo + (x.toInt - lo) = x.toInt by omega, Int32.ofInt_toInt]
      have e : mSwT a x sw = ((pc : Int) + offs.toList.getD (x.toInt - lo).toNat 0).toNat := by
        rw [h2]
        refine mSwT_yes a x _ _ _ (mTsw_at hn) hxo (fun b z hb hz e => ?_)
        rw [mTsw_at (by omega)] at hz
        cases hz
        have := congrArg Int32.toInt e
        rw [show (Int32.ofInt (lo + (b : Int)), ((pc : Int) + offs.toList.getD b 0).toNat).1 = Int32.ofInt (lo + (b : Int)) from rfl, mOfI (by omega) (by omega)] at this
        omega
      have ho : offs[(x.toInt - lo).toNat]? = some (offs.toList.getD (x.toInt - lo).toNat 0) := by
        rw [← Array.getElem?_toList, List.getElem?_eq_getElem hn, List.getD_eq_getElem?_getD, List.getElem?_eq_getElem hn]
        rfl
      have hp : 0 ≤ (pc : Int) + offs.toList.getD (x.toInt - lo).toNat 0 := by
        have := List.all_eq_true.mp h6 (offs.toList.getD (x.toInt - lo).toNat 0) (by rw [List.getD_eq_getElem?_getD, List.getElem?_eq_getElem hn]; exact List.getElem_mem hn)
        exact of_decide_eq_true this
      rw [e] at kj
      exact lv_tableIn hx hb hd g1 g2 ho (by omega) kj
  next => cases h
theorem mS_dup (F : mFx ad oq dC dI aI aB X p s m args c cc own nL cp dat A) (hd : decode cc pc = .ok (.dup, 1)) (hn : mNx ad oq dC dI aI aB p l e R s m args below meth c cells slots Q LL nL A k nx res (pc + 1)) (h : mDup k nx L st g = some res) (hOs : mOs st) (hOl : mOl L) (hLn : L.length = nL) : mWk ad oq dC dI aI aB p l e R s m args below meth c cells slots Q LL A pc L st g := by
  obtain ⟨hx, hb, -, -, -, -, -, -, hq⟩ := F
  intro H locs ls hH hL
  unfold mDup at h
  split at h
  next x r => exact lv_dup hx hb hd rfl (hn L (.inl x :: .inl x :: r) g h (mOs_c trivial hOs) hOl hLn H locs ls hH hL)
  next x r =>
    refine lv_dup hx hb hd ?_ (hn L (.inr (.inr x) :: .inr (.inr x) :: r) g h (mOs_c (mOs_h hOs) hOs) hOl hLn H locs ls hH hL)
    unfold mE
    dsimp only
    split
    · exact hq
    · rfl
  next => cases h
theorem mS_dup2 (F : mFx ad oq dC dI aI aB X p s m args c cc own nL cp dat A) (hd : decode cc pc = .ok (.dup2, 1)) (hn : mNx ad oq dC dI aI aB p l e R s m args below meth c cells slots Q LL nL A k nx res (pc + 1)) (h : mDup2 k nx L st g = some res) (hOs : mOs st) (hOl : mOl L) (hLn : L.length = nL) : mWk ad oq dC dI aI aB p l e R s m args below meth c cells slots Q LL A pc L st g := by
  obtain ⟨hx, hb, -, -, -, -, -, -, hq⟩ := F
  intro H locs ls hH hL
  unfold mDup2 at h
  split at h
  next y x r =>
    refine lv_dup2_11 hx hb hd rfl ?_ (hn L (.inl y :: .inr (.inr x) :: .inl y :: .inr (.inr x) :: r) g h (mOs_c trivial (mOs_c (mOs_h (mOs_t hOs)) hOs)) hOl hLn H locs ls hH hL)
    unfold mE
    dsimp only
    split
    · exact hq
    · rfl
  next => cases h
theorem mS_pop (F : mFx ad oq dC dI aI aB X p s m args c cc own nL cp dat A) (hd : decode cc pc = .ok (.pop, 1)) (hn : mNx ad oq dC dI aI aB p l e R s m args below meth c cells slots Q LL nL A k nx res (pc + 1)) (h : mPop k nx L st g = some res) (hOs : mOs st) (hOl : mOl L) (hLn : L.length = nL) : mWk ad oq dC dI aI aB p l e R s m args below meth c cells slots Q LL A pc L st g := by
  obtain ⟨hx, hb, -⟩ := F
  intro H locs ls hH hL
  unfold mPop at h
  split at h
  next x r => exact lv_pop hx hb hd rfl (hn L r g h (mOs_t hOs) hOl hLn H locs ls hH hL)
  next => cases h
end STEP2
