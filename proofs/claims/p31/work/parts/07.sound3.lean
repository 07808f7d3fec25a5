/-! cells -/
section STEP3
variable {ad : Nat → Nat → Nat} {oq : Value} {dC : Nat → ClassId} {dI : Nat → Nat → Nat} {aI aB : ClassId} {X : mX}
variable {p : Program} {l : Launch} {e : Env} {R : Room} {s : State} {m : MethodId} {args : Array Value} {below : List Frame} {meth : Method} {c : Code} {cells slots : Nat} {Q : State → Prop}
variable {cc : ByteArray} {own : String} {LL : List Nat} {nL : Nat} {cp : List (Nat × Nat × Nat × Nat × Nat)} {dat : Nat → mDat} {A : Nat → Prop}
variable {k : mK} {nx full : List mT} {pc : Nat} {L : mL} {st : List mV} {g : mG} {res : Option mV × mG}
theorem mLk_eq (pc : Nat) (dflt : Int) (a : Nat) (x : Int32) (hd : (pc : Int) + dflt = (a : Int)) : ∀ ps : List (Int × Int), (∀ q ∈ ps, 0 ≤ (pc : Int) + q.2 ∧ -1000 ≤ q.1 ∧ q.1 ≤ 1000) → (pc : Int) + Op.lookupswitch.offset ps dflt x.toInt = (mSwT a x (ps.map (fun q => (Int32.ofInt q.1, ((pc : Int) + q.2).toNat))) : Int)
  | [], _ => by rw [Op.lookupswitch.offset_nil]; exact hd
  | q :: ps, h => by
    obtain ⟨h1, h2, h3⟩ := h q List.mem_cons_self
    rw [Op.lookupswitch.offset_cons]
    show _ = ((if x = Int32.ofInt q.1 then ((pc : Int) + q.2).toNat else mSwT a x (ps.map (fun q => (Int32.ofInt q.1, ((pc : Int) + q.2).toNat))) : Nat) : Int)
    by_cases hx : x = Int32.ofInt q.1
    · have e : x.toInt = q.1 := by rw [hx, mOfI h2 h3]
      rw [if_pos hx, e]
      simp
      omega
    · have e : ¬ x.toInt = q.1 := fun z => hx (by rw [← z, Int32.ofInt_toInt])
      rw [if_neg hx, ← mLk_eq pc dflt a x hd ps (fun r hr => h r (List.mem_cons_of_mem _ hr))]
      simp [e, Ne.symm e, eq_comm]
theorem mS_lsw {dflt : Int} {ps : Array (Int × Int)} {a b d len : Nat} {sw : List (Int32 × Nat)} (F : mFx ad oq dC dI aI aB X p s m args c cc own nL cp dat A) (hd : decode cc pc = .ok (.lookupswitch dflt ps, len)) (hck : mCkI LL nL cp pc (.lookupswitch dflt ps) a b d sw = true) (hj : ∀ t, mNx ad oq dC dI aI aB p l e R s m args below meth c cells slots Q LL nL A k (mDrop full t) res t) (h : mSw full a sw k L st g = some res) (hOs : mOs st) (hOl : mOl L) (hLn : L.length = nL) : mWk ad oq dC dI aI aB p l e R s m args below meth c cells slots Q LL A pc L st g := by
  obtain ⟨hx, hb, -⟩ := F
  intro H locs ls hH hL
  unfold mCkI at hck
  simp only [Bool.and_eq_true, decide_eq_true_eq] at hck
  obtain ⟨⟨⟨h1, h2⟩, h3⟩, h4⟩ := hck
  unfold mSw at h
  split at h
  next x r =>
    rw [mSwG_eq] at h
    have kj := hj _ L r g h (mOs_t hOs) hOl hLn H locs ls hH hL
    refine lv_lookup hx hb hd h2 rfl ?_ kj
    rw [h3]
    refine mLk_eq pc dflt a x h1 ps.toList (fun q hq => ?_)
    have := List.all_eq_true.mp h4 q hq
    simp only [Bool.and_eq_true, decide_eq_true_eq] at this
    exact ⟨this.1.1, this.1.2, this.2⟩
  next => cases h
theorem mCp_in {q : Nat × Nat × Nat × Nat × Nat} {own : String} (F : mFx ad oq dC dI aI aB X p s m args c cc own nL cp dat A) (h : cp.contains q = true) : mCpO dat own q := F.2.2.2.2.2.2.2.1 q (List.contains_iff_mem.mp h)
/-- the words of the classes' fields are all in the tables -/
def mFl : Prop := ∀ (ci : Nat) (r : vw_C), mCLS[ci]? = some r → (∀ w ∈ u_ws r.1 r.2.1 r.2.2, w ∈ mGd) ∧ (∀ a, a < r.2.2 → ∀ b, b < r.2.2 → a ≠ b → (r.2.1 a).2.1 ≠ (r.2.1 b).2.1) ∧ ∃ ty : Nat → FieldType, (∀ k, k < r.2.2 → parseFieldDescriptor (r.2.1 k).2.2.1 = some (ty k)) ∧
  ∀ (j k : Nat), mCls j = some ci → k < r.2.2 → (∀ i, mRef i j k = none) → (ty k = (if mBoF j k then .boolean else .int)) ∧ ((r.2.1 k).2.2.2 = false ∨ (ci = 4 ∧ k = 0))
theorem mS_get {i a b d : Nat} (F : mFx ad oq dC dI aI aB X p s m args c cc own nL cp dat A) (hfl : mFl) (hd : decode cc pc = .ok (.getfield i, 3)) (hck : cp.contains (0, i, a, b, d) = true) (hn : mNx ad oq dC dI aI aB p l e R s m args below meth c cells slots Q LL nL A k nx res (pc + 3)) (h : mGet a b k nx L st g = some res) (hOs : mOs st) (hOl : mOl L) (hLn : L.length = nL) : mWk ad oq dC dI aI aB p l e R s m args below meth c cells slots Q LL A pc L st g := by
  have hcp := mCp_in F hck
  obtain ⟨hx, hb, hml, hown, hts, hK, hRo, hcps, hq⟩ := F
  intro H locs ls hH hL
  obtain ⟨hP, hD, hS⟩ := id hH
  unfold mGet at h
  split at h
  next i0 j0 r =>
    have hO := mOs_h hOs
    split at h
    next ha =>
      have ha : a = 7 := Nat.eq_of_beq_eq_true ha
      split at h
      next hj =>
        have hj : j0 = 24 := Nat.eq_of_beq_eq_true hj
        subst hj
        have hi : i0 < 18 := by
          rcases hO with q | q
          · have z : 24 ≤ 23 := (mCL_99 _ q).2
            exact absurd z (by decide)
          · have : ∀ q ∈ mROL, q.2 = 24 → q.1 < 18 := by decide +kernel
            exact this _ q rfl
        obtain ⟨-, f2, f3⟩ := hRo.2.1 i0 hi
        have e99 : i0 ≠ 99 := by omega
        split at h
        next =>
          have hw : Cond.fieldLink own i "java/lang/String" "value" "[B" ∈ mGd := by
            rcases hcp with ⟨-, -, q⟩ | ⟨-, q, -⟩ | ⟨r, q, -⟩
            · exact q
            · cases q
            · rw [ha] at q; cases q
          have kk := hn L (.inr (.inr (i0, 25)) :: r) g h (mOs_c (Or.inr (by
            have : ∀ n ∈ List.range 18, (n, 25) ∈ mROL := by decide +kernel
            exact this i0 (List.mem_range.mpr hi))) (mOs_t hOs)) hOl hLn H locs ls hH hL
          rw [List.map_cons, mE_ref e99] at kk ⊢
          exact vk_getf hx hb f3 hS hown (hts _ hw) (fun _ z => z) hd kk
        next hb0 =>
          have hw : Cond.fieldLink own i "java/lang/String" "coder" "B" ∈ mGd := by
            rcases hcp with ⟨-, q, -⟩ | ⟨-, -, q⟩ | ⟨r, q, -⟩
            · exact absurd q hb0
            · exact q
            · rw [ha] at q; cases q
          have kk := hn L (.inl 0 :: r) g h (mOs_c trivial (mOs_t hOs)) hOl hLn H locs ls hH hL
          rw [List.map_cons] at kk
          rw [List.map_cons, mE_ref e99]
          exact vk_getf hx hb f2 hS hown (hts _ hw) (fun _ z => z) hd kk
      next => cases h
    next ha =>
      have ha : a ≠ 7 := fun z => by rw [z] at ha; cases ha
      split at h
      next ci hci =>
        split at h
        next hca =>
          have hca : ci = a := Nat.eq_of_beq_eq_true hca
          subst hca
          obtain ⟨r0, w1, w2, w3⟩ : ∃ r, mCLS[ci]? = some r ∧ b < r.2.2 ∧ Cond.fieldLink own i (r.2.1 b).1 (r.2.1 b).2.1 (r.2.1 b).2.2.1 ∈ mGd := by
            rcases hcp with ⟨q, -⟩ | ⟨q, -⟩ | q
            · exact absurd q ha
            · exact absurd q ha
            · exact q
          have hCL : (i0, j0) ∈ mCL := mIn_obj hO hci
          obtain ⟨n, n1, n2⟩ := mWs_at ad aI aB (g := g) hCL
          rw [mEnt_obj (q := (i0, j0)) hci] at n2
          obtain ⟨f1, -, -⟩ := hfl ci r0 w1
          have hbn : b < mNF ci := by rw [mCLS_nf ci r0 w1]; exact w2
          have hv : ((List.range (mNF ci)).map (fun k => mFv ad g i0 j0 k))[b]? = some (mFv ad g i0 j0 b) := by
            rw [List.getElem?_map, List.getElem?_range hbn]; rfl
          rw [List.map_cons, mE_refIn (ad := ad) (oq := oq) hCL]
          refine va_get (D := (dC, dI)) (ci := ci) (v := mFv ad g i0 j0 b) (C := r0.1) (T := r0.2.1) (N := r0.2.2) hx hb hts f1 hown hK hP n n2 w1 b w2 (hts _ w3) (fun _ z => z) hv hd ?_
          split at h
          next q hq2 =>
            have hqin : q ∈ mCL := mCL_ref _ hCL b (List.mem_range.mpr (Nat.lt_of_lt_of_le hbn (by
              have : ∀ ci, mNF ci ≤ 21 := by
                intro ci; unfold mNF; split <;> decide
              exact this ci))) q hq2
            have kk := hn L (.inr (.inr q) :: r) g h (mOs_c (Or.inl hqin) (mOs_t hOs)) hOl hLn H locs ls hH hL
            rw [List.map_cons, mE_refIn (ad := ad) (oq := oq) hqin] at kk
            unfold mFv
            rw [hq2]
            exact kk
          next hq2 =>
            unfold mFv
            rw [hq2]
            dsimp only
            split at h
            next hbo =>
              rw [hbo]
              exact hn L (.inl (g i0 j0 b &&& 1) :: r) g h (mOs_c trivial (mOs_t hOs)) hOl hLn H locs ls hH hL
            next hbo =>
              rw [hbo]
              exact hn L (.inl (g i0 j0 b) :: r) g h (mOs_c trivial (mOs_t hOs)) hOl hLn H locs ls hH hL
        next => cases h
      next => cases h
  next => cases h
end STEP3
