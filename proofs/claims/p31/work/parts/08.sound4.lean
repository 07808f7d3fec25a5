/-! stores, statics, rows -/
section STEP4
variable {ad : Nat → Nat → Nat} {oq : Value} {dC : Nat → ClassId} {dI : Nat → Nat → Nat} {aI aB : ClassId} {X : mX}
variable {p : Program} {l : Launch} {e : Env} {R : Room} {s : State} {m : MethodId} {args : Array Value} {below : List Frame} {meth : Method} {c : Code} {cells slots : Nat} {Q : State → Prop}
variable {cc : ByteArray} {own : String} {LL : List Nat} {nL : Nat} {cp : List (Nat × Nat × Nat × Nat × Nat)} {dat : Nat → mDat} {A : Nat → Prop}
variable {k : mK} {nx full : List mT} {pc : Nat} {L : mL} {st : List mV} {g : mG} {res : Option mV × mG}
theorem mRef_any {i j k0 : Nat} (h : mRef i j k0 = none) (i' : Nat) : mRef i' j k0 = none := by
  unfold mRef at h ⊢
  split at h <;> first | rfl | (split at h <;> first | rfl | cases h)
theorem mS_put {i a b d : Nat} (F : mFx ad oq dC dI aI aB X p s m args c cc own nL cp dat A) (hfl : mFl) (hd : decode cc pc = .ok (.putfield i, 3)) (hck : cp.contains (0, i, a, b, d) = true) (h7 : (Nat.blt a 7 && !(Nat.beq a 4 && Nat.beq b 0)) = true) (hn : mNx ad oq dC dI aI aB p l e R s m args below meth c cells slots Q LL nL A k nx res (pc + 3)) (h : mPut a b k nx L st g = some res) (hOs : mOs st) (hOl : mOl L) (hLn : L.length = nL) : mWk ad oq dC dI aI aB p l e R s m args below meth c cells slots Q LL A pc L st g := by
  have hcp := mCp_in F hck
  obtain ⟨hx, hb, hml, hown, hts, hK, hRo, hcps, hq⟩ := F
  intro H locs ls hH hL
  obtain ⟨hP, hD, hS⟩ := id hH
  rw [Bool.and_eq_true] at h7
  have ha7 : a < 7 := Nat.blt_eq.mp h7.1
  unfold mPut at h
  split at h
  next v i0 j0 r =>
    split at h
    next ci hci =>
      split at h
      next hca =>
        have hca : ci = a := Nat.eq_of_beq_eq_true hca
        subst hca
        split at h
        next => cases h
        next hr =>
          obtain ⟨r0, w1, w2, w3⟩ : ∃ r, mCLS[ci]? = some r ∧ b < r.2.2 ∧ Cond.fieldLink own i (r.2.1 b).1 (r.2.1 b).2.1 (r.2.1 b).2.2.1 ∈ mGd := by
            rcases hcp with ⟨q, -⟩ | ⟨q, -⟩ | q
            · have q : ci = 7 := q
              omega
            · have q : ci = 7 := q
              omega
            · exact q
          have hCL : (i0, j0) ∈ mCL := mIn_obj (mOs_h (mOs_t hOs)) hci
          obtain ⟨n, n1, n2⟩ := mWs_at ad aI aB (g := g) hCL
          rw [mEnt_obj (q := (i0, j0)) hci] at n2
          obtain ⟨f1, f2, ty, f3, f4⟩ := hfl ci r0 w1
          obtain ⟨f5, f6⟩ := f4 j0 b hci w2 (mRef_any hr)
          have hfin : (r0.2.1 b).2.2.2 = false := by
            rcases f6 with q | ⟨q1, q2⟩
            · exact q
            · have := h7.2
              rw [q1, q2] at this
              cases this
          have hbn : b < mNF ci := by rw [mCLS_nf ci r0 w1]; exact w2
          have key : narrow (ty b) (.int v) = .int v ∧ fits (ty b) (.int v) = true ∧ k nx L r (mU g i0 (mP (g i0) j0 b v)) = some res ∧ (mBoF j0 b = true → v &&& 1 = v) := by
            split at h
            next hbo =>
              split at h
              next hv =>
                rw [f5, if_pos hbo]
                exact ⟨(mNar_b hv).1, (mNar_b hv).2, h, fun _ => hv⟩
              next => cases h
            next hbo =>
              rw [f5, if_neg (by rw [hbo]; decide)]
              exact ⟨rfl, rfl, h, fun z => by rw [hbo] at z; cases z⟩
          obtain ⟨g1, g2, g3, g4⟩ := key
          rw [List.map_cons, List.map_cons, mE_refIn (ad := ad) (oq := oq) hCL]
          refine va_put (D := (dC, dI)) (ci := ci) (v := .int v) (ty := ty b) (C := r0.1) (T := r0.2.1) (N := r0.2.2) hx hb hts f1 ty f3 f2 hown hK hP hD hS n n2 w1 b w2 (hts _ w3) (fun _ z => z) hfin (f3 b w2) g1 g2 (by simpa using hbn) hd (fun H1 locs1 hP1 _ hS1 => ?_)
          refine hn L r _ g3 (mOs_t (mOs_t hOs)) hOl hLn H1 locs1 ls (mHp_set (q := (i0, j0)) n1 ?_ (fun j' hj' => mP_other _ _ _ _ _ hj') hP1 hD hS1) hL
          rw [mEnt_obj (q := (i0, j0)) hci]
          exact congrArg (fun z => Sum.inr (ci, z)) (mFv_set hr hbn g4)
      next => cases h
    next => cases h
  next => cases h
theorem mS_gets {i a b d : Nat} (F : mFx ad oq dC dI aI aB X p s m args c cc own nL cp dat A) (hd : decode cc pc = .ok (.getstatic i, 3)) (hck : cp.contains (1, i, a, b, d) = true) (hn : mNx ad oq dC dI aI aB p l e R s m args below meth c cells slots Q LL nL A k nx res (pc + 3)) (h : mGetS a b k nx L st g = some res) (hOs : mOs st) (hOl : mOl L) (hLn : L.length = nL) : mWk ad oq dC dI aI aB p l e R s m args below meth c cells slots Q LL A pc L st g := by
  have hcp := mCp_in F hck
  obtain ⟨hx, hb, hml, hown, hts, hK, hRo, hcps, hq⟩ := F
  intro H locs ls hH hL
  obtain ⟨hP, hD, hS⟩ := id hH
  obtain ⟨-, -, z1, z2, z3, -, z4⟩ := hRo
  unfold mGetS at h
  split at h
  next =>
    obtain ⟨h1, h2⟩ : (27 ≤ b ∧ b ≤ 29) ∧ (Cond.fieldLink own i "RingedLights" (mStN b) "[I" ∈ mGd ∨ Cond.fieldLinkNest own i "RingedLights" (mStN b) "[I" "RingedLights" ∈ mNest) := by
      rcases hcp with ⟨-, q⟩ | ⟨q, -⟩ | ⟨q, -⟩
      · exact q
      · cases q
      · cases q
    have hin : mIn (9, b) := by
      have : b = 27 ∨ b = 28 ∨ b = 29 := by omega
      rcases this with rfl | rfl | rfl <;> exact Or.inr (by decide +kernel)
    have kk := hn L (.inr (.inr (9, b)) :: st) g h (mOs_c hin hOs) hOl hLn H locs ls hH hL
    rw [List.map_cons, mE_ref (by decide)] at kk
    rcases h2 with h2 | h2
    · exact va_gets hx hb (z1 b h1) hS hown (hts _ h2) (fun _ z => z) hd kk
    · exact va_getsN hx hb (z1 b h1) hS hown (va_Nw.use (mNest_tab h2) (z4 _ h2)) (fun _ z => z) hd kk
  next =>
    have h2 : Cond.fieldLink own i "java/lang/String" "COMPACT_STRINGS" "Z" ∈ mGd := by
      rcases hcp with ⟨q, -⟩ | ⟨-, q⟩ | ⟨q, -⟩
      · cases q
      · exact q
      · cases q
    have kk := hn L (.inl 1 :: st) g h (mOs_c trivial hOs) hOl hLn H locs ls hH hL
    exact va_gets hx hb z2 hS hown (hts _ h2) (fun _ z => z) hd kk
  next =>
    have h2 : Cond.fieldLink own i "jdk/internal/util/Preconditions" "SIOOBE_FORMATTER" "Ljava/util/function/BiFunction;" ∈ mGd := by
      rcases hcp with ⟨q, -⟩ | ⟨q, -⟩ | ⟨-, q⟩
      · cases q
      · cases q
      · exact q
    have kk := hn L (.inr (.inr (99, 99)) :: st) g h (mOs_c (Or.inr (by decide +kernel)) hOs) hOl hLn H locs ls hH hL
    exact va_gets hx hb z3 hS hown (hts _ h2) (fun _ z => z) hd kk
  next => cases h
theorem mStr_lt : ∀ q ∈ mStrL, q.2.2.2 < 18 := by decide +kernel
theorem mS_ldc {i a b d : Nat} (F : mFx ad oq dC dI aI aB X p s m args c cc own nL cp dat A) (hd : decode cc pc = .ok (.ldc i, 2)) (hck : cp.contains (3, i, a, b, d) = true) (hn : mNx ad oq dC dI aI aB p l e R s m args below meth c cells slots Q LL nL A k nx res (pc + 2)) (h : k nx L (.inr (.inr (a, 24)) :: st) g = some res) (hOs : mOs st) (hOl : mOl L) (hLn : L.length = nL) : mWk ad oq dC dI aI aB p l e R s m args below meth c cells slots Q LL A pc L st g := by
  have hcp := mCp_in F hck
  obtain ⟨hx, hb, hml, hown, hts, hK, hRo, hcps, hq⟩ := F
  intro H locs ls hH hL
  obtain ⟨-, -, -, -, -, z5, -⟩ := hRo
  obtain ⟨tx, ht⟩ := hcp
  have ha : a < 18 := mStr_lt _ ht
  have hin : mIn (a, 24) := Or.inr (by
    have : ∀ n ∈ List.range 18, (n, 24) ∈ mROL := by decide +kernel
    exact this a (List.mem_range.mpr ha))
  have kk := hn L _ g h (mOs_c hin hOs) hOl hLn H locs ls hH hL
  rw [List.map_cons, mE_ref (by omega)] at kk
  have z5t := z5 _ ht
  exact va_ldcS hx hb hown z5t hd kk
theorem mS_ldc2 {i a b d : Nat} (F : mFx ad oq dC dI aI aB X p s m args c cc own nL cp dat A) (hd : decode cc pc = .ok (.ldc2_w i, 3)) (hck : cp.contains (4, i, a, b, d) = true) (hn : mNx ad oq dC dI aI aB p l e R s m args below meth c cells slots Q LL nL A k nx res (pc + 3)) (h : k nx L (.inr (.inl (Int64.ofNat a)) :: st) g = some res) (hOs : mOs st) (hOl : mOl L) (hLn : L.length = nL) : mWk ad oq dC dI aI aB p l e R s m args below meth c cells slots Q LL A pc L st g := by
  have hcp := mCp_in F hck
  obtain ⟨hx, hb, hml, hown, hts, hK, hRo, hcps, hq⟩ := F
  intro H locs ls hH hL
  exact lv_ldc2 hx hb hown (hts _ hcp) hd (hn L _ g h (mOs_c trivial hOs) hOl hLn H locs ls hH hL)
theorem mRd_RO {i j n : Nat} (h : 23 < j) : mRd X g i j n = mRO X i j n := by
  unfold mRd
  cases hb : Nat.ble j 23 with
  | true => exact absurd (Nat.le_of_ble_eq_true hb) (by omega)
  | false => rfl
theorem mRd_g {i j n : Nat} (h : j ≤ 23) : mRd X g i j n = g i j n := by
  unfold mRd
  rw [Nat.ble_eq_true_of_le h]
theorem mRO_j : ∀ q ∈ mROL, q.2 = 24 ∨ 25 ≤ q.2 := by decide +kernel
theorem mS_ald {bt : Bool} (F : mFx ad oq dC dI aI aB X p s m args c cc own nL cp dat A) (hd : decode cc pc = .ok ((if bt then .baload else .iaload), 1)) (hn : mNx ad oq dC dI aI aB p l e R s m args below meth c cells slots Q LL nL A k nx res (pc + 1)) (h : mAld X bt k nx L st g = some res) (hOs : mOs st) (hOl : mOl L) (hLn : L.length = nL) : mWk ad oq dC dI aI aB p l e R s m args below meth c cells slots Q LL A pc L st g := by
  obtain ⟨hx, hb, hml, hown, hts, hK, hRo, hcps, hq⟩ := F
  intro H locs ls hH hL
  obtain ⟨hP, hD, hS⟩ := id hH
  unfold mAld at h
  split at h
  next ix i0 j0 r =>
    have hO : mIn (i0, j0) := mOs_h (mOs_t hOs)
    split at h
    next n b hA =>
      split at h
      next hbt =>
        subst hbt
        split at h
        next => cases h
        next hix =>
          have kk := hn L _ g h (mOs_c trivial (mOs_t (mOs_t hOs))) hOl hLn H locs ls hH hL
          rw [List.map_cons] at kk
          rw [List.map_cons, List.map_cons]
          rcases hO with hC | hC
          · have hj : j0 ≤ 23 := (mCL_99 _ hC).2
            rw [mRd_g hj] at kk
            obtain ⟨n0, n1, n2⟩ := mWs_at ad aI aB (g := g) hC
            rw [mE_refIn (ad := ad) (oq := oq) hC]
            cases b
            · rw [mEnt_arrI (q := (i0, j0)) hj hA] at n2
              exact va_iald hx hb hK hP n0 0 n2 rfl hix hd kk
            · rw [mEnt_arrB (q := (i0, j0)) hj hA] at n2
              exact va_bald hx hb hK hP n0 1 n2 rfl hix hd kk
          · have hj : 25 ≤ j0 := by
              rcases mRO_j _ hC with q | q
              · have q : j0 = 24 := q
                subst q; cases hA
              · exact q
            have e99 : i0 ≠ 99 := by
              intro e
              have : ∀ q ∈ mROL, q.1 = 99 → q.2 = 99 := by decide +kernel
              have q : j0 = 99 := this _ hC e
              subst q
              cases hA
            rw [mRd_RO (by omega)] at kk
            rw [mE_ref e99]
            obtain ⟨cell, c1, c2, c3, c4, c5, c6, c7⟩ := (hRo.1 i0 j0 n b (Or.inr hC) hj hA).kept hS.2.1
            have hlt : ix.toNatClampNeg < n := Nat.not_le.mp fun q => hix (Or.inr q)
            cases b
            · exact W.iald hx hb c1 c2 c3 (fun q => q.elim (fun z => hix (Or.inl z)) (fun z => absurd z (by omega))) (c6 _ hlt) rfl rfl hd kk
            · exact W.bald hx hb c1 c2 c3 (fun q => q.elim (fun z => hix (Or.inl z)) (fun z => absurd z (by omega))) (c6 _ hlt) rfl rfl hd kk
      next => cases h
    next => cases h
  next => cases h
theorem mS_ast {bt : Bool} (F : mFx ad oq dC dI aI aB X p s m args c cc own nL cp dat A) (hd : decode cc pc = .ok ((if bt then .bastore else .iastore), 1)) (hn : mNx ad oq dC dI aI aB p l e R s m args below meth c cells slots Q LL nL A k nx res (pc + 1)) (h : mAst X bt k nx L st g = some res) (hOs : mOs st) (hOl : mOl L) (hLn : L.length = nL) : mWk ad oq dC dI aI aB p l e R s m args below meth c cells slots Q LL A pc L st g := by
  obtain ⟨hx, hb, hml, hown, hts, hK, hRo, hcps, hq⟩ := F
  intro H locs ls hH hL
  obtain ⟨hP, hD, hS⟩ := id hH
  unfold mAst at h
  split at h
  next v ix i0 j0 r =>
    have hO : mIn (i0, j0) := mOs_h (mOs_t (mOs_t hOs))
    split at h
    next n b hA =>
      split at h
      next hbt =>
        subst hbt
        split at h
        next => cases h
        next hix =>
          split at h
          next hj =>
            have hj : j0 ≤ 23 := Nat.le_of_ble_eq_true hj
            have hC : (i0, j0) ∈ mCL := mIn_arr hO hj
            obtain ⟨n0, n1, n2⟩ := mWs_at ad aI aB (g := g) hC
            rw [List.map_cons, List.map_cons, List.map_cons, mE_refIn (ad := ad) (oq := oq) hC]
            cases b
            · rw [mEnt_arrI (q := (i0, j0)) hj hA] at n2
              refine va_iast hx hb hK hP hD hS n0 0 n2 rfl hix hd (fun H1 locs1 hP1 _ hS1 => ?_)
              refine hn L r _ h (mOs_t (mOs_t (mOs_t hOs))) hOl hLn H1 locs1 ls (mHp_set (q := (i0, j0)) n1 ?_ (fun j' hj' => mP_other _ _ _ _ _ hj') hP1 hD hS1) hL
              rw [mEnt_arrI (q := (i0, j0)) hj hA, mU_same, mP_upd]
              rfl
            · rw [mEnt_arrB (q := (i0, j0)) hj hA] at n2
              refine va_bast hx hb hK hP hD hS n0 1 n2 rfl hix hd (fun H1 locs1 hP1 _ hS1 => ?_)
              refine hn L r _ h (mOs_t (mOs_t (mOs_t hOs))) hOl hLn H1 locs1 ls (mHp_set (q := (i0, j0)) n1 ?_ (fun j' hj' => mP_other _ _ _ _ _ hj') hP1 hD hS1) hL
              rw [mEnt_arrB (q := (i0, j0)) hj hA, mU_same, mP_upd, vp_nar_byte]
              rfl
          next => cases h
      next => cases h
    next => cases h
  next => cases h
theorem mS_len (F : mFx ad oq dC dI aI aB X p s m args c cc own nL cp dat A) (hd : decode cc pc = .ok (.arraylength, 1)) (hn : mNx ad oq dC dI aI aB p l e R s m args below meth c cells slots Q LL nL A k nx res (pc + 1)) (h : mLen X k nx L st g = some res) (hOs : mOs st) (hOl : mOl L) (hLn : L.length = nL) : mWk ad oq dC dI aI aB p l e R s m args below meth c cells slots Q LL A pc L st g := by
  obtain ⟨hx, hb, hml, hown, hts, hK, hRo, hcps, hq⟩ := F
  intro H locs ls hH hL
  obtain ⟨hP, hD, hS⟩ := id hH
  unfold mLen at h
  split at h
  next i0 j0 r =>
    have hO : mIn (i0, j0) := mOs_h hOs
    split at h
    next n b hA =>
      have kk := hn L _ g h (mOs_c trivial (mOs_t hOs)) hOl hLn H locs ls hH hL
      rw [List.map_cons] at kk
      rw [List.map_cons]
      rcases hO with hC | hC
      · have hj : j0 ≤ 23 := (mCL_99 _ hC).2
        obtain ⟨n0, n1, n2⟩ := mWs_at ad aI aB (g := g) hC
        rw [mE_refIn (ad := ad) (oq := oq) hC]
        cases b
        · rw [mEnt_arrI (q := (i0, j0)) hj hA] at n2
          exact va_alen hx hb hK hP n0 0 n2 (ty := .int) rfl rfl hd kk
        · rw [mEnt_arrB (q := (i0, j0)) hj hA] at n2
          exact va_alen hx hb hK hP n0 1 n2 (ty := .byte) rfl rfl hd kk
      · have hj : 25 ≤ j0 := by
          rcases mRO_j _ hC with q | q
          · have q : j0 = 24 := q
            subst q; cases hA
          · exact q
        have e99 : i0 ≠ 99 := by
          intro e
          have : ∀ q ∈ mROL, q.1 = 99 → q.2 = 99 := by decide +kernel
          have q : j0 = 99 := this _ hC e
          subst q
          cases hA
        rw [mE_ref e99]
        obtain ⟨cell, c1, c2, c3, c4, c5, c6, c7⟩ := (hRo.1 i0 j0 n b (Or.inr hC) hj hA).kept hS.2.1
        exact W.alen hx hb c1 c2 c5 rfl rfl hd kk
    next => cases h
  next => cases h
end STEP4
