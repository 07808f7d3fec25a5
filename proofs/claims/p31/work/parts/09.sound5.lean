/-! copies, calls -/
section STEP5
variable {ad : Nat → Nat → Nat} {oq : Value} {dC : Nat → ClassId} {dI : Nat → Nat → Nat} {aI aB : ClassId} {X : mX}
variable {p : Program} {l : Launch} {e : Env} {R : Room} {s : State} {m : MethodId} {args : Array Value} {below : List Frame} {meth : Method} {c : Code} {cells slots : Nat} {Q : State → Prop}
variable {cc : ByteArray} {own : String} {LL : List Nat} {nL : Nat} {cp : List (Nat × Nat × Nat × Nat × Nat)} {dat : Nat → mDat} {A : Nat → Prop}
variable {k : mK} {nx full : List mT} {pc : Nat} {L : mL} {st : List mV} {g : mG} {res : Option mV × mG}
theorem mCat_le {r : List mV} (hq : oq.category = 1) : (((r.map (mE ad oq)).map fun v => v.category).sum) ≤ 2 * r.length := by
  induction r with
  | nil => exact Nat.le_refl _
  | cons v r ih =>
    have h1 : (mE ad oq v).category ≤ 2 := by
      rcases lv_cat (mE ad oq v) with z | z <;> omega
    simp only [List.map_cons, List.sum_cons, List.length_cons]
    omega
theorem mCat_wt {r : List mV} (hq : oq.category = 1) : (((r.map (mE ad oq)).map fun v => v.category).sum) ≤ mWts r := by
  induction r with
  | nil => exact Nat.le_refl _
  | cons v r ih =>
    rw [List.map_cons, List.map_cons, List.sum_cons]
    rcases v with x | x | ⟨i, j⟩
    · exact Nat.add_le_add (Nat.le_refl 1) ih
    · exact Nat.add_le_add (Nat.le_refl 2) ih
    · refine Nat.add_le_add ?_ ih
      show (mE ad oq (.inr (.inr (i, j)))).category ≤ 1
      unfold mE
      dsimp only
      split
      · rw [hq]; exact Nat.le_refl _
      · exact Nat.le_refl _
theorem mS_copy {i a b d : Nat} (F : mFx ad oq dC dI aI aB X p s m args c cc own nL cp dat A) (hR1 : 1 ≤ R.frames) (hR2 : 8 + (nativeFrameWords "java/lang/System" "arraycopy" 5 + 11) ≤ R.locals) (hw : Cond.native arraycopyName ∈ mGd ∧ Cond.static arraycopyName ∈ mGd ∧ Cond.initialized "java/lang/System" ∈ mGd) (hd : decode cc pc = .ok (.invokestatic i, 3)) (hck : cp.contains (5, i, a, b, d) = true) (hn : mNx ad oq dC dI aI aB p l e R s m args below meth c cells slots Q LL nL A k nx res (pc + 3)) (h : mCopy X k nx L st g = some res) (hOs : mOs st) (hOl : mOl L) (hLn : L.length = nL) : mWk ad oq dC dI aI aB p l e R s m args below meth c cells slots Q LL A pc L st g := by
  have hcp := mCp_in F hck
  obtain ⟨hx, hb, hml, hown, hts, hK, hRo, hcps, hq⟩ := F
  intro H locs ls hH hL
  obtain ⟨hP, hD, hS⟩ := id hH
  unfold mCopy at h
  split at h
  next n dp i2 j2 sp i1 j1 r =>
    split at h
    next n1 n2 hA1 hA2 =>
      split at h
      next hc =>
        obtain ⟨rfl, rfl, h3, h4, h5, h6, h7, h8⟩ := hc
        have O1 : mIn (i1, j1) := mOs_h (mOs_t (mOs_t (mOs_t (mOs_t hOs))))
        have O2 : mIn (i2, j2) := mOs_h (mOs_t (mOs_t hOs))
        have C1 := mIn_arr O1 h6
        have C2 := mIn_arr O2 h7
        obtain ⟨q1, a1, a2⟩ := mWs_at ad aI aB (g := g) C1
        obtain ⟨q2, b1, b2⟩ := mWs_at ad aI aB (g := g) C2
        rw [mEnt_arrI (q := (i1, j1)) h6 hA1] at a2
        rw [mEnt_arrI (q := (i2, j2)) h7 hA2] at b2
        simp only [List.map_cons]
        rw [mE_refIn (ad := ad) (oq := oq) C1, mE_refIn (ad := ad) (oq := oq) C2]
        have hcat := mCat_le (ad := ad) (r := r) hq
        have z0 : (0 : Int32).toNatClampNeg = 0 := by decide
        refine va_copyi hx hb (by rw [hml, ← hLn]; exact hL.1.1.symm) hown (hts _ hcp) (hts _ hw.1) (hts _ hw.2.1) (hts _ hw.2.2) hK hP hD hS q1 q2 0 0 a2 b2 rfl rfl rfl (by decide) (by decide) h3 (by rw [z0]; omega) (by rw [z0]; omega) (fun _ _ => rfl) hR1 (by omega) hd (fun H1 locs1 hP1 _ hS1 => ?_)
        refine hn L r _ h (mOs_t (mOs_t (mOs_t (mOs_t (mOs_t hOs))))) hOl hLn H1 locs1 ls (mHp_set (q := (i2, j2)) b1 ?_ (fun j' hj' => mA_other _ _ _ _ hj') hP1 hD hS1) hL
        rw [mEnt_arrI (q := (i2, j2)) h7 hA2, mU_same]
        congr 4
        funext q
        show va_cpy (g i1 j1) (g i2 j2) _ _ _ q = mA (g i2) j2 _ j2 q
        unfold va_cpy mA
        rw [if_pos rfl, z0]
        simp
      next => cases h
    next => cases h
  next => cases h
/-- behind a call -/
theorem mCallK {A1 : Nat → Prop} {H : Heap} {locs : List Loc} {ls : Array Slot} {st0 rest : List Value} {Qa : State → Outcome → State → Prop} {v : Option Value} {Po : Heap → Prop}
    (hr : va_Run p l e R s m args below meth c H locs cells slots 0 0 (F0 m pc ls st0) rest Qa A1) (hS : va_S A s.heap H locs) (hA : ∀ q, A1 q → A q)
    (hq : ∀ st oc t, Qa st oc t → oc = .returned v ∧ Po t.heap ∧ va_F A1 st t)
    (kk : ∀ (H1 : Heap) (locs1 : List Loc), Po H1 → va_S A s.heap H1 locs1 → W p l e R s m args below meth c H1 locs1 cells slots Q (F0 m (pc + 3) ls (v.toList ++ rest))) : W p l e R s m args below meth c H locs cells slots Q (F0 m pc ls st0) := by
  intro T hT X
  obtain ⟨v', st₀, t, T', L, h0, X', hL, e1, e2, hQ, st⟩ := hr T hT X
  obtain ⟨hv, hp, hz, hk⟩ := hq _ _ _ hQ
  cases hv
  rw [h0] at hz hk
  obtain ⟨t2, a1, b1⟩ := kk T'.heap (locs ++ L) (by rw [e1]; exact hp)
    ⟨Nat.le_trans hS.1 (by rw [e1]; exact hz), fun q h1 h2 => by rw [e1, hk q (Nat.lt_of_lt_of_le h1 hS.1) (fun z => h2 (hA q z))]; exact hS.2.1 q h1 h2, fun q hq => by
      rcases List.mem_append.mp hq with h | h
      · exact hS.2.2 q h
      · exact hA _ (hL q h)⟩ T' rfl X'
  exact ⟨t2, st t2 a1, b1⟩
theorem mGoodWs {q : mDat} (h : mMO q) : GoodIn mGd (Cond.code (mdY q) (mdB q) (mdL q) (mdR q) :: mGd) := fun w hw => by
  rcases List.mem_cons.mp hw with rfl | hw
  · exact mGd_good h.1
  · exact mGd_good hw
theorem mBlind {g : mG} {A1 : Nat → Prop} {vs : List Value} : FrameBlind (va_Pc vs (fun U => va_P (dC, dI) mCLS (mWs ad aI aB g) U.heap ∧ va_D A1 (mWs ad aI aB g) ∧ va_K (dC, dI) mCLS [(aI, .int), (aB, .byte)] U ∧ mRo ad oq X A1 U)) := by
  rintro a U g' mk ⟨q0, q1, q2, q3, q4⟩
  exact ⟨q0, q1, q2, va_K.moved (u := U) (U := U.calling g' mk a) (Vm.Alike.refl U.vm) q3, mRo_same ad oq X q4 rfl rfl⟩
theorem mArgs_eq {ci : Nat} {vs : List mV} (h : mArgOk ci vs = true) (hci : ci ≠ 99) : ∃ (i j : Nat) (r : List mV), vs = .inr (.inr (i, j)) :: r ∧ ((ci = 7 ∧ j = 24) ∨ (ci ≠ 7 ∧ mCls j = some ci)) := by
  unfold mArgOk at h
  rw [Bool.and_eq_true] at h
  obtain ⟨-, h⟩ := h
  split at h
  next => exact absurd rfl hci
  next =>
    split at h
    next i j r =>
      refine ⟨i, j, r, rfl, ?_⟩
      split at h
      next hb => exact Or.inl ⟨Nat.eq_of_beq_eq_true hb, Nat.eq_of_beq_eq_true h⟩
      next hb =>
        split at h
        next c0 hc0 =>
          have := Nat.eq_of_beq_eq_true h
          subst this
          exact Or.inr ⟨fun e => (by rw [e] at hb; cases hb), hc0⟩
        next => cases h
    next => cases h
theorem mClN_at : ∀ (ci : Nat) (r : vw_C), mCLS[ci]? = some r → mClN ci = r.1 := by
  intro ci r h
  rcases ci with _ | _ | _ | _ | _ | _ | _ | ci <;> first | (cases h; rfl) | (simp at h)
theorem mRecv {i j ci : Nat} {g : mG} {H : Heap} {locs : List Loc} (F : mFx ad oq dC dI aI aB X p s m args c cc own nL cp dat A) (hO : mIn (i, j)) (hH : mHp ad dC dI aI aB s A g H locs) (hj : (ci = 7 ∧ j = 24) ∨ (ci ≠ 7 ∧ mCls j = some ci)) :
    mE ad oq (.inr (.inr (i, j))) = .ref (ad i j) ∧ ∃ cell : Cell, H[ad i j]? = some cell ∧ cell.vm.isStatics = false ∧ s.vm.findClass (mClN ci) = some cell.cls := by
  obtain ⟨hx, hb, hml, hown, hts, hK, hRo, hcps, hq⟩ := F
  obtain ⟨hP, hD, hS⟩ := hH
  rcases hj with ⟨rfl, rfl⟩ | ⟨h7, hc⟩
  · have hi : i < 18 := by
      rcases hO with q | q
      · have z : 24 ≤ 23 := (mCL_99 _ q).2
        exact absurd z (by decide)
      · have : ∀ q ∈ mROL, q.2 = 24 → q.1 < 18 := by decide +kernel
        exact this _ q rfl
    refine ⟨mE_ref (by omega), ?_⟩
    obtain ⟨cell, h1, h2, h3, -⟩ := (hRo.2.1 i hi).1.kept hS.2.1
    exact ⟨cell, h1, h2, h3⟩
  · have hC := mIn_obj hO hc
    refine ⟨mE_refIn (ad := ad) (oq := oq) hC, ?_⟩
    obtain ⟨n, n1, n2⟩ := mWs_at ad aI aB (g := g) hC
    rw [mEnt_obj (q := (i, j)) hc] at n2
    obtain ⟨r, hr⟩ : ∃ r, mCLS[ci]? = some r := by
      have := mCL_cls _ hC ci hc
      exact ⟨_, List.getElem?_eq_getElem (l := mCLS) (by simpa using this)⟩
    rw [mClN_at ci r hr]
    exact va_recv hK hP hr n2
theorem mTD {st : List mV} {b : Nat} : st = (st.take b).reverse.reverse ++ st.drop b := by rw [List.reverse_reverse, List.take_append_drop]
theorem mOs_take {st : List mV} {b : Nat} (h : mOs st) : mOs (st.take b).reverse := fun v hv => h v (List.mem_of_mem_take (List.mem_reverse.mp hv))
theorem mOs_drop {st : List mV} {b : Nat} (h : mOs st) : mOs (st.drop b) := fun v hv => h v (List.mem_of_mem_drop hv)
theorem mS_inv {i a b d : Nat} {call : Nat → List mV → mG → mR} {vi : Bool} (F : mFx ad oq dC dI aI aB X p s m args c cc own nL cp dat A) (hCa : mCa ad oq dC dI aI aB X l R dat call) (hcs : cells + 0 ≤ R.cells ∧ slots + 0 ≤ R.slots) (hd : decode cc pc = .ok ((if vi then .invokevirtual i else .invokestatic i), 3)) (hck : cp.contains (2, i, a, b, d) = true) (hvi : vi = !(Nat.beq d 99)) (hn : mNx ad oq dC dI aI aB p l e R s m args below meth c cells slots Q LL nL A k nx res (pc + 3)) (h : mInv call a b d k nx L st g = some res) (hOs : mOs st) (hOl : mOl L) (hLn : L.length = nL) : mWk ad oq dC dI aI aB p l e R s m args below meth c cells slots Q LL A pc L st g := by
  have hcp := mCp_in F hck
  have FF := F
  obtain ⟨hx, hb, hml, hown, hts, hK, hRo, hcps, hq⟩ := F
  intro H locs ls hH hL
  obtain ⟨hP, hD, hS⟩ := id hH
  unfold mInv at h
  split at h
  next hok =>
    rw [Bool.and_eq_true, Bool.and_eq_true] at hok
    obtain ⟨hok, hlen4, hlb⟩ := hok
    have hlen4 : mWts (st.drop b) ≤ 8 := Nat.le_of_ble_eq_true hlen4
    obtain ⟨r, g1, hc, hk⟩ := mAns_some h
    have hOa : mOs (st.take b).reverse := mOs_take hOs
    obtain ⟨rm, rm1, rm2, rm3, rm4, hM, hMet⟩ := hCa a _ g r g1 hc hOa
    obtain ⟨m1, m2, m3, ⟨m4, m5, m6⟩, m7, m8, m9⟩ := id hM
    obtain ⟨p1, p2, p3⟩ := hcp
    dsimp only at p1 p2 p3
    have hb1 : (st.take b).length = b := by
      rw [List.length_take, Nat.min_eq_left (Nat.le_of_ble_eq_true hlb)]
    have hcat : 2 * (F0 m pc ls (st.map (mE ad oq))).monitorRoom + ((((st.drop b).map (mE ad oq))).map fun v => v.category).sum ≤ 8 := by
      refine lv_room ?_
      exact Nat.le_trans (mCat_wt (ad := ad) (r := st.drop b) hq) hlen4
    have hstk : st.map (mE ad oq) = ((st.take b).reverse.map (mE ad oq)).reverse ++ (st.drop b).map (mE ad oq) := by
      rw [← List.map_reverse, ← List.map_append, ← mTD]
    have hDA := mAd_D ad aI aB hD
    have hAA := mAd_A ad aI aB hD
    have pre : ∀ U : State, U.heap = H → s.WarmedH U.vm → va_P (dC, dI) mCLS (mWs ad aI aB g) U.heap ∧ va_D (mAd ad) (mWs ad aI aB g) ∧ va_K (dC, dI) mCLS [(aI, .int), (aB, .byte)] U ∧ mRo ad oq X (mAd ad) U :=
      fun U hU hW => ⟨by rw [hU]; exact hP, hDA, va_K.moved hW.alike hK, mRo_moved ad oq X hRo hS hAA hU hW⟩
    have kk : ∀ (H1 : Heap) (locs1 : List Loc), ((∀ v, r = some v → mOv v) ∧ va_P (dC, dI) mCLS (mWs ad aI aB g1) H1) → va_S A s.heap H1 locs1 → W p l e R s m args below meth c H1 locs1 cells slots Q (F0 m (pc + 3) ls ((r.map (mE ad oq)).toList ++ (st.drop b).map (mE ad oq))) := by
      intro H1 locs1 ⟨hrO, hP1⟩ hS1
      have e : (r.map (mE ad oq)).toList ++ (st.drop b).map (mE ad oq) = (r.toList ++ st.drop b).map (mE ad oq) := by
        cases r <;> rfl
      rw [e]
      refine hn L _ g1 hk (fun v hv => ?_) hOl hLn H1 locs1 ls ⟨hP1, mD_of ad aI aB hD, hS1⟩ hL
      rcases List.mem_append.mp hv with z | z
      · cases r with
        | none => cases z
        | some w => exact (List.mem_singleton.mp z) ▸ hrO w rfl
      · exact mOs_drop hOs v z
    have CF : CallFix p m c cc nL s args mGd own := ⟨hx, hb, hml, hown, hts⟩
    have hR : rm.frames + 1 ≤ R.frames ∧ 8 + (mdL (dat a) + 11) + rm.locals ≤ R.locals := ⟨rm1, by omega⟩
    have hsz : ls.size = nL := by rw [← hLn]; exact hL.1.1
    rw [hstk]
    cases hd99 : Nat.beq d 99 with
    | true =>
      have e99 : d = 99 := Nat.eq_of_beq_eq_true hd99
      rw [hd99] at hvi
      subst hvi
      have hcls : mdC (dat a) = 99 := by rw [← p2, e99]
      have hst : Cond.static (mdY (dat a)) ∈ mGd := by
        rcases m8 with ⟨-, z⟩ | ⟨z, -⟩
        · exact z
        · exact absurd hcls z
      have hn2 : ((st.take b).reverse.map (mE ad oq)).length = mdN (dat a) := by
        rw [List.length_map, List.length_reverse, hb1, p1, if_pos hcls]; rfl
      rcases p3 with p3 | p3
      · refine mCallK (Po := fun H1 => (∀ v, r = some v → mOv v) ∧ va_P (dC, dI) mCLS (mWs ad aI aB g1) H1) (va_runS CF hMet ⟨callB_of (mdN (dat a)) hts (mGoodWs hM) rfl rm3 rm4 (hts _ m7) (hts _ p3) ⟨m4, m5, m6⟩ hR, hts _ hst⟩ ⟨mBlind, fun U hU hW => ⟨rfl, pre U hU hW⟩⟩ rfl hn2 hsz rfl hcat hd hcs) hS hAA (fun _ _ _ z => z) kk
      · refine mCallK (Po := fun H1 => (∀ v, r = some v → mOv v) ∧ va_P (dC, dI) mCLS (mWs ad aI aB g1) H1) (va_runSN CF hMet ⟨va_cnB (mdN (dat a)) hts (mGoodWs hM) rfl rm3 rm4 (hRo.2.2.2.2.2.2 _ p3) (hts _ m7) ⟨m4, m5, m6⟩ hR, hts _ hst, trivial⟩ ⟨mBlind, fun U hU hW => ⟨rfl, pre U hU hW⟩⟩ rfl hn2 hsz rfl hcat hd hcs) hS hAA (fun _ _ _ z => z) kk
    | false =>
      have e99 : d ≠ 99 := fun z => by rw [z] at hd99; cases hd99
      rw [hd99] at hvi
      subst hvi
      have hcls : mdC (dat a) ≠ 99 := by rw [← p2]; exact e99
      obtain ⟨hst, hse, hcn⟩ : Cond.instanceMethod (mdY (dat a)) ∈ mGd ∧ Cond.selects (mdY (dat a)).cls (mdY (dat a)) (mdY (dat a)) ∈ mGd ∧ mClN (mdC (dat a)) = (mdY (dat a)).cls := by
        rcases m8 with ⟨z, -⟩ | ⟨-, z⟩
        · exact absurd z hcls
        · exact z
      obtain ⟨i0, j0, r0, hvs, hj0⟩ := mArgs_eq hok e99
      have hO0 : mIn (i0, j0) := by
        have := hOa (.inr (.inr (i0, j0))) (by rw [hvs]; exact List.mem_cons_self)
        exact this
      obtain ⟨eR, cell, c1, c2, c3⟩ := mRecv FF hO0 hH hj0
      rw [p2, hcn] at c3
      have hlr : r0.length = mdN (dat a) := by
        have := congrArg List.length hvs
        rw [List.length_reverse, hb1, p1, if_neg hcls, List.length_cons] at this
        omega
      have hn2 : (r0.map (mE ad oq)).length = mdN (dat a) := by rw [List.length_map]; exact hlr
      have est : ((st.take b).reverse.map (mE ad oq)).reverse ++ (st.drop b).map (mE ad oq) = (r0.map (mE ad oq)).reverse ++ .ref (ad i0 j0) :: (st.drop b).map (mE ad oq) := by
        rw [hvs, List.map_cons, eR, List.reverse_cons, List.append_assoc]; rfl
      have eargs : (Value.ref (ad i0 j0) :: r0.map (mE ad oq)).toArray = ((st.take b).reverse.map (mE ad oq)).toArray := by
        rw [hvs, List.map_cons, eR]
      rw [est]
      have hPre : PreV s H (mdY (dat a)).cls (ad i0 j0) (va_Pc ((st.take b).reverse.map (mE ad oq)) (fun U => va_P (dC, dI) mCLS (mWs ad aI aB g) U.heap ∧ va_D (mAd ad) (mWs ad aI aB g) ∧ va_K (dC, dI) mCLS [(aI, .int), (aB, .byte)] U ∧ mRo ad oq X (mAd ad) U)) (r0.map (mE ad oq)) :=
        ⟨mBlind, ⟨cell, c1, c2, c3⟩, fun U hU hW => ⟨eargs, pre U hU hW⟩⟩
      rcases p3 with p3 | p3
      · refine mCallK (Po := fun H1 => (∀ v, r = some v → mOv v) ∧ va_P (dC, dI) mCLS (mWs ad aI aB g1) H1) (va_runV (C := (mdY (dat a)).cls) CF hMet ⟨callB_of (mdN (dat a)) hts (mGoodWs hM) rfl rm3 rm4 (hts _ m7) (hts _ p3) ⟨m4, m5, m6⟩ hR, hts _ hst, hts _ hse⟩ hPre rfl hn2 hsz rfl hcat hd hcs) hS hAA (fun _ _ _ z => z) kk
      · refine mCallK (Po := fun H1 => (∀ v, r = some v → mOv v) ∧ va_P (dC, dI) mCLS (mWs ad aI aB g1) H1) (va_runVN (C := (mdY (dat a)).cls) CF hMet ⟨va_cnB (mdN (dat a)) hts (mGoodWs hM) rfl rm3 rm4 (hRo.2.2.2.2.2.2 _ p3) (hts _ m7) ⟨m4, m5, m6⟩ hR, hts _ hst, hts _ hse⟩ hPre rfl hn2 hsz rfl hcat hd hcs) hS hAA (fun _ _ _ z => z) kk
  next => cases h
end STEP5
