/-! Every call of the small machine that answers is a contract -/
section CALLS
variable {ad : Nat → Nat → Nat} {oq : Value} {dC : Nat → ClassId} {dI : Nat → Nat → Nat} {aI aB : ClassId} {X : mX} {l : Launch} {dat : Nat → mDat}
def mDatOk (dat : Nat → mDat) : Prop := ∀ a, mdT (dat a) ≠ [] → mMO (dat a) ∧ mTok (mdW (dat a)) (mdL (dat a)) (mdP (dat a)) (mdB (dat a)) (mdT (dat a)) ∧ mPc (mdT (dat a)) = 0 ∧ ∀ q ∈ mdP (dat a), mCpO dat (mdY (dat a)).cls q
theorem mE_one {vs : List mV} (hq : oq.category = 1) (h : vs.all mNoL = true) : ∀ w ∈ vs.map (mE ad oq), w.category = 1 := by
  intro w hw
  obtain ⟨v, hv, rfl⟩ := List.mem_map.mp hw
  have h1 := List.all_eq_true.mp h v hv
  rcases lv_cat (mE ad oq v) with z | z
  · exact z
  · obtain ⟨x, rfl⟩ := mE_cat ad oq hq z
    cases h1
theorem mLH_0 {nL : Nat} {LL : List Nat} {vs : List mV} (hq : oq.category = 1) (hl : vs.length ≤ nL) (h : vs.all mNoL = true) :
    mLH ad oq LL ((lg_sl (vs.map (mE ad oq)) ++ List.replicate (nL - (lg_sl (vs.map (mE ad oq))).length) Slot.unset).toArray) (mL0 nL vs) := by
  have h1 := mE_one (ad := ad) hq h
  have e := mSl_len _ h1
  have hlen : (mL0 nL vs).length = nL := by
    unfold mL0
    rw [List.length_append, List.length_map, List.length_replicate]
    omega
  have h2 := lv_entry (vs.map (mE ad oq)) (n := nL) (by rw [e, List.length_map]; exact hl)
  refine ⟨⟨by rw [hlen]; exact h2.1, h2.2.1, fun q hq2 => ?_⟩, fun n x hn => ?_⟩
  · obtain ⟨v, hv, e2⟩ := mPr_of ad oq hq2
    have h3 := mL0_at hv
    have h4 := mArgs_in (vs.map (mE ad oq)) 0 q.1 (mE ad oq v) h1 (by rw [List.getElem?_map, h3]; rfl)
    rw [Nat.zero_add] at h4
    rw [e2]
    exact h2.2.2 _ h4
  · have := List.all_eq_true.mp h _ (List.mem_of_getElem? (mL0_at hn))
    cases this
/-- a contract by a walk, of a class that has methods of the machine's own beside -/
theorem mt_ofWF {l : Launch} {y : MethodName} {ws ws' : List Cond} {rm : Room} {Pc : Array Value → State → Prop} {Qc : Array Value → State → Outcome → State → Prop} {mc ms : Nat} {free : Addr → Prop} {cc : ByteArray} {maxL : Nat} {ret : Option FieldType}
    (hy : plainFor y = true) (hw : ws = Cond.code y cc maxL ret :: ws')
    (body : ∀ p e s m args below meth c s₁, BodyLoose p l y (headSpec ws rm) cc maxL ret e s m args below meth c s₁ → c.maxLocals = maxL → Pc args s →
      W p l e (headSpec ws rm).room s m args below meth c s.heap [] 0 0 (MQ below Qc args s mc ms free) (entryFrame m args maxL)) : Met l y ws rm Pc Qc mc ms free := by
  refine MetFree.of_bodySF (code := cc) (maxLocals := maxL) (ret := ret) hy ?_ ?_
  · intro args s m h hn
    obtain ⟨meth, c, h1, h2, h3, h4, h5, h6, -, -⟩ := Cond.code_spec hn (atoms_spec (ws := ws) h _ (by rw [hw]; exact List.mem_cons_self))
    exact ⟨meth, c, h1, h2, h3, h4, h5, h6⟩
  · intro p e s m args below meth c s₁ B hml hP _
    have hh0 : s₁.heap = s.heap := by rw [B.state]; rfl
    obtain ⟨t, a1, o, b1, b2, b3⟩ := body p e s m args below meth c s₁ B hml hP s₁ hh0 (Stand.of_body B)
    exact ⟨t, o, a1, b1, b2, ⟨b3.1, b3.2⟩⟩
def mRm (d : Nat) : Room := { frames := d, cells := 0, slots := 0, locals := 40 * d }
set_option maxHeartbeats 1000000 in
theorem mCall_met (hfl : mFl) (hdat : mDatOk dat) (hq : oq.category = 1) (hw : Cond.native arraycopyName ∈ mGd ∧ Cond.static arraycopyName ∈ mGd ∧ Cond.initialized "java/lang/System" ∈ mGd) :
    ∀ (d : Nat) (a : Nat) (vs : List mV) (g : mG) (r : Option mV) (g' : mG), mCall dat X d a vs g = some (r, g') → mOs vs → mMO (dat a) ∧
      Met l (mdY (dat a)) (Cond.code (mdY (dat a)) (mdB (dat a)) (mdL (dat a)) (mdR (dat a)) :: mGd) (mRm d)
        (va_Pc (vs.map (mE ad oq)) (fun U => va_P (dC, dI) mCLS (mWs ad aI aB g) U.heap ∧ va_D (mAd ad) (mWs ad aI aB g) ∧ va_K (dC, dI) mCLS [(aI, .int), (aB, .byte)] U ∧ mRo ad oq X (mAd ad) U))
        (fun _ st oc t => oc = .returned (r.map (mE ad oq)) ∧ ((∀ v, r = some v → mOv v) ∧ va_P (dC, dI) mCLS (mWs ad aI aB g') t.heap) ∧ va_F (mAd ad) st t) 0 0 (mAd ad) := by
  intro d
  induction d with
  | zero => intro a vs g r g' h; cases h
  | succ d ih =>
    intro a vs g r g' h hOs
    unfold mCall at h
    split at h
    next hok =>
      rw [Bool.and_eq_true] at hok
      have hlen : vs.length ≤ mdL (dat a) := Nat.le_of_ble_eq_true hok.1
      obtain ⟨n, hrun⟩ := mEv_run h
      have hne : mdT (dat a) ≠ [] := fun e => by rw [e, mRun_nil] at hrun; cases hrun
      obtain ⟨hM, hTk, hpc, hCp⟩ := hdat a hne
      obtain ⟨m1, m2, m3, ⟨m4, m5, m6⟩, m7, m8, m9⟩ := id hM
      refine ⟨hM, ?_⟩
      refine mt_ofWF (cc := mdB (dat a)) (maxL := mdL (dat a)) (ret := mdR (dat a)) m3 rfl ?_
      intro p e s m args below meth c s₁ B hml hv
      obtain ⟨rfl, hP, hD, hK, hRo⟩ := hv
      have hlocks : meth.locks = false := B.notSynchronized
      have hts0 := atoms_spec (ws := Cond.code (mdY (dat a)) (mdB (dat a)) (mdL (dat a)) (mdR (dat a)) :: mGd) B.pre
      have F : mFx ad oq dC dI aI aB X p s m (vs.map (mE ad oq)).toArray c (mdB (dat a)) (mdY (dat a)).cls (mdL (dat a)) (mdP (dat a)) dat (mAd ad) :=
        ⟨B.exec, B.bytes, hml, findClass_of_methodNamed B.named, fun w hw => hts0 w (List.mem_cons_of_mem _ hw), hK, hRo, hCp, hq⟩
      rw [lg_entry_eq]
      have hr := B.returns
      have hCa : mCa ad oq dC dI aI aB X l (mRm (d + 1)) dat (mCall dat X d) := fun a2 vs2 g2 r2 g2' h2 ho2 => by
        obtain ⟨q1, q2⟩ := ih a2 vs2 g2 r2 g2' h2 ho2
        exact ⟨mRm d, Nat.le_refl _, by show 40 * d + 36 ≤ 40 * (d + 1); omega, rfl, rfl, q1, q2⟩
      have hrt : mRt ad oq dC dI aI aB p l e (mRm (d + 1)) s m (vs.map (mE ad oq)).toArray below meth c 0 0 (MQ below (fun _ st oc t => oc = .returned (r.map (mE ad oq)) ∧ ((∀ v, r = some v → mOv v) ∧ va_P (dC, dI) mCLS (mWs ad aI aB g') t.heap) ∧ va_F (mAd ad) st t) (vs.map (mE ad oq)).toArray s 0 0 (mAd ad)) (mAd ad) (mdB (dat a)) (mdK (dat a)) (r, g') := by
        intro g2 H locs ls pc ⟨hP2, hD2, hS2⟩
        refine ⟨fun v hdg hri => ?_, fun q hdg h5 hin h99 hri => ?_, fun hdg h0 hri => ?_⟩
        · have key : ∃ ty, mdR (dat a) = some ty ∧ narrow ty (.int v) = .int v ∧ r = some (.inl v) ∧ g2 = g' := by
            unfold mRetI at hri
            rcases m9 with ⟨k1, k2⟩ | ⟨k1, k2⟩ | ⟨k1, k2⟩ | ⟨k1, k2⟩ | ⟨k1, k2⟩ | ⟨k1, k2⟩ <;> rw [k1] at hri
            · cases hri
            · cases hri; exact ⟨_, k2, rfl, rfl, rfl⟩
            · have hri : (if v &&& 1 = v then some (some (mi v), g2) else none) = some (r, g') := hri
              split at hri
              next hv => cases hri; exact ⟨_, k2, (mNar_b hv).1, rfl, rfl⟩
              next => cases hri
            · have hri : (if v.toUInt32.toUInt16.toUInt32.toInt32 = v then some (some (mi v), g2) else none) = some (r, g') := hri
              split at hri
              next hv => cases hri; exact ⟨_, k2, congrArg Value.int hv, rfl, rfl⟩
              next => cases hri
            · have hri : (if v.toInt8.toInt32 = v then some (some (mi v), g2) else none) = some (r, g') := hri
              split at hri
              next hv => cases hri; exact ⟨_, k2, congrArg Value.int hv, rfl, rfl⟩
              next => cases hri
            · cases hri
          obtain ⟨ty, e1, e2, e3, e4⟩ := key
          subst e3; subst e4
          exact W.zret (v := v) B.exec B.bytes (hr.trans e1) e2 (fun t ht hW => ⟨rfl, ⟨fun w hw => by cases hw; trivial, by rw [ht]; exact hP2⟩, hS2.F ht⟩) hS2.2.2 hdg
        · cases hri
          have k2 : ∃ cn, mdR (dat a) = some (.object cn) := by
            rcases m9 with ⟨k1, k2⟩ | ⟨k1, k2⟩ | ⟨k1, k2⟩ | ⟨k1, k2⟩ | ⟨k1, k2⟩ | ⟨k1, k2⟩
            · rw [h5] at k1; cases k1
            · rw [h5] at k1; cases k1
            · rw [h5] at k1; cases k1
            · rw [h5] at k1; cases k1
            · rw [h5] at k1; cases k1
            · exact k2
          obtain ⟨i, j⟩ := q
          obtain ⟨cn, k2⟩ := k2
          refine W.aret B.exec B.bytes (hr.trans k2) (Or.inl ⟨_, rfl⟩) (Or.inr ⟨_, mE_ref h99⟩) (fun t ht hW => ⟨rfl, ⟨fun w hw => ?_, by rw [ht]; exact hP2⟩, hS2.F ht⟩) hS2.2.2 hdg
          cases hw
          exact hin
        · cases hri
          have k2 : mdR (dat a) = none := by
            rcases m9 with ⟨k1, k2⟩ | ⟨k1, k2⟩ | ⟨k1, k2⟩ | ⟨k1, k2⟩ | ⟨k1, k2⟩ | ⟨k1, k2⟩
            · exact k2
            · rw [h0] at k1; cases k1
            · rw [h0] at k1; cases k1
            · rw [h0] at k1; cases k1
            · rw [h0] at k1; cases k1
            · rw [h0] at k1; cases k1
          exact W.vret B.exec B.bytes (hr.trans k2) (fun t ht hW => ⟨rfl, ⟨fun w hw => (by cases hw), by rw [ht]; exact hP2⟩, hS2.F ht⟩) hS2.2.2 hdg
      have K := mRun_sound (R := mRm (d + 1)) (LL := mdW (dat a)) (full := mdT (dat a)) (res := (r, g')) (rt := mdK (dat a)) F hfl hCa ⟨Nat.le_refl _, Nat.le_refl _⟩ (Nat.succ_le_succ (Nat.zero_le d)) (by show 8 + (7 + 11) ≤ 40 * (d + 1); omega) hw hrt hTk n (mdT (dat a)) ⟨[], rfl⟩ (mL0 (mdL (dat a)) vs) [] g hrun (fun v hv => by cases hv) (fun k v hv => hOs v (List.mem_of_getElem? (mL0_at hv))) (by
        unfold mL0
        rw [List.length_append, List.length_map, List.length_replicate]
        omega) s.heap [] _ ⟨hP, hD, va_S.rf⟩ (mLH_0 hq hlen hok.2)
      rw [hpc] at K
      exact K
    next => cases h
end CALLS
