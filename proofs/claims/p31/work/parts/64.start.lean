/-! THE CLAIM OUT OF ONE WALK OF THE LAW'S BODY. Your part is whole_start (and what it stands on); all else here is the same for every law, but numbers. -/
def R_law : String := "RingedLightsLaw"
def lw_P (b : Addr) (xs : List Int32) (args : Array Value) (s : State) : Prop := args = #[.ref b] ∧ s.IntsAt b xs ∧ xs.length ≤ 3584 ∧ (Jvm.Cond.and given_1 narrow_1).before args s = true
def lw_Q (_ : Array Value) (s : State) (o : Outcome) (t : State) : Prop := o = .returned (some (.int 1)) ∧ Framed s o t [] 94 5133
def lw_Z (below : List Frame) (a : Array Value) (s : State) : State → Prop := fun t => ∃ o, t.status = .running ∧ Ended t below o ∧ lw_Q a s o t
/-- the law's own end, with 1 on the stack, nothing written that was there before, its room as the claim has it -/
theorem lw_ret {p : Program} {l : Launch} {e : Env} {s : State} {m : MethodId} {below : List Frame} {meth : Method} {c : Code} {b : Nat} (hx : p.tables.exec = Jvm.exec) (hb : c.code = code) (hr : meth.sig.returnType = ret) (hlocks : meth.locks = false) {pc : Nat} {H : Heap} {ls : Array Slot} (hdg : decode code pc = .ok (.ireturn, 1)) : W p l e room_1 s m #[Value.ref b] below meth c H [] 94 5133 (lw_Z below #[Value.ref b] s) (F0 m pc ls [.int 1]) := by
  intro T hT X
  obtain ⟨fs, hret, hrun, hended, hW, hframe⟩ := X.leave (v := some (.int 1)) (hlocks := hlocks) (fun h => by rw [hr] at h; cases h)
  have hmeth' : T.vm.method? m = some meth := X.method'
  refine ⟨T.setFrames fs, ?_, .returned (some (.int 1)), hrun, hended, rfl, ⟨_, rfl⟩, hW, hframe⟩
  jvm_step X.here [X.here.top, hx, hb, hdg, hmeth', hr, ret, narrow_b1]
  (try refine ⟨rfl, ?_⟩); (try refine ⟨rfl, ?_⟩)
  first | (intro acts; rw [hret _ acts rfl rfl rfl]) | rw [hret _ _ rfl rfl rfl]
  exact Steps.refl _
/-- what holds at the law's entry: the machine, the code, the tables' words (any of lw_tbl by 'hts w (by decide +kernel)'), the script of L ints xs at the cell b, what the Statement gives of the start (any of its parts by flat_of_before) -/
def lw_At (p : Program) (s : State) (m : MethodId) (meth : Method) (c : Code) (b L : Nat) (xs : Nat → Int32) : Prop :=
  p.tables.exec = Jvm.exec ∧ c.code = code ∧ meth.sig.returnType = ret ∧ c.maxLocals = 4 ∧ s.vm.findClass R_law = some m.cls ∧ (∀ w ∈ lw_tbl, w.before #[Value.ref b] s = true) ∧ va_X b L xs s s.heap ∧ b < s.heap.size ∧ meth.locks = false ∧ (Jvm.Cond.and given_1 narrow_1).before #[Value.ref b] s = true

def adl (u : Nat → Nat → Nat) (sK sV st : Nat → Nat) (b : Nat) : Nat → Nat → Nat := fun i j => match j with | 24 => sK i | 25 => sV i | 26 => b | 27 => st 27 | 28 => st 28 | 29 => st 29 | j => u i j
set_option maxRecDepth 100000 in
theorem adl_eq {aI aB : ClassId} {u : Nat → Nat → Nat} {sK sV st : Nat → Nat} {b : Nat} : wRL aI aB u = wRL aI aB (adl u sK sV st b) := rfl
theorem adl_o {u : Nat → Nat → Nat} {sK sV st : Nat → Nat} {b : Nat} : (∀ n, n < 18 → adl u sK sV st b n 24 = sK n ∧ adl u sK sV st b n 25 = sV n) ∧ (∀ j, 27 ≤ j → j ≤ 29 → adl u sK sV st b 9 j = st j) ∧ adl u sK sV st b 8 26 = b := by
  refine ⟨fun n _ => ⟨rfl, rfl⟩, fun j h1 h2 => ?_, rfl⟩
  have : j = 27 ∨ j = 28 ∨ j = 29 := by omega
  rcases this with rfl | rfl | rfl <;> rfl
theorem dl_0 : decode code 0 = .ok (.new 7, 3) := by decide +kernel
theorem dl_3 : decode code 3 = .ok (.dup, 1) := by decide +kernel
theorem dl_4 : decode code 4 = .ok (.invokespecial 9, 3) := by decide +kernel
theorem dl_7 : decode code 7 = .ok (.astore_n 1, 1) := by decide +kernel
theorem dl_8 : decode code 8 = .ok (.new 10, 3) := by decide +kernel
theorem dl_11 : decode code 11 = .ok (.dup, 1) := by decide +kernel
theorem dl_12 : decode code 12 = .ok (.invokespecial 12, 3) := by decide +kernel
theorem dl_15 : decode code 15 = .ok (.astore_n 2, 1) := by decide +kernel
set_option maxHeartbeats 4000000 in
set_option maxRecDepth 100000 in
theorem law_start (hdat : mDatOk mD) (hw : Cond.native arraycopyName ∈ mGd ∧ Cond.static arraycopyName ∈ mGd ∧ Cond.initialized "java/lang/System" ∈ mGd) (hcp : ∀ q ∈ cp_L, mCpO mD "RingedLightsLaw" q) {c1 c2 : mC} (e1 : P_X6_begins g0M = some c1) (e2 : P_X6_starts c1 = some c2) {p : Program} {e : Env} {s : State} {m : MethodId} {below : List Frame} {meth : Method} {c : Code} (l : Launch) {b L : Nat} {xs : Nat → Int32} (hL : L ≤ 3584) (hev : ∃ g', mEv (xs, L) (mCall mD (xs, L) 12) 2 t_L_law (mDrop t_L_law 16) [some (mr 8 26), some (mr 6 18), some (mr 7 20), none] [] (mU g0 7 c2) = some (some (mi 1), g')) (C0 : lw_At p s m meth c b L xs) : W p l e room_1 s m #[Value.ref b] below meth c s.heap [] 0 0 (lw_Z below #[Value.ref b] s) (entryFrame m ([Value.ref b] : List Value).toArray 4) := by
  obtain ⟨hx, hb, hr, hml, hown, hts, hX, hbl, hlocks, hgv⟩ := id C0
  have hg : ∀ w ∈ mGd, w.before #[Value.ref b] s = true := fun w hw => hts w (List.mem_filter.mp hw).1
  obtain ⟨k0, i0, hKn0⟩ := u_known (C := RX0) (T := TX0) (N := 19) (n := 19) hg uw_0 (hg (.instantiable RX0 19) (mGd_in (i := 218) (by decide +kernel) rfl))
  obtain ⟨k1, i1, hKn1⟩ := u_known (C := RX1) (T := TX1) (N := 5) (n := 5) hg uw_1 (hg (.instantiable RX1 5) (mGd_in (i := 269) (by decide +kernel) rfl))
  obtain ⟨k2, i2, hKn2⟩ := u_known (C := RX2) (T := TX2) (N := 12) (n := 12) hg uw_2 (hg (.instantiable RX2 12) (mGd_in (i := 118) (by decide +kernel) rfl))
  obtain ⟨k3, i3, hKn3⟩ := u_known (C := RX3) (T := TX3) (N := 12) (n := 12) hg uw_3 (hg (.instantiable RX3 12) (mGd_in (i := 112) (by decide +kernel) rfl))
  obtain ⟨k4, i4, hKn4⟩ := u_known (C := RX4) (T := TX4) (N := 9) (n := 9) hg uw_4 (hg (.instantiable RX4 9) (mGd_in (i := 226) (by decide +kernel) rfl))
  obtain ⟨k5, i5, hKn5⟩ := u_known (C := RX5) (T := TX5) (N := 10) (n := 10) hg uw_5 (hg (.instantiable RX5 10) (mGd_in (i := 104) (by decide +kernel) rfl))
  obtain ⟨k6, i6, hKn6⟩ := u_known (C := RX6) (T := TX6) (N := 21) (n := 21) hg uw_6 (hg (.instantiable RX6 21) (mGd_in (i := 1121) (by decide +kernel) rfl))
  obtain ⟨dC, dI, hKc⟩ : ∃ (dC : Nat → ClassId) (dI : Nat → Nat → Nat), ∀ (k : Nat) (q : vw_C), mCLS[k]? = some q → u_Kn s q.1 q.2.1 q.2.2 (dC k) (dI k) := by
    refine ⟨fun k => match k with | 0 => k0 | 1 => k1 | 2 => k2 | 3 => k3 | 4 => k4 | 5 => k5 | _ => k6, fun k => match k with | 0 => i0 | 1 => i1 | 2 => i2 | 3 => i3 | 4 => i4 | 5 => i5 | _ => i6, ?_⟩
    intro k q hq
    match k, hq with
    | 0, hq => cases hq; exact hKn0
    | 1, hq => cases hq; exact hKn1
    | 2, hq => cases hq; exact hKn2
    | 3, hq => cases hq; exact hKn3
    | 4, hq => cases hq; exact hKn4
    | 5, hq => cases hq; exact hKn5
    | 6, hq => cases hq; exact hKn6
    | k + 7, hq => simp [mCLS] at hq
  obtain ⟨aI, kI, cI, f1, f2, f3⟩ := Cond.arrayClass_spec (hg (.arrayClass .int) (mGd_in (i := 175) (by decide +kernel) rfl))
  obtain ⟨aB, kB, cB, f4, f5, f6⟩ := Cond.arrayClass_spec (hg (.arrayClass .byte) (mGd_in (i := 174) (by decide +kernel) rfl))
  have hK : va_K (dC, dI) mCLS [(aI, .int), (aB, .byte)] s := by
    refine ⟨hKc, fun k q hq => ?_⟩
    match k, hq with
    | 0, hq => cases hq; exact ⟨fun n z => ⟨fun k h => (by cases h), kI, f2, cI, f3⟩, f1⟩
    | 1, hq => cases hq; exact ⟨fun n z => ⟨fun k h => (by cases h), kB, f5, cB, f6⟩, f4⟩
    | k + 2, hq => simp at hq
  obtain ⟨sK, sV, st, oq, hoq, hro⟩ := ro_start (A := fun q : Nat => s.heap.size ≤ q) hgv hts hX (Nat.lt_of_le_of_lt hL (by decide)) (fun a ha => Nat.not_le.mpr ha)
  generalize hAe : (fun q : Nat => s.heap.size ≤ q) = A at hro
  have hA : ∀ q : Nat, s.heap.size ≤ q → A q := fun _ h => by rw [← hAe]; exact h
  have hS : va_S A s.heap s.heap [] := va_S.rf
  have hP : va_P (dC, dI) mCLS ([] : va_W) s.heap := fun k q h => by simp at h
  have hD : va_D A ([] : va_W) := ⟨fun i j p q h => by simp at h, fun k q h => by simp at h⟩
  have hl := lv_entry ([.ref b]) (n := 4) (Nat.le_of_ble_eq_true rfl)
  rw [lg_entry_eq]
  generalize (lg_sl ([.ref b]) ++ List.replicate (4 - (lg_sl ([.ref b])).length) Slot.unset).toArray = ls at hl ⊢
  have hl : lv_has ls 4 [(0, .ref b)] := hl
  refine va_new (ci := 5) (fs := [.null, .null, .null, .null, .null, .null, .int 0, .int 0, .int 0, .int 0]) (C := RX5) (T := TX5) (N := 10) hx hb hg uw_5 tyX5 tyX5_ok hown (hg (.classLink R_law 7 RX5) (mGd_in (i := 103) (by decide +kernel) rfl)) (hg (.instantiable RX5 10) (mGd_in (i := 104) (by decide +kernel) rfl)) (hg (.initialized RX5) (mGd_in (i := 90) (by decide +kernel) rfl)) hK hP hD hS hA rfl (by intro j hj; rcases (show j = 0 ∨ j = 1 ∨ j = 2 ∨ j = 3 ∨ j = 4 ∨ j = 5 ∨ j = 6 ∨ j = 7 ∨ j = 8 ∨ j = 9 by omega) with rfl | rfl | rfl | rfl | rfl | rfl | rfl | rfl | rfl | rfl <;> rfl) (Nat.le_of_ble_eq_true rfl) (Nat.le_of_ble_eq_true rfl) dl_0 (fun q0 H hP hD hS => ?_)
  refine W.widen (k := 1) (n := 10) (by omega) (by omega) ?_
  refine lv_dup hx hb dl_3 rfl ?_
  have hPc := lst_P hP
  have hDc := lst_D hD
  have hFc := fr1 hD hS hA
  refine va_callv (va_runI (As := []) (rest := [.ref q0]) ⟨hx, hb, hml, hown, hg⟩ (ci_5 l dC dI aI aB q0 H.size) (cwI 0 hg gi_5 rfl rfl rfl (hg (.initialized RX5) (mGd_in (i := 90) (by decide +kernel) rfl)) (hg (.methodLink R_law 9 yi_5) (mGd_in (i := 105) (by decide +kernel) rfl)) (hg (.instanceMethod yi_5) (mGd_in (i := 106) (by decide +kernel) rfl)) rfl (by decide +kernel) ⟨Nat.le_of_ble_eq_true rfl, Nat.le_of_ble_eq_true rfl⟩) ⟨fun a U g mk q => by obtain ⟨q0, q1, qP, qK, qD⟩ := q; exact ⟨q0, q1, qP, va_K.moved (u := U) (U := U.calling g mk a) (Vm.Alike.refl U.vm) qK, qD⟩, fun U hU hW => ⟨rfl, by rw [hU], by rw [hU]; exact hPc, va_K.moved hW.alike hK, hDc.weaken (fun _ _ _ _ => trivial)⟩⟩ rfl rfl hl.1 rfl (lv_room (Nat.le_of_ble_eq_true rfl)) dl_4 ⟨Nat.le_of_ble_eq_true rfl, Nat.le_of_ble_eq_true rfl⟩) hS (fun q _ h => hFc q h) hFc (fun u t H1 locs ht hvm hw5 hB hz1 hk1 hS => ?_)
  obtain ⟨hP1, hD1⟩ := hB
  rw [ht] at hP1
  obtain ⟨hP, hD⟩ := jn hP hD hk1 hFc hP1 hD1
  generalize H1 = H at hP hS ⊢
  have hP : va_P (dC, dI) mCLS (wRL aI aB u) H := hP
  have hD : va_D A (wRL aI aB u) := hD
  refine W.widen (k := 90) (n := 2272) (by omega) (by omega) ?_
  refine lv_astore_n (lv' := [(1, .ref q0), (0, .ref b)]) hx hb dl_7 rfl hl (by decide) rfl (fun ls hl => ?_)
  refine va_new (ci := 6) (fs := [.null, .int 0, .int 0, .int 0, .int 0, .int 0, .null, .null, .int 0, .int 0, .int 0, .int 0, .int 0, .int 0, .int 0, .int 0, .int 0, .int 0, .int 0, .int 0, .int 0]) (C := RX6) (T := TX6) (N := 21) hx hb hg uw_6 tyX6 tyX6_ok hown (hg (.classLink R_law 10 RX6) (mGd_in (i := 1120) (by decide +kernel) rfl)) (hg (.instantiable RX6 21) (mGd_in (i := 1121) (by decide +kernel) rfl)) (hg (.initialized RX6) (mGd_in (i := 96) (by decide +kernel) rfl)) hK hP hD hS hA rfl (by intro j hj; rcases (show j = 0 ∨ j = 1 ∨ j = 2 ∨ j = 3 ∨ j = 4 ∨ j = 5 ∨ j = 6 ∨ j = 7 ∨ j = 8 ∨ j = 9 ∨ j = 10 ∨ j = 11 ∨ j = 12 ∨ j = 13 ∨ j = 14 ∨ j = 15 ∨ j = 16 ∨ j = 17 ∨ j = 18 ∨ j = 19 ∨ j = 20 by omega) with rfl | rfl | rfl | rfl | rfl | rfl | rfl | rfl | rfl | rfl | rfl | rfl | rfl | rfl | rfl | rfl | rfl | rfl | rfl | rfl | rfl <;> rfl) (Nat.le_of_ble_eq_true rfl) (Nat.le_of_ble_eq_true rfl) dl_8 (fun q8 H hP hD hS => ?_)
  refine W.widen (k := 91) (n := 2293) (by omega) (by omega) ?_
  refine lv_dup hx hb dl_11 rfl ?_
  rw [adl_eq (sK := sK) (sV := sV) (st := st) (b := b)] at hP hD
  have hu618 : adl u sK sV st b 6 18 = q0 := hw5
  have ho := adl_o (u := u) (sK := sK) (sV := sV) (st := st) (b := b)
  generalize adl u sK sV st b = ad at hP hD hu618 ho
  have hRo : mRo ad oq (xs, L) A s := hro ad ho.1 ho.2.1 ho.2.2
  have hP := rot_P hP
  have hD := rot_D hD
  have hSz : s.heap.size ≤ H.size := hS.1
  subst hAe
  refine va_callv (va_runI (As := []) (rest := [.ref q8]) ⟨hx, hb, hml, hown, hg⟩ (ci_6 hdat hw e1 e2 l dC dI aI aB ad oq hoq (xs, L) s.heap.size q8 H.size) (cwI 0 hg gi_6 rfl rfl rfl (hg (.initialized RX6) (mGd_in (i := 96) (by decide +kernel) rfl)) (hg (.methodLink R_law 12 yi_6) (mGd_in (i := 1122) (by decide +kernel) rfl)) (hg (.instanceMethod yi_6) (mGd_in (i := 1123) (by decide +kernel) rfl)) rfl (by decide +kernel) ⟨Nat.le_of_ble_eq_true rfl, Nat.le_of_ble_eq_true rfl⟩) ⟨fun a U g mk q => by obtain ⟨q0, q1, qP, qK, qD, qR, qN⟩ := q; exact ⟨q0, q1, qP, va_K.moved (u := U) (U := U.calling g mk a) (Vm.Alike.refl U.vm) qK, qD, mRo_same ad oq (xs, L) qR rfl rfl, qN⟩, fun U hU hW => ⟨rfl, by rw [hU], by rw [hU]; exact hP, va_K.moved hW.alike hK, hD, mRo_moved ad oq (xs, L) hRo hS (fun _ h => h) hU hW, by rw [hU]; exact hSz⟩⟩ rfl rfl hl.1 rfl (lv_room (Nat.le_of_ble_eq_true rfl)) dl_12 ⟨Nat.le_of_ble_eq_true rfl, Nat.le_of_ble_eq_true rfl⟩) hS (fun q _ h => h) (fun q h => h) (fun um t H1 locs ht hvm hw6 hB hz1 hk1 hS => ?_)
  obtain ⟨hP1, hD1⟩ := hB
  rw [ht] at hP1
  refine W.widen (k := 94) (n := 5133) (by omega) (by omega) ?_
  refine lv_astore_n (lv' := [(2, .ref q8), (1, .ref q0), (0, .ref b)]) hx hb dl_15 rfl hl (by decide) rfl (fun ls hl => ?_)
  have hRo2 : mRo (adm ad um) oq (xs, L) (fun q : Nat => s.heap.size ≤ q) s := mRo_cong hRo (adm_ro ad um)
  have hCa : mCa (adm ad um) oq dC dI aI aB (xs, L) l room_1 mD (mCall mD (xs, L) 12) := fun a2 vs2 g2 r2 g2' h2 ho2 => by
    obtain ⟨q1, q2⟩ := mCall_met (l := l) (ad := adm ad um) (oq := oq) (dC := dC) (dI := dI) (aI := aI) (aB := aB) mFl_ok hdat hoq hw 12 a2 vs2 g2 r2 g2' h2 ho2
    exact ⟨mRm 12, Nat.le_of_ble_eq_true rfl, Nat.le_of_ble_eq_true rfl, rfl, rfl, q1, q2⟩
  have F : mFx (adm ad um) oq dC dI aI aB (xs, L) p s m #[Value.ref b] c code "RingedLightsLaw" 4 cp_L mD (fun q : Nat => s.heap.size ≤ q) := ⟨hx, hb, hml, hown, hg, hK, hRo2, hcp, hoq⟩
  obtain ⟨g', hev⟩ := hev
  obtain ⟨n, hrun⟩ := mEv_run hev
  have hrt : mRt (adm ad um) oq dC dI aI aB p l e room_1 s m #[Value.ref b] below meth c 94 5133 (lw_Z below #[Value.ref b] s) (fun q : Nat => s.heap.size ≤ q) code 2 (some (mi 1), g') := by
    intro g2 H locs ls pc ⟨hP2, hD2, hS2⟩
    refine ⟨fun v hdg hri => ?_, fun q hdg h5 => absurd h5 (by decide), fun hdg h0 hri => absurd h0 (by decide)⟩
    have hri : (if v &&& 1 = v then some (some (mi v), g2) else none) = some (some (mi 1), g') := hri
    split at hri
    next =>
      cases hri
      exact va_forget hS2.2.2 (lw_ret hx hb hr hlocks hdg)
    next => cases hri
  have K := mRun_sound (R := room_1) (LL := []) (full := t_L_law) (res := (some (mi 1), g')) (rt := 2) F mFl_ok hCa ⟨Nat.le_refl _, Nat.le_refl _⟩ (Nat.le_of_ble_eq_true rfl) (Nat.le_of_ble_eq_true rfl) hw hrt tk_L n t_L_law ⟨[], rfl⟩ [some (mr 8 26), some (mr 6 18), some (mr 7 20), none] [] (mU g0 7 c2) hrun (fun v hv => by cases hv) (fun k v hv => by
    match k, hv with
    | 0, hv => cases hv; exact Or.inr (by decide +kernel)
    | 1, hv => cases hv; exact Or.inl (by decide +kernel)
    | 2, hv => cases hv; exact Or.inl (by decide +kernel)
    | 3, hv => cases hv
    | k + 4, hv => simp at hv) rfl H1 locs ls ⟨hP1, hD1, hS⟩ ⟨⟨hl.1, hl.2.1, fun q hq => ?_⟩, fun k x hk => ?_⟩
  · exact K
  · obtain ⟨v, h1, h2⟩ := mPr_of (adm ad um) oq hq
    obtain ⟨qa, qb⟩ := q
    dsimp only at h1 h2
    match qa, h1 with
    | 0, h1 =>
      cases h1
      subst h2
      rw [show mE (adm ad um) oq (mr 8 26) = .ref b from congrArg Value.ref ho.2.2]
      exact lv_at hl 2 rfl
    | 1, h1 =>
      cases h1
      subst h2
      rw [show mE (adm ad um) oq (mr 6 18) = .ref q0 from congrArg Value.ref hu618]
      exact lv_at hl 1 rfl
    | 2, h1 =>
      cases h1
      subst h2
      rw [show mE (adm ad um) oq (mr 7 20) = .ref q8 from congrArg Value.ref hw6]
      exact lv_at hl 0 rfl
    | 3, h1 => cases h1
    | k + 4, h1 => simp at h1
  · match k, hk with
    | 0, hk => cases hk
    | 1, hk => cases hk
    | 2, hk => cases hk
    | 3, hk => cases hk
    | k + 4, hk => simp at hk
