/-! the first picture; the reference's constructor -/
def g0C : mC := fun j => match j with
  | 0 => fun k => match k with
    | 16 => -1
    | _ => 0
  | 8 => fun k => match k with
    | 1 => -1
    | 2 => 3
    | 4 => -1
    | _ => 0
  | 9 => fun k => match k with
    | 0 => 1
    | 1 => -1
    | 2 => 3
    | 4 => -1
    | _ => 0
  | _ => fun _ => 0
def g0M : mC := fun j => match j with
  | 20 => fun k => match k with
    | 15 => -1
    | 16 => -1
    | 17 => -1
    | _ => 0
  | _ => fun _ => 0
def g0 : mG := fun i => match i with
  | 0 => g0C
  | 1 => g0C
  | 2 => g0C
  | 3 => g0C
  | 4 => g0C
  | 7 => g0M
  | _ => fun _ _ => 0
def adm (ad : Nat → Nat → Nat) (u : Nat → Nat) : Nat → Nat → Nat := fun i j => match i with
  | 7 => (match Nat.ble j 23 with
    | true => u j
    | false => ad 7 j)
  | i => ad i j
theorem adm_ro (ad : Nat → Nat → Nat) (u : Nat → Nat) : ∀ i j, 24 ≤ j → adm ad u i j = ad i j := by
  intro i j hj
  unfold adm
  split
  next =>
    have : Nat.ble j 23 = false := by
      rw [Bool.eq_false_iff]
      intro h
      have := Nat.le_of_ble_eq_true h
      omega
    rw [this]
  next => rfl
theorem rot_P {D : va_G} {cl : List vw_C} {w : va_W} {x : Nat × va_E} {H : Heap} (h : va_P D cl (w ++ [x]) H) : va_P D cl (x :: w) H := by
  intro k q hk
  cases k with
  | zero => cases hk; exact h _ _ lst
  | succ k =>
    rw [List.getElem?_cons_succ] at hk
    exact h k q (by rw [List.getElem?_append_left (List.getElem?_eq_some_iff.mp hk).1]; exact hk)
theorem rot_D {A : Nat → Prop} {w : va_W} {x : Nat × va_E} (h : va_D A (w ++ [x])) : va_D A (x :: w) := by
  have key : ∀ (k : Nat) (q : Nat × va_E), (x :: w)[k]? = some q → ∃ n, (w ++ [x])[n]? = some q ∧ ((k = 0 ∧ n = w.length) ∨ (k = n + 1 ∧ n < w.length)) := by
    intro k q hk
    cases k with
    | zero => cases hk; exact ⟨_, lst, Or.inl ⟨rfl, rfl⟩⟩
    | succ k =>
      rw [List.getElem?_cons_succ] at hk
      have hl := (List.getElem?_eq_some_iff.mp hk).1
      exact ⟨k, by rw [List.getElem?_append_left hl]; exact hk, Or.inr ⟨rfl, hl⟩⟩
  refine ⟨fun i j p q hi hj e => ?_, fun k q hk => ?_⟩
  · obtain ⟨a, ha, h1⟩ := key i p hi
    obtain ⟨b, hb, h2⟩ := key j q hj
    have := h.1 a b p q ha hb e
    omega
  · obtain ⟨a, ha, _⟩ := key k q hk
    exact h.2 a q ha

theorem di6_0 : decode prog_8_method_1_code 0 = .ok (.aload_n 0, 1) := by decide +kernel
theorem di6_1 : decode prog_8_method_1_code 1 = .ok (.invokespecial 1, 3) := by decide +kernel
theorem di6_4 : decode prog_8_method_1_code 4 = .ok (.aload_n 0, 1) := by decide +kernel
theorem di6_5 : decode prog_8_method_1_code 5 = .ok (.sipush 1440, 3) := by decide +kernel
theorem di6_8 : decode prog_8_method_1_code 8 = .ok (.newarray .int, 2) := by decide +kernel
theorem di6_10 : decode prog_8_method_1_code 10 = .ok (.putfield 7, 3) := by decide +kernel
theorem di6_13 : decode prog_8_method_1_code 13 = .ok (.aload_n 0, 1) := by decide +kernel
theorem di6_14 : decode prog_8_method_1_code 14 = .ok (.sipush 700, 3) := by decide +kernel
theorem di6_17 : decode prog_8_method_1_code 17 = .ok (.newarray .byte, 2) := by decide +kernel
theorem di6_19 : decode prog_8_method_1_code 19 = .ok (.putfield 13, 3) := by decide +kernel
theorem di6_22 : decode prog_8_method_1_code 22 = .ok (.aload_n 0, 1) := by decide +kernel
theorem di6_23 : decode prog_8_method_1_code 23 = .ok (.sipush 700, 3) := by decide +kernel
theorem di6_26 : decode prog_8_method_1_code 26 = .ok (.newarray .byte, 2) := by decide +kernel
theorem di6_28 : decode prog_8_method_1_code 28 = .ok (.putfield 17, 3) := by decide +kernel
theorem di6_31 : decode prog_8_method_1_code 31 = .ok (.aload_n 0, 1) := by decide +kernel
theorem di6_32 : decode prog_8_method_1_code 32 = .ok (.iconst (-1), 1) := by decide +kernel
theorem di6_33 : decode prog_8_method_1_code 33 = .ok (.putfield 20, 3) := by decide +kernel
theorem di6_36 : decode prog_8_method_1_code 36 = .ok (.aload_n 0, 1) := by decide +kernel
theorem di6_37 : decode prog_8_method_1_code 37 = .ok (.iconst (-1), 1) := by decide +kernel
theorem di6_38 : decode prog_8_method_1_code 38 = .ok (.putfield 24, 3) := by decide +kernel
theorem di6_41 : decode prog_8_method_1_code 41 = .ok (.aload_n 0, 1) := by decide +kernel
theorem di6_42 : decode prog_8_method_1_code 42 = .ok (.iconst (-1), 1) := by decide +kernel
theorem di6_43 : decode prog_8_method_1_code 43 = .ok (.putfield 27, 3) := by decide +kernel
theorem di6_46 : decode prog_8_method_1_code 46 = .ok (.aload_n 0, 1) := by decide +kernel
theorem di6_47 : decode prog_8_method_1_code 47 = .ok (.invokevirtual 30, 3) := by decide +kernel
theorem di6_50 : decode prog_8_method_1_code 50 = .ok (.aload_n 0, 1) := by decide +kernel
theorem di6_51 : decode prog_8_method_1_code 51 = .ok (.invokevirtual 33, 3) := by decide +kernel
theorem di6_54 : decode prog_8_method_1_code 54 = .ok (.return_, 1) := by decide +kernel
def yi_6 : MethodName := ⟨RX6, "<init>", "()V"⟩
abbrev rm_6 : Room := { frames := 13, cells := 3, slots := 2840, locals := 523 }
theorem gi_6 : GoodIn mGd (Cond.code yi_6 prog_8_method_1_code 1 none :: mGd) := fun w hw => by
  rcases List.mem_cons.mp hw with rfl | hw
  · exact mGd_good (mGd_in (i := 1124) (by decide +kernel) rfl)
  · exact mGd_good hw
def cp_X6i : List (Nat × Nat × Nat × Nat × Nat) := [(2, 30, 169, 1, 6), (2, 33, 174, 1, 6)]
theorem co_X6i : ∀ q ∈ cp_X6i, mCpO mD "RingedLightsModel" q := List.forall_mem_cons.mpr ⟨⟨rfl, rfl, Or.inl (mGd_in (i := 1126) (by decide +kernel) rfl)⟩, List.forall_mem_cons.mpr ⟨⟨rfl, rfl, Or.inl (mGd_in (i := 1134) (by decide +kernel) rfl)⟩, fun _ h => absurd h List.not_mem_nil⟩⟩
def t_X6i : List mT := [(46, (.aload_n 0, 1), (0, 0, 0), []), (47, (.invokevirtual 30, 3), (169, 1, 6), []), (50, (.aload_n 0, 1), (0, 0, 0), []), (51, (.invokevirtual 33, 3), (174, 1, 6), []), (54, (.return_, 1), (0, 0, 0), [])]
theorem tk_X6i : mTok [] 1 cp_X6i prog_8_method_1_code t_X6i := ⟨by decide +kernel, by decide +kernel⟩
theorem ev_X6i {X : mX} {g : mG} {c1 c2 : mC} (h1 : P_X6_begins (g 7) = some c1) (h2 : P_X6_starts c1 = some c2) : mEv X (mCall mD X 12) 0 t_X6i t_X6i [some (mr 7 20)] [] g = some (none, mU g 7 c2) := by
  show mEv X (mCall mD X 12) 0 t_X6i (mDrop t_X6i 46) [some (mr 7 20)] [] g = _
  have e1 : mEv X (mCall mD X 12) 0 t_X6i (mDrop t_X6i 46) [some (mr 7 20)] [] g = mAns (mEv X (mCall mD X 12) 0 t_X6i) (mDrop t_X6i 50) [some (mr 7 20)] [] (mCall mD X 12 169 [mr 7 20] g) := (mEv_2 _ _ _ _).trans rfl
  refine Eq.trans e1 ?_
  rw [rr_X6_begins_at 10, h1]
  show mEv X (mCall mD X 12) 0 t_X6i (mDrop t_X6i 50) [some (mr 7 20)] [] (mU g 7 c1) = _
  have e2 : mEv X (mCall mD X 12) 0 t_X6i (mDrop t_X6i 50) [some (mr 7 20)] [] (mU g 7 c1) = mAns (mEv X (mCall mD X 12) 0 t_X6i) (mDrop t_X6i 54) [some (mr 7 20)] [] (mCall mD X 12 174 [mr 7 20] (mU g 7 c1)) := (mEv_2 _ _ _ _).trans rfl
  refine Eq.trans e2 ?_
  rw [rr_X6_starts 5, h2]
  show mEv X (mCall mD X 12) 0 t_X6i (mDrop t_X6i 54) [some (mr 7 20)] [] (mU g 7 c2) = _
  exact (mEv_1 _ _ _ _).trans rfl
def mob (um : Nat → Nat) : Nat × va_E := (um 20, .inr (6, [.ref (um 21), .int 0, .int 0, .int 0, .int 0, .int 0, .ref (um 22), .ref (um 23), .int 0, .int 0, .int 0, .int 0, .int 0, .int 0, .int 0, .int (-1), .int (-1), .int (-1), .int 0, .int 0, .int 0]))
set_option maxRecDepth 100000 in
theorem cr0_eq {ad : Nat → Nat → Nat} {aI aB : ClassId} : (mRow 0).map (fun q => (ad q.1 q.2, mEnt ad aI aB g0 q)) = wCR aI (ad 0) := rfl
set_option maxRecDepth 100000 in
theorem cr1_eq {ad : Nat → Nat → Nat} {aI aB : ClassId} : (mRow 1).map (fun q => (ad q.1 q.2, mEnt ad aI aB g0 q)) = wCR aI (ad 1) := rfl
set_option maxRecDepth 100000 in
theorem cr2_eq {ad : Nat → Nat → Nat} {aI aB : ClassId} : (mRow 2).map (fun q => (ad q.1 q.2, mEnt ad aI aB g0 q)) = wCR aI (ad 2) := rfl
set_option maxRecDepth 100000 in
theorem cr3_eq {ad : Nat → Nat → Nat} {aI aB : ClassId} : (mRow 3).map (fun q => (ad q.1 q.2, mEnt ad aI aB g0 q)) = wCR aI (ad 3) := rfl
set_option maxRecDepth 100000 in
theorem cr4_eq {ad : Nat → Nat → Nat} {aI aB : ClassId} : (mRow 4).map (fun q => (ad q.1 q.2, mEnt ad aI aB g0 q)) = wCR aI (ad 4) := rfl
set_option maxRecDepth 100000 in
theorem pre_eq {ad : Nat → Nat → Nat} {um : Nat → Nat} {aI aB : ClassId} : ([(7, 20), (6, 18), (5, 16), (5, 19), (5, 1), (5, 2), (5, 3), (5, 4), (5, 5), (5, 6), (5, 7)] : List (Nat × Nat)).map (fun q => (adm ad um q.1 q.2, mEnt (adm ad um) aI aB g0 q)) = mob um :: (ad 6 18, .inr (5, [.ref (ad 5 16), .ref (ad 0 0), .ref (ad 1 0), .ref (ad 2 0), .ref (ad 3 0), .ref (ad 4 0), .int 0, .int 0, .int 0, .int 0])) :: wRD aI aB (ad 5) := rfl
set_option maxRecDepth 100000 in
theorem post_eq {ad : Nat → Nat → Nat} {um : Nat → Nat} {aI aB : ClassId} : ([(7, 21), (7, 22), (7, 23)] : List (Nat × Nat)).map (fun q => (adm ad um q.1 q.2, mEnt (adm ad um) aI aB g0 q)) = [(um 21, .inl (aI, ni 1440)), (um 22, .inl (aB, ni 700)), (um 23, .inl (aB, ni 700))] := rfl
theorem w0_eq {ad : Nat → Nat → Nat} {um : Nat → Nat} {aI aB : ClassId} : mob um :: (wRL aI aB ad ++ [(um 21, .inl (aI, ni 1440))] ++ [(um 22, .inl (aB, ni 700))] ++ [(um 23, .inl (aB, ni 700))]) = mWs (adm ad um) aI aB g0 := by
  unfold mWs mCL
  rw [List.map_append, List.map_append, List.map_append, List.map_append, List.map_append, List.map_append, pre_eq, post_eq, cr0_eq, cr1_eq, cr2_eq, cr3_eq, cr4_eq]
  show _ = mob um :: (ad 6 18, _) :: (wRD aI aB (ad 5) ++ (wCR aI (ad 0) ++ (wCR aI (ad 1) ++ (wCR aI (ad 2) ++ (wCR aI (ad 3) ++ (wCR aI (ad 4) ++ _))))))
  unfold wRL
  simp only [List.append_assoc, List.cons_append, List.nil_append]
set_option maxHeartbeats 4000000 in
set_option maxRecDepth 100000 in
theorem ci_6 (hdat : mDatOk mD) (hw : Cond.native arraycopyName ∈ mGd ∧ Cond.static arraycopyName ∈ mGd ∧ Cond.initialized "java/lang/System" ∈ mGd) {c1 c2 : mC} (e1 : P_X6_begins g0M = some c1) (e2 : P_X6_starts c1 = some c2) (l : Launch) (dC : Nat → ClassId) (dI : Nat → Nat → Nat) (aI aB : ClassId) (ad : Nat → Nat → Nat) (oq : Value) (hq : oq.category = 1) (X : mX) (N0 h0 sz : Nat) : Met l yi_6 (Cond.code yi_6 prog_8_method_1_code 1 none :: mGd) rm_6 (va_Pc [.ref h0] (fun U => U.heap.size = sz ∧ va_P (dC, dI) mCLS ((h0, .inr (6, [.null, .int 0, .int 0, .int 0, .int 0, .int 0, .null, .null, .int 0, .int 0, .int 0, .int 0, .int 0, .int 0, .int 0, .int 0, .int 0, .int 0, .int 0, .int 0, .int 0])) :: wRL aI aB ad) U.heap ∧ va_K (dC, dI) mCLS [(aI, .int), (aB, .byte)] U ∧ va_D (fun q : Nat => N0 ≤ q) ((h0, .inr (6, [.null, .int 0, .int 0, .int 0, .int 0, .int 0, .null, .null, .int 0, .int 0, .int 0, .int 0, .int 0, .int 0, .int 0, .int 0, .int 0, .int 0, .int 0, .int 0, .int 0])) :: wRL aI aB ad) ∧ mRo ad oq X (fun q : Nat => N0 ≤ q) U ∧ N0 ≤ U.heap.size)) (va_Qv (fun u : Nat → Nat => u 20 = h0) (fun u t => va_P (dC, dI) mCLS (mWs (adm ad u) aI aB (mU g0 7 c2)) t.heap ∧ va_D (fun q : Nat => N0 ≤ q) (mWs (adm ad u) aI aB (mU g0 7 c2))) (fun q : Nat => N0 ≤ q)) 3 2840 (fun q : Nat => N0 ≤ q) := by
  refine Met.ofW (cc := prog_8_method_1_code) (maxL := 1) (ret := none) (by decide) rfl ?_
  intro p e s m args below meth c s₁ B hml hv
  obtain ⟨rfl, hsz, hP, hK, hD, hRo, hN⟩ := hv
  have hx := B.exec
  have hb := B.bytes
  have hr := B.returns
  have hts := atoms_spec (ws := Cond.code yi_6 prog_8_method_1_code 1 none :: mGd) B.pre
  have hg : ∀ w ∈ mGd, w.before _ s = true := fun w hw => hts w (List.mem_cons_of_mem _ hw)
  have hown : s.vm.findClass RX6 = some m.cls := findClass_of_methodNamed B.named
  have hlocks := B.notSynchronized
  have hin : meth.name = "<init>" := (name_of_methodNamed B.named B.method).1
  subst hsz
  generalize hAe : (fun q : Nat => N0 ≤ q) = A at hD hRo ⊢
  have hA : ∀ q : Nat, s.heap.size ≤ q → A q := fun q h => by rw [← hAe]; exact Nat.le_trans hN h
  have hS : va_S A s.heap s.heap [] := va_S.rf
  have hl := lv_entry ([.ref h0]) (n := 1) (Nat.le_of_ble_eq_true rfl)
  rw [lg_entry_eq]
  generalize (lg_sl ([.ref h0]) ++ List.replicate (1 - (lg_sl ([.ref h0])).length) Slot.unset).toArray = ls at hl ⊢
  have hl : lv_has ls 1 [(0, .ref h0)] := hl
  have hP : va_P (dC, dI) mCLS ((h0, .inr (6, [.null, .int 0, .int 0, .int 0, .int 0, .int 0, .null, .null, .int 0, .int 0, .int 0, .int 0, .int 0, .int 0, .int 0, .int 0, .int 0, .int 0, .int 0, .int 0, .int 0])) :: (wRL aI aB ad)) s.heap := hP
  have hD : va_D A ((h0, .inr (6, [.null, .int 0, .int 0, .int 0, .int 0, .int 0, .null, .null, .int 0, .int 0, .int 0, .int 0, .int 0, .int 0, .int 0, .int 0, .int 0, .int 0, .int 0, .int 0, .int 0])) :: (wRL aI aB ad)) := hD
  refine lv_aload_n hx hb di6_0 rfl (lv_at hl 0 rfl) ?_
  refine W.objInit hx hb hown (hg (.methodLink RX6 1 objectInit) (mGd_in (i := 1125) (by decide +kernel) rfl)) (hg (.instanceMethod objectInit) (mGd_in (i := 109) (by decide +kernel) rfl)) (hg (.code objectInit ⟨#[0xb1]⟩ 1 none) (mGd_in (i := 110) (by decide +kernel) rfl)) rfl (by rw [hml]; exact hl.1) rfl di6_1 (Nat.le_of_ble_eq_true rfl) (Nat.le_of_ble_eq_true rfl) ?_
  refine W.eq (g2 := F0 m 4 ls []) rfl ?_
  refine lv_aload_n hx hb di6_4 rfl (lv_at hl 0 rfl) ?_
  refine lv_sipush (v := 1440) hx hb di6_5 (by decide) ?_
  refine va_newa (atype := .int) (ty := .int) (N' := 1440) (a0 := ni 1440) hx hb (hg (.arrayClass .int) (mGd_in (i := 175) (by decide +kernel) rfl)) rfl hK hP hD hS hA (fun _ => rfl) (by decide) (by decide) (Nat.le_of_ble_eq_true rfl) (Nat.le_of_ble_eq_true rfl) (Nat.le_of_ble_eq_true rfl) di6_8 (fun q8 cA H hK hP hD hS => ?_)
  have hcA := aI_eq hK
  subst hcA
  have hK := hK.sub (tys' := [(_, .int), (_, .byte)]) [0, 1] rfl
  have hP : va_P (dC, dI) mCLS ((h0, .inr (6, [.null, .int 0, .int 0, .int 0, .int 0, .int 0, .null, .null, .int 0, .int 0, .int 0, .int 0, .int 0, .int 0, .int 0, .int 0, .int 0, .int 0, .int 0, .int 0, .int 0])) :: ((wRL aI aB ad) ++ [(q8, .inl (aI, ni 1440))])) H := hP
  have hD : va_D A ((h0, .inr (6, [.null, .int 0, .int 0, .int 0, .int 0, .int 0, .null, .null, .int 0, .int 0, .int 0, .int 0, .int 0, .int 0, .int 0, .int 0, .int 0, .int 0, .int 0, .int 0, .int 0])) :: ((wRL aI aB ad) ++ [(q8, .inl (aI, ni 1440))])) := hD
  refine W.widen (k := 1) (n := 1440) (by omega) (by omega) ?_
  refine va_putF (D := (dC, dI)) (ci := 6) (v := .ref q8) (ty := (.array .int)) (C := RX6) (T := TX6) (N := 21) hx hb hg uw_6 tyX6 tyX6_ok nmX6 hown hK hP hD hS 0 rfl rfl 0 (by decide) (hg (.fieldLink RX6 7 "RingedLightsModel" "all" "[I") (mGd_in (i := 1177) (by decide +kernel) rfl)) (fun _ h9 => h9) rfl hin rfl (by decide +kernel) rfl rfl (Nat.le_of_ble_eq_true rfl) di6_10 (fun H locs hP hD hS => ?_)
  have hP : va_P (dC, dI) mCLS ((h0, .inr (6, [.ref q8, .int 0, .int 0, .int 0, .int 0, .int 0, .null, .null, .int 0, .int 0, .int 0, .int 0, .int 0, .int 0, .int 0, .int 0, .int 0, .int 0, .int 0, .int 0, .int 0])) :: ((wRL aI aB ad) ++ [(q8, .inl (aI, ni 1440))])) H := hP
  have hD : va_D A ((h0, .inr (6, [.ref q8, .int 0, .int 0, .int 0, .int 0, .int 0, .null, .null, .int 0, .int 0, .int 0, .int 0, .int 0, .int 0, .int 0, .int 0, .int 0, .int 0, .int 0, .int 0, .int 0])) :: ((wRL aI aB ad) ++ [(q8, .inl (aI, ni 1440))])) := hD
  refine lv_aload_n hx hb di6_13 rfl (lv_at hl 0 rfl) ?_
  refine lv_sipush (v := 700) hx hb di6_14 (by decide) ?_
  refine va_newa (atype := .byte) (ty := .byte) (N' := 700) (a0 := ni 700) hx hb (hg (.arrayClass .byte) (mGd_in (i := 174) (by decide +kernel) rfl)) rfl hK hP hD hS hA (fun _ => rfl) (by decide) (by decide) (Nat.le_of_ble_eq_true rfl) (Nat.le_of_ble_eq_true rfl) (Nat.le_of_ble_eq_true rfl) di6_17 (fun q17 cA H hK hP hD hS => ?_)
  have hcA := aB_eq hK
  subst hcA
  have hK := hK.sub (tys' := [(_, .int), (_, .byte)]) [0, 1] rfl
  have hP : va_P (dC, dI) mCLS ((h0, .inr (6, [.ref q8, .int 0, .int 0, .int 0, .int 0, .int 0, .null, .null, .int 0, .int 0, .int 0, .int 0, .int 0, .int 0, .int 0, .int 0, .int 0, .int 0, .int 0, .int 0, .int 0])) :: (((wRL aI aB ad) ++ [(q8, .inl (aI, ni 1440))]) ++ [(q17, .inl (aB, ni 700))])) H := hP
  have hD : va_D A ((h0, .inr (6, [.ref q8, .int 0, .int 0, .int 0, .int 0, .int 0, .null, .null, .int 0, .int 0, .int 0, .int 0, .int 0, .int 0, .int 0, .int 0, .int 0, .int 0, .int 0, .int 0, .int 0])) :: (((wRL aI aB ad) ++ [(q8, .inl (aI, ni 1440))]) ++ [(q17, .inl (aB, ni 700))])) := hD
  refine W.widen (k := 2) (n := 2140) (by omega) (by omega) ?_
  refine va_putF (D := (dC, dI)) (ci := 6) (v := .ref q17) (ty := (.array .byte)) (C := RX6) (T := TX6) (N := 21) hx hb hg uw_6 tyX6 tyX6_ok nmX6 hown hK hP hD hS 0 rfl rfl 6 (by decide) (hg (.fieldLink RX6 13 "RingedLightsModel" "tape" "[B") (mGd_in (i := 1183) (by decide +kernel) rfl)) (fun _ h9 => h9) rfl hin rfl (by decide +kernel) rfl rfl (Nat.le_of_ble_eq_true rfl) di6_19 (fun H locs hP hD hS => ?_)
  have hP : va_P (dC, dI) mCLS ((h0, .inr (6, [.ref q8, .int 0, .int 0, .int 0, .int 0, .int 0, .ref q17, .null, .int 0, .int 0, .int 0, .int 0, .int 0, .int 0, .int 0, .int 0, .int 0, .int 0, .int 0, .int 0, .int 0])) :: (((wRL aI aB ad) ++ [(q8, .inl (aI, ni 1440))]) ++ [(q17, .inl (aB, ni 700))])) H := hP
  have hD : va_D A ((h0, .inr (6, [.ref q8, .int 0, .int 0, .int 0, .int 0, .int 0, .ref q17, .null, .int 0, .int 0, .int 0, .int 0, .int 0, .int 0, .int 0, .int 0, .int 0, .int 0, .int 0, .int 0, .int 0])) :: (((wRL aI aB ad) ++ [(q8, .inl (aI, ni 1440))]) ++ [(q17, .inl (aB, ni 700))])) := hD
  refine lv_aload_n hx hb di6_22 rfl (lv_at hl 0 rfl) ?_
  refine lv_sipush (v := 700) hx hb di6_23 (by decide) ?_
  refine va_newa (atype := .byte) (ty := .byte) (N' := 700) (a0 := ni 700) hx hb (hg (.arrayClass .byte) (mGd_in (i := 174) (by decide +kernel) rfl)) rfl hK hP hD hS hA (fun _ => rfl) (by decide) (by decide) (Nat.le_of_ble_eq_true rfl) (Nat.le_of_ble_eq_true rfl) (Nat.le_of_ble_eq_true rfl) di6_26 (fun q26 cA H hK hP hD hS => ?_)
  have hcA := aB_eq hK
  subst hcA
  have hK := hK.sub (tys' := [(_, .int), (_, .byte)]) [0, 1] rfl
  have hP : va_P (dC, dI) mCLS ((h0, .inr (6, [.ref q8, .int 0, .int 0, .int 0, .int 0, .int 0, .ref q17, .null, .int 0, .int 0, .int 0, .int 0, .int 0, .int 0, .int 0, .int 0, .int 0, .int 0, .int 0, .int 0, .int 0])) :: ((((wRL aI aB ad) ++ [(q8, .inl (aI, ni 1440))]) ++ [(q17, .inl (aB, ni 700))]) ++ [(q26, .inl (aB, ni 700))])) H := hP
  have hD : va_D A ((h0, .inr (6, [.ref q8, .int 0, .int 0, .int 0, .int 0, .int 0, .ref q17, .null, .int 0, .int 0, .int 0, .int 0, .int 0, .int 0, .int 0, .int 0, .int 0, .int 0, .int 0, .int 0, .int 0])) :: ((((wRL aI aB ad) ++ [(q8, .inl (aI, ni 1440))]) ++ [(q17, .inl (aB, ni 700))]) ++ [(q26, .inl (aB, ni 700))])) := hD
  refine W.widen (k := 3) (n := 2840) (by omega) (by omega) ?_
  refine va_putF (D := (dC, dI)) (ci := 6) (v := .ref q26) (ty := (.array .byte)) (C := RX6) (T := TX6) (N := 21) hx hb hg uw_6 tyX6 tyX6_ok nmX6 hown hK hP hD hS 0 rfl rfl 7 (by decide) (hg (.fieldLink RX6 17 "RingedLightsModel" "text" "[B") (mGd_in (i := 1184) (by decide +kernel) rfl)) (fun _ h9 => h9) rfl hin rfl (by decide +kernel) rfl rfl (Nat.le_of_ble_eq_true rfl) di6_28 (fun H locs hP hD hS => ?_)
  have hP : va_P (dC, dI) mCLS ((h0, .inr (6, [.ref q8, .int 0, .int 0, .int 0, .int 0, .int 0, .ref q17, .ref q26, .int 0, .int 0, .int 0, .int 0, .int 0, .int 0, .int 0, .int 0, .int 0, .int 0, .int 0, .int 0, .int 0])) :: ((((wRL aI aB ad) ++ [(q8, .inl (aI, ni 1440))]) ++ [(q17, .inl (aB, ni 700))]) ++ [(q26, .inl (aB, ni 700))])) H := hP
  have hD : va_D A ((h0, .inr (6, [.ref q8, .int 0, .int 0, .int 0, .int 0, .int 0, .ref q17, .ref q26, .int 0, .int 0, .int 0, .int 0, .int 0, .int 0, .int 0, .int 0, .int 0, .int 0, .int 0, .int 0, .int 0])) :: ((((wRL aI aB ad) ++ [(q8, .inl (aI, ni 1440))]) ++ [(q17, .inl (aB, ni 700))]) ++ [(q26, .inl (aB, ni 700))])) := hD
  refine lv_aload_n hx hb di6_31 rfl (lv_at hl 0 rfl) ?_
  refine lv_iconst (v := (-1)) hx hb di6_32 (by decide) ?_
  refine va_put (D := (dC, dI)) (ci := 6) (v := .int (-1)) (ty := .int) (C := RX6) (T := TX6) (N := 21) hx hb hg uw_6 tyX6 tyX6_ok nmX6 hown hK hP hD hS 0 rfl rfl 15 (by decide) (hg (.fieldLink RX6 20 "RingedLightsModel" "faultPlace" "I") (mGd_in (i := 1192) (by decide +kernel) rfl)) (fun _ h9 => h9) rfl (by decide +kernel) rfl rfl (Nat.le_of_ble_eq_true rfl) di6_33 (fun H locs hP hD hS => ?_)
  have hP : va_P (dC, dI) mCLS ((h0, .inr (6, [.ref q8, .int 0, .int 0, .int 0, .int 0, .int 0, .ref q17, .ref q26, .int 0, .int 0, .int 0, .int 0, .int 0, .int 0, .int 0, .int (-1), .int 0, .int 0, .int 0, .int 0, .int 0])) :: ((((wRL aI aB ad) ++ [(q8, .inl (aI, ni 1440))]) ++ [(q17, .inl (aB, ni 700))]) ++ [(q26, .inl (aB, ni 700))])) H := hP
  have hD : va_D A ((h0, .inr (6, [.ref q8, .int 0, .int 0, .int 0, .int 0, .int 0, .ref q17, .ref q26, .int 0, .int 0, .int 0, .int 0, .int 0, .int 0, .int 0, .int (-1), .int 0, .int 0, .int 0, .int 0, .int 0])) :: ((((wRL aI aB ad) ++ [(q8, .inl (aI, ni 1440))]) ++ [(q17, .inl (aB, ni 700))]) ++ [(q26, .inl (aB, ni 700))])) := hD
  refine lv_aload_n hx hb di6_36 rfl (lv_at hl 0 rfl) ?_
  refine lv_iconst (v := (-1)) hx hb di6_37 (by decide) ?_
  refine va_put (D := (dC, dI)) (ci := 6) (v := .int (-1)) (ty := .int) (C := RX6) (T := TX6) (N := 21) hx hb hg uw_6 tyX6 tyX6_ok nmX6 hown hK hP hD hS 0 rfl rfl 16 (by decide) (hg (.fieldLink RX6 24 "RingedLightsModel" "faultLine" "I") (mGd_in (i := 1193) (by decide +kernel) rfl)) (fun _ h9 => h9) rfl (by decide +kernel) rfl rfl (Nat.le_of_ble_eq_true rfl) di6_38 (fun H locs hP hD hS => ?_)
  have hP : va_P (dC, dI) mCLS ((h0, .inr (6, [.ref q8, .int 0, .int 0, .int 0, .int 0, .int 0, .ref q17, .ref q26, .int 0, .int 0, .int 0, .int 0, .int 0, .int 0, .int 0, .int (-1), .int (-1), .int 0, .int 0, .int 0, .int 0])) :: ((((wRL aI aB ad) ++ [(q8, .inl (aI, ni 1440))]) ++ [(q17, .inl (aB, ni 700))]) ++ [(q26, .inl (aB, ni 700))])) H := hP
  have hD : va_D A ((h0, .inr (6, [.ref q8, .int 0, .int 0, .int 0, .int 0, .int 0, .ref q17, .ref q26, .int 0, .int 0, .int 0, .int 0, .int 0, .int 0, .int 0, .int (-1), .int (-1), .int 0, .int 0, .int 0, .int 0])) :: ((((wRL aI aB ad) ++ [(q8, .inl (aI, ni 1440))]) ++ [(q17, .inl (aB, ni 700))]) ++ [(q26, .inl (aB, ni 700))])) := hD
  refine lv_aload_n hx hb di6_41 rfl (lv_at hl 0 rfl) ?_
  refine lv_iconst (v := (-1)) hx hb di6_42 (by decide) ?_
  refine va_put (D := (dC, dI)) (ci := 6) (v := .int (-1)) (ty := .int) (C := RX6) (T := TX6) (N := 21) hx hb hg uw_6 tyX6 tyX6_ok nmX6 hown hK hP hD hS 0 rfl rfl 17 (by decide) (hg (.fieldLink RX6 27 "RingedLightsModel" "faultKind" "I") (mGd_in (i := 1194) (by decide +kernel) rfl)) (fun _ h9 => h9) rfl (by decide +kernel) rfl rfl (Nat.le_of_ble_eq_true rfl) di6_43 (fun H locs hP hD hS => ?_)
  have hP : va_P (dC, dI) mCLS ((h0, .inr (6, [.ref q8, .int 0, .int 0, .int 0, .int 0, .int 0, .ref q17, .ref q26, .int 0, .int 0, .int 0, .int 0, .int 0, .int 0, .int 0, .int (-1), .int (-1), .int (-1), .int 0, .int 0, .int 0])) :: ((((wRL aI aB ad) ++ [(q8, .inl (aI, ni 1440))]) ++ [(q17, .inl (aB, ni 700))]) ++ [(q26, .inl (aB, ni 700))])) H := hP
  have hD : va_D A ((h0, .inr (6, [.ref q8, .int 0, .int 0, .int 0, .int 0, .int 0, .ref q17, .ref q26, .int 0, .int 0, .int 0, .int 0, .int 0, .int 0, .int 0, .int (-1), .int (-1), .int (-1), .int 0, .int 0, .int 0])) :: ((((wRL aI aB ad) ++ [(q8, .inl (aI, ni 1440))]) ++ [(q17, .inl (aB, ni 700))]) ++ [(q26, .inl (aB, ni 700))])) := hD
  have hw0 := w0_eq (ad := ad) (um := (fun j => match j with | 20 => h0 | 21 => q8 | 22 => q17 | 23 => q26 | _ => 0)) (aI := aI) (aB := aB)
  have hP : va_P (dC, dI) mCLS (mWs (adm ad (fun j => match j with | 20 => h0 | 21 => q8 | 22 => q17 | 23 => q26 | _ => 0)) aI aB g0) H := by rw [← hw0]; exact hP
  have hD : va_D A (mWs (adm ad (fun j => match j with | 20 => h0 | 21 => q8 | 22 => q17 | 23 => q26 | _ => 0)) aI aB g0) := by rw [← hw0]; exact hD
  generalize hu : (fun j => match j with | 20 => h0 | 21 => q8 | 22 => q17 | 23 => q26 | _ => 0) = um at hP hD
  have hu20 : um 20 = h0 := (congrFun hu 20).symm
  have hRo2 : mRo (adm ad um) oq X A s := mRo_cong hRo (adm_ro ad um)
  have hCa : mCa (adm ad um) oq dC dI aI aB X l rm_6 mD (mCall mD X 12) := fun a2 vs2 g2 r2 g2' h2 ho2 => by
    obtain ⟨q1, q2⟩ := mCall_met (l := l) (ad := adm ad um) (oq := oq) (dC := dC) (dI := dI) (aI := aI) (aB := aB) mFl_ok hdat hq hw 12 a2 vs2 g2 r2 g2' h2 ho2
    exact ⟨mRm 12, Nat.le_of_ble_eq_true rfl, Nat.le_of_ble_eq_true rfl, rfl, rfl, q1, q2⟩
  have F : mFx (adm ad um) oq dC dI aI aB X p s m #[Value.ref h0] c prog_8_method_1_code "RingedLightsModel" 1 cp_X6i mD A := ⟨hx, hb, hml, hown, hg, hK, hRo2, co_X6i, hq⟩
  obtain ⟨n, hrun⟩ := mEv_run (ev_X6i (X := X) (g := g0) e1 e2)
  have hrt : mRt (adm ad um) oq dC dI aI aB p l e rm_6 s m #[Value.ref h0] below meth c 3 2840 (MQ below (va_Qv (fun u : Nat → Nat => u 20 = h0) (fun u t => va_P (dC, dI) mCLS (mWs (adm ad u) aI aB (mU g0 7 c2)) t.heap ∧ va_D A (mWs (adm ad u) aI aB (mU g0 7 c2))) A) #[Value.ref h0] s 3 2840 A) A prog_8_method_1_code 0 (none, mU g0 7 c2) := by
    intro g2 H locs ls pc ⟨hP2, hD2, hS2⟩
    refine ⟨fun v hdg hri => ?_, fun q hdg h5 => absurd h5 (by decide), fun hdg h0 hri => ?_⟩
    · cases hri
    · cases hri
      exact W.vret hx hb hr (fun t ht hW => ⟨⟨um, rfl, hu20, by rw [ht]; exact hP2, hD2⟩, hS2.F ht⟩) hS2.2.2 hdg
  have K := mRun_sound (R := rm_6) (LL := []) (full := t_X6i) (res := (none, mU g0 7 c2)) (rt := 0) F mFl_ok hCa ⟨Nat.le_refl _, Nat.le_refl _⟩ (Nat.le_of_ble_eq_true rfl) (Nat.le_of_ble_eq_true rfl) hw hrt tk_X6i n t_X6i ⟨[], rfl⟩ [some (mr 7 20)] [] g0 hrun (fun v hv => by cases hv) (fun k v hv => by
    cases k with
    | zero => cases hv; exact Or.inl (by decide +kernel)
    | succ k => simp at hv) rfl H locs ls ⟨hP, hD, hS⟩ ⟨⟨hl.1, hl.2.1, fun q hq => ?_⟩, fun k x hk => ?_⟩
  · exact K
  · obtain ⟨v, h1, h2⟩ := mPr_of (adm ad um) oq hq
    obtain ⟨qa, qb⟩ := q
    cases qa with
    | zero =>
      cases h1
      dsimp only at h2
      subst h2
      have := lv_at hl 0 rfl
      rw [show mE (adm ad um) oq (mr 7 20) = .ref h0 from by show Value.ref (um 20) = _; rw [hu20]]
      exact this
    | succ k => simp at h1
  · cases k with
    | zero => cases hk
    | succ k => simp at hk
