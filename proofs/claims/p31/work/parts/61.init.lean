/-! constructors -/
theorem di2_0 : decode prog_4_method_1_code 0 = .ok (.aload_n 0, 1) := by decide +kernel
theorem di2_1 : decode prog_4_method_1_code 1 = .ok (.invokespecial 3, 3) := by decide +kernel
theorem di2_4 : decode prog_4_method_1_code 4 = .ok (.aload_n 0, 1) := by decide +kernel
theorem di2_5 : decode prog_4_method_1_code 5 = .ok (.bipush 8, 2) := by decide +kernel
theorem di2_7 : decode prog_4_method_1_code 7 = .ok (.newarray .int, 2) := by decide +kernel
theorem di2_9 : decode prog_4_method_1_code 9 = .ok (.putfield 9, 3) := by decide +kernel
theorem di2_12 : decode prog_4_method_1_code 12 = .ok (.aload_n 0, 1) := by decide +kernel
theorem di2_13 : decode prog_4_method_1_code 13 = .ok (.bipush 8, 2) := by decide +kernel
theorem di2_15 : decode prog_4_method_1_code 15 = .ok (.newarray .int, 2) := by decide +kernel
theorem di2_17 : decode prog_4_method_1_code 17 = .ok (.putfield 15, 3) := by decide +kernel
theorem di2_20 : decode prog_4_method_1_code 20 = .ok (.aload_n 0, 1) := by decide +kernel
theorem di2_21 : decode prog_4_method_1_code 21 = .ok (.bipush 8, 2) := by decide +kernel
theorem di2_23 : decode prog_4_method_1_code 23 = .ok (.newarray .int, 2) := by decide +kernel
theorem di2_25 : decode prog_4_method_1_code 25 = .ok (.putfield 18, 3) := by decide +kernel
theorem di2_28 : decode prog_4_method_1_code 28 = .ok (.aload_n 0, 1) := by decide +kernel
theorem di2_29 : decode prog_4_method_1_code 29 = .ok (.bipush 80, 2) := by decide +kernel
theorem di2_31 : decode prog_4_method_1_code 31 = .ok (.newarray .int, 2) := by decide +kernel
theorem di2_33 : decode prog_4_method_1_code 33 = .ok (.putfield 21, 3) := by decide +kernel
theorem di2_36 : decode prog_4_method_1_code 36 = .ok (.aload_n 0, 1) := by decide +kernel
theorem di2_37 : decode prog_4_method_1_code 37 = .ok (.bipush 10, 2) := by decide +kernel
theorem di2_39 : decode prog_4_method_1_code 39 = .ok (.newarray .int, 2) := by decide +kernel
theorem di2_41 : decode prog_4_method_1_code 41 = .ok (.putfield 24, 3) := by decide +kernel
theorem di2_44 : decode prog_4_method_1_code 44 = .ok (.aload_n 0, 1) := by decide +kernel
theorem di2_45 : decode prog_4_method_1_code 45 = .ok (.iconst 4, 1) := by decide +kernel
theorem di2_46 : decode prog_4_method_1_code 46 = .ok (.newarray .int, 2) := by decide +kernel
theorem di2_48 : decode prog_4_method_1_code 48 = .ok (.putfield 27, 3) := by decide +kernel
theorem di2_51 : decode prog_4_method_1_code 51 = .ok (.return_, 1) := by decide +kernel
def yi_2 : MethodName := ⟨RX2, "<init>", "()V"⟩
abbrev rm_2 : Room := { frames := 1, cells := 6, slots := 118, locals := 12 }
theorem gi_2 : GoodIn mGd (Cond.code yi_2 prog_4_method_1_code 1 none :: mGd) := fun w hw => by
  rcases List.mem_cons.mp hw with rfl | hw
  · exact mGd_good (mGd_in (i := 121) (by decide +kernel) rfl)
  · exact mGd_good hw
set_option maxHeartbeats 4000000 in
set_option maxRecDepth 100000 in
theorem ci_2 (l : Launch) (dC : Nat → ClassId) (dI : Nat → Nat → Nat) (aI aB : ClassId) (h0 sz : Nat) : Met l yi_2 (Cond.code yi_2 prog_4_method_1_code 1 none :: mGd) rm_2 (va_Pc [.ref h0] (fun U => U.heap.size = sz ∧ va_P (dC, dI) mCLS [(h0, .inr (2, [.int 0, .int 0, .int 0, .null, .null, .null, .null, .null, .null, .int 0, .int 0, .int 0]))] U.heap ∧ va_K (dC, dI) mCLS [(aI, .int), (aB, .byte)] U ∧ va_D (fun _ => True) [(h0, .inr (2, [.int 0, .int 0, .int 0, .null, .null, .null, .null, .null, .null, .int 0, .int 0, .int 0]))])) (va_Qv (fun u : Nat → Nat => u 1 = h0) (fun (u : Nat → Nat) t => va_P (dC, dI) mCLS (wPL aI u) t.heap ∧ va_D (va_A [(h0, .inr (2, [.int 0, .int 0, .int 0, .null, .null, .null, .null, .null, .null, .int 0, .int 0, .int 0]))] sz) (wPL aI u)) (va_A [(h0, .inr (2, [.int 0, .int 0, .int 0, .null, .null, .null, .null, .null, .null, .int 0, .int 0, .int 0]))] sz)) 6 118 (va_A [(h0, .inr (2, [.int 0, .int 0, .int 0, .null, .null, .null, .null, .null, .null, .int 0, .int 0, .int 0]))] sz) := by
  refine Met.ofW (cc := prog_4_method_1_code) (maxL := 1) (ret := none) (by decide) rfl ?_
  intro p e s m args below meth c s₁ B hml hv
  obtain ⟨rfl, hsz, hP, hK, hD0⟩ := hv
  have hx := B.exec
  have hb := B.bytes
  have hr := B.returns
  have hts := atoms_spec (ws := Cond.code yi_2 prog_4_method_1_code 1 none :: mGd) B.pre
  have hg : ∀ w ∈ mGd, w.before _ s = true := fun w hw => hts w (List.mem_cons_of_mem _ hw)
  have hown : s.vm.findClass RX2 = some m.cls := findClass_of_methodNamed B.named
  have hlocks := B.notSynchronized
  have hin : meth.name = "<init>" := (name_of_methodNamed B.named B.method).1
  subst hsz
  have hD := hD0.self (sz := s.heap.size)
  generalize hAe : va_A [(h0, .inr (2, [.int 0, .int 0, .int 0, .null, .null, .null, .null, .null, .null, .int 0, .int 0, .int 0]))] s.heap.size = A at hD ⊢
  have hA : ∀ q : Nat, s.heap.size ≤ q → A q := fun q h => by rw [← hAe]; exact Or.inr h
  have hS : va_S A s.heap s.heap [] := va_S.rf
  have hP : va_P (dC, dI) mCLS [(h0, .inr (2, [.int 0, .int 0, .int 0, .null, .null, .null, .null, .null, .null, .int 0, .int 0, .int 0]))] s.heap := hP
  have hl := lv_entry ([.ref h0]) (n := 1) (Nat.le_of_ble_eq_true rfl)
  rw [lg_entry_eq]
  generalize (lg_sl ([.ref h0]) ++ List.replicate (1 - (lg_sl ([.ref h0])).length) Slot.unset).toArray = ls at hl ⊢
  have hl : lv_has ls 1 [(0, .ref h0)] := hl
  have hP : va_P (dC, dI) mCLS ((h0, .inr (2, [.int 0, .int 0, .int 0, .null, .null, .null, .null, .null, .null, .int 0, .int 0, .int 0])) :: ([] : va_W)) s.heap := hP
  have hD : va_D A ((h0, .inr (2, [.int 0, .int 0, .int 0, .null, .null, .null, .null, .null, .null, .int 0, .int 0, .int 0])) :: ([] : va_W)) := hD
  refine lv_aload_n hx hb di2_0 rfl (lv_at hl 0 rfl) ?_
  refine W.objInit hx hb hown (hg (.methodLink RX2 3 objectInit) (mGd_in (i := 122) (by decide +kernel) rfl)) (hg (.instanceMethod objectInit) (mGd_in (i := 109) (by decide +kernel) rfl)) (hg (.code objectInit ⟨#[0xb1]⟩ 1 none) (mGd_in (i := 110) (by decide +kernel) rfl)) rfl (by rw [hml]; exact hl.1) rfl di2_1 (Nat.le_of_ble_eq_true rfl) (Nat.le_of_ble_eq_true rfl) ?_
  refine W.eq (g2 := F0 m 4 ls []) rfl ?_
  refine lv_aload_n hx hb di2_4 rfl (lv_at hl 0 rfl) ?_
  refine lv_bipush (v := 8) hx hb di2_5 (by decide) ?_
  refine va_newa (atype := .int) (ty := .int) (N' := 8) (a0 := ni 8) hx hb (hg (.arrayClass .int) (mGd_in (i := 175) (by decide +kernel) rfl)) rfl hK hP hD hS hA (fun _ => rfl) (by decide) (by decide) (Nat.le_of_ble_eq_true rfl) (Nat.le_of_ble_eq_true rfl) (Nat.le_of_ble_eq_true rfl) di2_7 (fun q7 cA H hK hP hD hS => ?_)
  have hcA := aI_eq hK
  subst hcA
  have hK := hK.sub (tys' := [(_, .int), (_, .byte)]) [0, 1] rfl
  have hP : va_P (dC, dI) mCLS ((h0, .inr (2, [.int 0, .int 0, .int 0, .null, .null, .null, .null, .null, .null, .int 0, .int 0, .int 0])) :: (([] : va_W) ++ [(q7, .inl (aI, ni 8))])) H := hP
  have hD : va_D A ((h0, .inr (2, [.int 0, .int 0, .int 0, .null, .null, .null, .null, .null, .null, .int 0, .int 0, .int 0])) :: (([] : va_W) ++ [(q7, .inl (aI, ni 8))])) := hD
  refine W.widen (k := 1) (n := 8) (by omega) (by omega) ?_
  refine va_putF (D := (dC, dI)) (ci := 2) (v := .ref q7) (ty := (.array .int)) (C := RX2) (T := TX2) (N := 12) hx hb hg uw_2 tyX2 tyX2_ok nmX2 hown hK hP hD hS 0 rfl rfl 3 (by decide) (hg (.fieldLink RX2 9 "RingedLights$Plan" "ringOf" "[I") (mGd_in (i := 135) (by decide +kernel) rfl)) (fun _ h9 => h9) rfl hin rfl (by decide +kernel) rfl rfl (Nat.le_of_ble_eq_true rfl) di2_9 (fun H locs hP hD hS => ?_)
  have hP : va_P (dC, dI) mCLS ((h0, .inr (2, [.int 0, .int 0, .int 0, .ref q7, .null, .null, .null, .null, .null, .int 0, .int 0, .int 0])) :: (([] : va_W) ++ [(q7, .inl (aI, ni 8))])) H := hP
  have hD : va_D A ((h0, .inr (2, [.int 0, .int 0, .int 0, .ref q7, .null, .null, .null, .null, .null, .int 0, .int 0, .int 0])) :: (([] : va_W) ++ [(q7, .inl (aI, ni 8))])) := hD
  refine lv_aload_n hx hb di2_12 rfl (lv_at hl 0 rfl) ?_
  refine lv_bipush (v := 8) hx hb di2_13 (by decide) ?_
  refine va_newa (atype := .int) (ty := .int) (N' := 8) (a0 := ni 8) hx hb (hg (.arrayClass .int) (mGd_in (i := 175) (by decide +kernel) rfl)) rfl hK hP hD hS hA (fun _ => rfl) (by decide) (by decide) (Nat.le_of_ble_eq_true rfl) (Nat.le_of_ble_eq_true rfl) (Nat.le_of_ble_eq_true rfl) di2_15 (fun q15 cA H hK hP hD hS => ?_)
  have hcA := aI_eq hK
  subst hcA
  have hK := hK.sub (tys' := [(_, .int), (_, .byte)]) [0, 1] rfl
  have hP : va_P (dC, dI) mCLS ((h0, .inr (2, [.int 0, .int 0, .int 0, .ref q7, .null, .null, .null, .null, .null, .int 0, .int 0, .int 0])) :: ((([] : va_W) ++ [(q7, .inl (aI, ni 8))]) ++ [(q15, .inl (aI, ni 8))])) H := hP
  have hD : va_D A ((h0, .inr (2, [.int 0, .int 0, .int 0, .ref q7, .null, .null, .null, .null, .null, .int 0, .int 0, .int 0])) :: ((([] : va_W) ++ [(q7, .inl (aI, ni 8))]) ++ [(q15, .inl (aI, ni 8))])) := hD
  refine W.widen (k := 2) (n := 16) (by omega) (by omega) ?_
  refine va_putF (D := (dC, dI)) (ci := 2) (v := .ref q15) (ty := (.array .int)) (C := RX2) (T := TX2) (N := 12) hx hb hg uw_2 tyX2 tyX2_ok nmX2 hown hK hP hD hS 0 rfl rfl 4 (by decide) (hg (.fieldLink RX2 15 "RingedLights$Plan" "sideOf" "[I") (mGd_in (i := 137) (by decide +kernel) rfl)) (fun _ h9 => h9) rfl hin rfl (by decide +kernel) rfl rfl (Nat.le_of_ble_eq_true rfl) di2_17 (fun H locs hP hD hS => ?_)
  have hP : va_P (dC, dI) mCLS ((h0, .inr (2, [.int 0, .int 0, .int 0, .ref q7, .ref q15, .null, .null, .null, .null, .int 0, .int 0, .int 0])) :: ((([] : va_W) ++ [(q7, .inl (aI, ni 8))]) ++ [(q15, .inl (aI, ni 8))])) H := hP
  have hD : va_D A ((h0, .inr (2, [.int 0, .int 0, .int 0, .ref q7, .ref q15, .null, .null, .null, .null, .int 0, .int 0, .int 0])) :: ((([] : va_W) ++ [(q7, .inl (aI, ni 8))]) ++ [(q15, .inl (aI, ni 8))])) := hD
  refine lv_aload_n hx hb di2_20 rfl (lv_at hl 0 rfl) ?_
  refine lv_bipush (v := 8) hx hb di2_21 (by decide) ?_
  refine va_newa (atype := .int) (ty := .int) (N' := 8) (a0 := ni 8) hx hb (hg (.arrayClass .int) (mGd_in (i := 175) (by decide +kernel) rfl)) rfl hK hP hD hS hA (fun _ => rfl) (by decide) (by decide) (Nat.le_of_ble_eq_true rfl) (Nat.le_of_ble_eq_true rfl) (Nat.le_of_ble_eq_true rfl) di2_23 (fun q23 cA H hK hP hD hS => ?_)
  have hcA := aI_eq hK
  subst hcA
  have hK := hK.sub (tys' := [(_, .int), (_, .byte)]) [0, 1] rfl
  have hP : va_P (dC, dI) mCLS ((h0, .inr (2, [.int 0, .int 0, .int 0, .ref q7, .ref q15, .null, .null, .null, .null, .int 0, .int 0, .int 0])) :: (((([] : va_W) ++ [(q7, .inl (aI, ni 8))]) ++ [(q15, .inl (aI, ni 8))]) ++ [(q23, .inl (aI, ni 8))])) H := hP
  have hD : va_D A ((h0, .inr (2, [.int 0, .int 0, .int 0, .ref q7, .ref q15, .null, .null, .null, .null, .int 0, .int 0, .int 0])) :: (((([] : va_W) ++ [(q7, .inl (aI, ni 8))]) ++ [(q15, .inl (aI, ni 8))]) ++ [(q23, .inl (aI, ni 8))])) := hD
  refine W.widen (k := 3) (n := 24) (by omega) (by omega) ?_
  refine va_putF (D := (dC, dI)) (ci := 2) (v := .ref q23) (ty := (.array .int)) (C := RX2) (T := TX2) (N := 12) hx hb hg uw_2 tyX2 tyX2_ok nmX2 hown hK hP hD hS 0 rfl rfl 5 (by decide) (hg (.fieldLink RX2 18 "RingedLights$Plan" "foes" "[I") (mGd_in (i := 139) (by decide +kernel) rfl)) (fun _ h9 => h9) rfl hin rfl (by decide +kernel) rfl rfl (Nat.le_of_ble_eq_true rfl) di2_25 (fun H locs hP hD hS => ?_)
  have hP : va_P (dC, dI) mCLS ((h0, .inr (2, [.int 0, .int 0, .int 0, .ref q7, .ref q15, .ref q23, .null, .null, .null, .int 0, .int 0, .int 0])) :: (((([] : va_W) ++ [(q7, .inl (aI, ni 8))]) ++ [(q15, .inl (aI, ni 8))]) ++ [(q23, .inl (aI, ni 8))])) H := hP
  have hD : va_D A ((h0, .inr (2, [.int 0, .int 0, .int 0, .ref q7, .ref q15, .ref q23, .null, .null, .null, .int 0, .int 0, .int 0])) :: (((([] : va_W) ++ [(q7, .inl (aI, ni 8))]) ++ [(q15, .inl (aI, ni 8))]) ++ [(q23, .inl (aI, ni 8))])) := hD
  refine lv_aload_n hx hb di2_28 rfl (lv_at hl 0 rfl) ?_
  refine lv_bipush (v := 80) hx hb di2_29 (by decide) ?_
  refine va_newa (atype := .int) (ty := .int) (N' := 80) (a0 := ni 80) hx hb (hg (.arrayClass .int) (mGd_in (i := 175) (by decide +kernel) rfl)) rfl hK hP hD hS hA (fun _ => rfl) (by decide) (by decide) (Nat.le_of_ble_eq_true rfl) (Nat.le_of_ble_eq_true rfl) (Nat.le_of_ble_eq_true rfl) di2_31 (fun q31 cA H hK hP hD hS => ?_)
  have hcA := aI_eq hK
  subst hcA
  have hK := hK.sub (tys' := [(_, .int), (_, .byte)]) [0, 1] rfl
  have hP : va_P (dC, dI) mCLS ((h0, .inr (2, [.int 0, .int 0, .int 0, .ref q7, .ref q15, .ref q23, .null, .null, .null, .int 0, .int 0, .int 0])) :: ((((([] : va_W) ++ [(q7, .inl (aI, ni 8))]) ++ [(q15, .inl (aI, ni 8))]) ++ [(q23, .inl (aI, ni 8))]) ++ [(q31, .inl (aI, ni 80))])) H := hP
  have hD : va_D A ((h0, .inr (2, [.int 0, .int 0, .int 0, .ref q7, .ref q15, .ref q23, .null, .null, .null, .int 0, .int 0, .int 0])) :: ((((([] : va_W) ++ [(q7, .inl (aI, ni 8))]) ++ [(q15, .inl (aI, ni 8))]) ++ [(q23, .inl (aI, ni 8))]) ++ [(q31, .inl (aI, ni 80))])) := hD
  refine W.widen (k := 4) (n := 104) (by omega) (by omega) ?_
  refine va_putF (D := (dC, dI)) (ci := 2) (v := .ref q31) (ty := (.array .int)) (C := RX2) (T := TX2) (N := 12) hx hb hg uw_2 tyX2 tyX2_ok nmX2 hown hK hP hD hS 0 rfl rfl 6 (by decide) (hg (.fieldLink RX2 21 "RingedLights$Plan" "marks" "[I") (mGd_in (i := 140) (by decide +kernel) rfl)) (fun _ h9 => h9) rfl hin rfl (by decide +kernel) rfl rfl (Nat.le_of_ble_eq_true rfl) di2_33 (fun H locs hP hD hS => ?_)
  have hP : va_P (dC, dI) mCLS ((h0, .inr (2, [.int 0, .int 0, .int 0, .ref q7, .ref q15, .ref q23, .ref q31, .null, .null, .int 0, .int 0, .int 0])) :: ((((([] : va_W) ++ [(q7, .inl (aI, ni 8))]) ++ [(q15, .inl (aI, ni 8))]) ++ [(q23, .inl (aI, ni 8))]) ++ [(q31, .inl (aI, ni 80))])) H := hP
  have hD : va_D A ((h0, .inr (2, [.int 0, .int 0, .int 0, .ref q7, .ref q15, .ref q23, .ref q31, .null, .null, .int 0, .int 0, .int 0])) :: ((((([] : va_W) ++ [(q7, .inl (aI, ni 8))]) ++ [(q15, .inl (aI, ni 8))]) ++ [(q23, .inl (aI, ni 8))]) ++ [(q31, .inl (aI, ni 80))])) := hD
  refine lv_aload_n hx hb di2_36 rfl (lv_at hl 0 rfl) ?_
  refine lv_bipush (v := 10) hx hb di2_37 (by decide) ?_
  refine va_newa (atype := .int) (ty := .int) (N' := 10) (a0 := ni 10) hx hb (hg (.arrayClass .int) (mGd_in (i := 175) (by decide +kernel) rfl)) rfl hK hP hD hS hA (fun _ => rfl) (by decide) (by decide) (Nat.le_of_ble_eq_true rfl) (Nat.le_of_ble_eq_true rfl) (Nat.le_of_ble_eq_true rfl) di2_39 (fun q39 cA H hK hP hD hS => ?_)
  have hcA := aI_eq hK
  subst hcA
  have hK := hK.sub (tys' := [(_, .int), (_, .byte)]) [0, 1] rfl
  have hP : va_P (dC, dI) mCLS ((h0, .inr (2, [.int 0, .int 0, .int 0, .ref q7, .ref q15, .ref q23, .ref q31, .null, .null, .int 0, .int 0, .int 0])) :: (((((([] : va_W) ++ [(q7, .inl (aI, ni 8))]) ++ [(q15, .inl (aI, ni 8))]) ++ [(q23, .inl (aI, ni 8))]) ++ [(q31, .inl (aI, ni 80))]) ++ [(q39, .inl (aI, ni 10))])) H := hP
  have hD : va_D A ((h0, .inr (2, [.int 0, .int 0, .int 0, .ref q7, .ref q15, .ref q23, .ref q31, .null, .null, .int 0, .int 0, .int 0])) :: (((((([] : va_W) ++ [(q7, .inl (aI, ni 8))]) ++ [(q15, .inl (aI, ni 8))]) ++ [(q23, .inl (aI, ni 8))]) ++ [(q31, .inl (aI, ni 80))]) ++ [(q39, .inl (aI, ni 10))])) := hD
  refine W.widen (k := 5) (n := 114) (by omega) (by omega) ?_
  refine va_putF (D := (dC, dI)) (ci := 2) (v := .ref q39) (ty := (.array .int)) (C := RX2) (T := TX2) (N := 12) hx hb hg uw_2 tyX2 tyX2_ok nmX2 hown hK hP hD hS 0 rfl rfl 7 (by decide) (hg (.fieldLink RX2 24 "RingedLights$Plan" "breaks" "[I") (mGd_in (i := 141) (by decide +kernel) rfl)) (fun _ h9 => h9) rfl hin rfl (by decide +kernel) rfl rfl (Nat.le_of_ble_eq_true rfl) di2_41 (fun H locs hP hD hS => ?_)
  have hP : va_P (dC, dI) mCLS ((h0, .inr (2, [.int 0, .int 0, .int 0, .ref q7, .ref q15, .ref q23, .ref q31, .ref q39, .null, .int 0, .int 0, .int 0])) :: (((((([] : va_W) ++ [(q7, .inl (aI, ni 8))]) ++ [(q15, .inl (aI, ni 8))]) ++ [(q23, .inl (aI, ni 8))]) ++ [(q31, .inl (aI, ni 80))]) ++ [(q39, .inl (aI, ni 10))])) H := hP
  have hD : va_D A ((h0, .inr (2, [.int 0, .int 0, .int 0, .ref q7, .ref q15, .ref q23, .ref q31, .ref q39, .null, .int 0, .int 0, .int 0])) :: (((((([] : va_W) ++ [(q7, .inl (aI, ni 8))]) ++ [(q15, .inl (aI, ni 8))]) ++ [(q23, .inl (aI, ni 8))]) ++ [(q31, .inl (aI, ni 80))]) ++ [(q39, .inl (aI, ni 10))])) := hD
  refine lv_aload_n hx hb di2_44 rfl (lv_at hl 0 rfl) ?_
  refine lv_iconst (v := 4) hx hb di2_45 (by decide) ?_
  refine va_newa (atype := .int) (ty := .int) (N' := 4) (a0 := ni 4) hx hb (hg (.arrayClass .int) (mGd_in (i := 175) (by decide +kernel) rfl)) rfl hK hP hD hS hA (fun _ => rfl) (by decide) (by decide) (Nat.le_of_ble_eq_true rfl) (Nat.le_of_ble_eq_true rfl) (Nat.le_of_ble_eq_true rfl) di2_46 (fun q46 cA H hK hP hD hS => ?_)
  have hcA := aI_eq hK
  subst hcA
  have hK := hK.sub (tys' := [(_, .int), (_, .byte)]) [0, 1] rfl
  have hP : va_P (dC, dI) mCLS ((h0, .inr (2, [.int 0, .int 0, .int 0, .ref q7, .ref q15, .ref q23, .ref q31, .ref q39, .null, .int 0, .int 0, .int 0])) :: ((((((([] : va_W) ++ [(q7, .inl (aI, ni 8))]) ++ [(q15, .inl (aI, ni 8))]) ++ [(q23, .inl (aI, ni 8))]) ++ [(q31, .inl (aI, ni 80))]) ++ [(q39, .inl (aI, ni 10))]) ++ [(q46, .inl (aI, ni 4))])) H := hP
  have hD : va_D A ((h0, .inr (2, [.int 0, .int 0, .int 0, .ref q7, .ref q15, .ref q23, .ref q31, .ref q39, .null, .int 0, .int 0, .int 0])) :: ((((((([] : va_W) ++ [(q7, .inl (aI, ni 8))]) ++ [(q15, .inl (aI, ni 8))]) ++ [(q23, .inl (aI, ni 8))]) ++ [(q31, .inl (aI, ni 80))]) ++ [(q39, .inl (aI, ni 10))]) ++ [(q46, .inl (aI, ni 4))])) := hD
  refine W.widen (k := 6) (n := 118) (by omega) (by omega) ?_
  refine va_putF (D := (dC, dI)) (ci := 2) (v := .ref q46) (ty := (.array .int)) (C := RX2) (T := TX2) (N := 12) hx hb hg uw_2 tyX2 tyX2_ok nmX2 hown hK hP hD hS 0 rfl rfl 8 (by decide) (hg (.fieldLink RX2 27 "RingedLights$Plan" "parts" "[I") (mGd_in (i := 142) (by decide +kernel) rfl)) (fun _ h9 => h9) rfl hin rfl (by decide +kernel) rfl rfl (Nat.le_of_ble_eq_true rfl) di2_48 (fun H locs hP hD hS => ?_)
  have hP : va_P (dC, dI) mCLS ((h0, .inr (2, [.int 0, .int 0, .int 0, .ref q7, .ref q15, .ref q23, .ref q31, .ref q39, .ref q46, .int 0, .int 0, .int 0])) :: ((((((([] : va_W) ++ [(q7, .inl (aI, ni 8))]) ++ [(q15, .inl (aI, ni 8))]) ++ [(q23, .inl (aI, ni 8))]) ++ [(q31, .inl (aI, ni 80))]) ++ [(q39, .inl (aI, ni 10))]) ++ [(q46, .inl (aI, ni 4))])) H := hP
  have hD : va_D A ((h0, .inr (2, [.int 0, .int 0, .int 0, .ref q7, .ref q15, .ref q23, .ref q31, .ref q39, .ref q46, .int 0, .int 0, .int 0])) :: ((((((([] : va_W) ++ [(q7, .inl (aI, ni 8))]) ++ [(q15, .inl (aI, ni 8))]) ++ [(q23, .inl (aI, ni 8))]) ++ [(q31, .inl (aI, ni 80))]) ++ [(q39, .inl (aI, ni 10))]) ++ [(q46, .inl (aI, ni 4))])) := hD
  exact W.vret hx hb hr (fun t ht hW => ⟨⟨(fun j => match j with | 1 => h0 | 2 => q7 | 3 => q15 | 4 => q23 | 5 => q31 | 6 => q39 | 7 => q46 | _ => 0), rfl, rfl, by rw [ht]; exact hP, hD⟩, hS.F ht⟩) hS.2.2 di2_51
theorem di4_0 : decode prog_6_method_1_code 0 = .ok (.aload_n 0, 1) := by decide +kernel
theorem di4_1 : decode prog_6_method_1_code 1 = .ok (.invokespecial 3, 3) := by decide +kernel
theorem di4_4 : decode prog_6_method_1_code 4 = .ok (.aload_n 0, 1) := by decide +kernel
theorem di4_5 : decode prog_6_method_1_code 5 = .ok (.iconst (-1), 1) := by decide +kernel
theorem di4_6 : decode prog_6_method_1_code 6 = .ok (.putfield 9, 3) := by decide +kernel
theorem di4_9 : decode prog_6_method_1_code 9 = .ok (.aload_n 0, 1) := by decide +kernel
theorem di4_10 : decode prog_6_method_1_code 10 = .ok (.iconst 3, 1) := by decide +kernel
theorem di4_11 : decode prog_6_method_1_code 11 = .ok (.putfield 15, 3) := by decide +kernel
theorem di4_14 : decode prog_6_method_1_code 14 = .ok (.aload_n 0, 1) := by decide +kernel
theorem di4_15 : decode prog_6_method_1_code 15 = .ok (.iconst (-1), 1) := by decide +kernel
theorem di4_16 : decode prog_6_method_1_code 16 = .ok (.putfield 18, 3) := by decide +kernel
theorem di4_19 : decode prog_6_method_1_code 19 = .ok (.aload_n 0, 1) := by decide +kernel
theorem di4_20 : decode prog_6_method_1_code 20 = .ok (.iload_n 1, 1) := by decide +kernel
theorem di4_21 : decode prog_6_method_1_code 21 = .ok (.putfield 21, 3) := by decide +kernel
theorem di4_24 : decode prog_6_method_1_code 24 = .ok (.return_, 1) := by decide +kernel
def yi_4 : MethodName := ⟨RX4, "<init>", "(I)V"⟩
abbrev rm_4 : Room := { frames := 1, cells := 0, slots := 0, locals := 12 }
theorem gi_4 : GoodIn mGd (Cond.code yi_4 prog_6_method_1_code 2 none :: mGd) := fun w hw => by
  rcases List.mem_cons.mp hw with rfl | hw
  · exact mGd_good (mGd_in (i := 229) (by decide +kernel) rfl)
  · exact mGd_good hw
set_option maxHeartbeats 4000000 in
set_option maxRecDepth 100000 in
theorem ci_4 (l : Launch) (dC : Nat → ClassId) (dI : Nat → Nat → Nat) (aI aB : ClassId) (h0 sz : Nat) (n : Int32) : Met l yi_4 (Cond.code yi_4 prog_6_method_1_code 2 none :: mGd) rm_4 (va_Pc [.ref h0, .int n] (fun U => U.heap.size = sz ∧ va_P (dC, dI) mCLS [(h0, .inr (4, [.int 0, .int 0, .int 0, .int 0, .int 0, .int 0, .int 0, .int 0, .int 0]))] U.heap ∧ va_K (dC, dI) mCLS [(aI, .int), (aB, .byte)] U ∧ va_D (fun _ => True) [(h0, .inr (4, [.int 0, .int 0, .int 0, .int 0, .int 0, .int 0, .int 0, .int 0, .int 0]))])) (va_Qv (fun _ : Unit => True) (fun (_ : Unit) t => va_P (dC, dI) mCLS (wRG h0 n) t.heap ∧ va_D (va_A [(h0, .inr (4, [.int 0, .int 0, .int 0, .int 0, .int 0, .int 0, .int 0, .int 0, .int 0]))] sz) (wRG h0 n)) (va_A [(h0, .inr (4, [.int 0, .int 0, .int 0, .int 0, .int 0, .int 0, .int 0, .int 0, .int 0]))] sz)) 0 0 (va_A [(h0, .inr (4, [.int 0, .int 0, .int 0, .int 0, .int 0, .int 0, .int 0, .int 0, .int 0]))] sz) := by
  refine Met.ofW (cc := prog_6_method_1_code) (maxL := 2) (ret := none) (by decide) rfl ?_
  intro p e s m args below meth c s₁ B hml hv
  obtain ⟨rfl, hsz, hP, hK, hD0⟩ := hv
  have hx := B.exec
  have hb := B.bytes
  have hr := B.returns
  have hts := atoms_spec (ws := Cond.code yi_4 prog_6_method_1_code 2 none :: mGd) B.pre
  have hg : ∀ w ∈ mGd, w.before _ s = true := fun w hw => hts w (List.mem_cons_of_mem _ hw)
  have hown : s.vm.findClass RX4 = some m.cls := findClass_of_methodNamed B.named
  have hlocks := B.notSynchronized
  have hin : meth.name = "<init>" := (name_of_methodNamed B.named B.method).1
  subst hsz
  have hD := hD0.self (sz := s.heap.size)
  generalize hAe : va_A [(h0, .inr (4, [.int 0, .int 0, .int 0, .int 0, .int 0, .int 0, .int 0, .int 0, .int 0]))] s.heap.size = A at hD ⊢
  have hA : ∀ q : Nat, s.heap.size ≤ q → A q := fun q h => by rw [← hAe]; exact Or.inr h
  have hS : va_S A s.heap s.heap [] := va_S.rf
  have hP : va_P (dC, dI) mCLS [(h0, .inr (4, [.int 0, .int 0, .int 0, .int 0, .int 0, .int 0, .int 0, .int 0, .int 0]))] s.heap := hP
  have hl := lv_entry ([.ref h0, .int n]) (n := 2) (Nat.le_of_ble_eq_true rfl)
  rw [lg_entry_eq]
  generalize (lg_sl ([.ref h0, .int n]) ++ List.replicate (2 - (lg_sl ([.ref h0, .int n])).length) Slot.unset).toArray = ls at hl ⊢
  have hl : lv_has ls 2 [(0, .ref h0), (1, .int n)] := hl
  have hP : va_P (dC, dI) mCLS ((h0, .inr (4, [.int 0, .int 0, .int 0, .int 0, .int 0, .int 0, .int 0, .int 0, .int 0])) :: ([] : va_W)) s.heap := hP
  have hD : va_D A ((h0, .inr (4, [.int 0, .int 0, .int 0, .int 0, .int 0, .int 0, .int 0, .int 0, .int 0])) :: ([] : va_W)) := hD
  refine lv_aload_n hx hb di4_0 rfl (lv_at hl 0 rfl) ?_
  refine W.objInit hx hb hown (hg (.methodLink RX4 3 objectInit) (mGd_in (i := 230) (by decide +kernel) rfl)) (hg (.instanceMethod objectInit) (mGd_in (i := 109) (by decide +kernel) rfl)) (hg (.code objectInit ⟨#[0xb1]⟩ 1 none) (mGd_in (i := 110) (by decide +kernel) rfl)) rfl (by rw [hml]; exact hl.1) rfl di4_1 (Nat.le_of_ble_eq_true rfl) (Nat.le_of_ble_eq_true rfl) ?_
  refine W.eq (g2 := F0 m 4 ls []) rfl ?_
  refine lv_aload_n hx hb di4_4 rfl (lv_at hl 0 rfl) ?_
  refine lv_iconst (v := (-1)) hx hb di4_5 (by decide) ?_
  refine va_put (D := (dC, dI)) (ci := 4) (v := .int (-1)) (ty := .int) (C := RX4) (T := TX4) (N := 9) hx hb hg uw_4 tyX4 tyX4_ok nmX4 hown hK hP hD hS 0 rfl rfl 1 (by decide) (hg (.fieldLink RX4 9 "RingedLights$Ring" "at" "I") (mGd_in (i := 233) (by decide +kernel) rfl)) (fun _ h9 => h9) rfl (by decide +kernel) rfl rfl (Nat.le_of_ble_eq_true rfl) di4_6 (fun H locs hP hD hS => ?_)
  have hP : va_P (dC, dI) mCLS ((h0, .inr (4, [.int 0, .int (-1), .int 0, .int 0, .int 0, .int 0, .int 0, .int 0, .int 0])) :: ([] : va_W)) H := hP
  have hD : va_D A ((h0, .inr (4, [.int 0, .int (-1), .int 0, .int 0, .int 0, .int 0, .int 0, .int 0, .int 0])) :: ([] : va_W)) := hD
  refine lv_aload_n hx hb di4_9 rfl (lv_at hl 0 rfl) ?_
  refine lv_iconst (v := 3) hx hb di4_10 (by decide) ?_
  refine va_put (D := (dC, dI)) (ci := 4) (v := .int 3) (ty := .int) (C := RX4) (T := TX4) (N := 9) hx hb hg uw_4 tyX4 tyX4_ok nmX4 hown hK hP hD hS 0 rfl rfl 2 (by decide) (hg (.fieldLink RX4 15 "RingedLights$Ring" "lamp" "I") (mGd_in (i := 235) (by decide +kernel) rfl)) (fun _ h9 => h9) rfl (by decide +kernel) rfl rfl (Nat.le_of_ble_eq_true rfl) di4_11 (fun H locs hP hD hS => ?_)
  have hP : va_P (dC, dI) mCLS ((h0, .inr (4, [.int 0, .int (-1), .int 3, .int 0, .int 0, .int 0, .int 0, .int 0, .int 0])) :: ([] : va_W)) H := hP
  have hD : va_D A ((h0, .inr (4, [.int 0, .int (-1), .int 3, .int 0, .int 0, .int 0, .int 0, .int 0, .int 0])) :: ([] : va_W)) := hD
  refine lv_aload_n hx hb di4_14 rfl (lv_at hl 0 rfl) ?_
  refine lv_iconst (v := (-1)) hx hb di4_15 (by decide) ?_
  refine va_put (D := (dC, dI)) (ci := 4) (v := .int (-1)) (ty := .int) (C := RX4) (T := TX4) (N := 9) hx hb hg uw_4 tyX4 tyX4_ok nmX4 hown hK hP hD hS 0 rfl rfl 4 (by decide) (hg (.fieldLink RX4 18 "RingedLights$Ring" "to" "I") (mGd_in (i := 239) (by decide +kernel) rfl)) (fun _ h9 => h9) rfl (by decide +kernel) rfl rfl (Nat.le_of_ble_eq_true rfl) di4_16 (fun H locs hP hD hS => ?_)
  have hP : va_P (dC, dI) mCLS ((h0, .inr (4, [.int 0, .int (-1), .int 3, .int 0, .int (-1), .int 0, .int 0, .int 0, .int 0])) :: ([] : va_W)) H := hP
  have hD : va_D A ((h0, .inr (4, [.int 0, .int (-1), .int 3, .int 0, .int (-1), .int 0, .int 0, .int 0, .int 0])) :: ([] : va_W)) := hD
  refine lv_aload_n hx hb di4_19 rfl (lv_at hl 0 rfl) ?_
  refine lv_iload_n hx hb di4_20 rfl (lv_at hl 1 rfl) ?_
  refine va_putF (D := (dC, dI)) (ci := 4) (v := .int n) (ty := .int) (C := RX4) (T := TX4) (N := 9) hx hb hg uw_4 tyX4 tyX4_ok nmX4 hown hK hP hD hS 0 rfl rfl 0 (by decide) (hg (.fieldLink RX4 21 "RingedLights$Ring" "number" "I") (mGd_in (i := 231) (by decide +kernel) rfl)) (fun _ h9 => h9) rfl hin rfl (by decide +kernel) rfl rfl (Nat.le_of_ble_eq_true rfl) di4_21 (fun H locs hP hD hS => ?_)
  have hP : va_P (dC, dI) mCLS ((h0, .inr (4, [.int n, .int (-1), .int 3, .int 0, .int (-1), .int 0, .int 0, .int 0, .int 0])) :: ([] : va_W)) H := hP
  have hD : va_D A ((h0, .inr (4, [.int n, .int (-1), .int 3, .int 0, .int (-1), .int 0, .int 0, .int 0, .int 0])) :: ([] : va_W)) := hD
  exact W.vret hx hb hr (fun t ht hW => ⟨⟨(), rfl, trivial, by rw [ht]; exact hP, hD⟩, hS.F ht⟩) hS.2.2 di4_24
theorem di1_0 : decode prog_3_method_1_code 0 = .ok (.aload_n 0, 1) := by decide +kernel
theorem di1_1 : decode prog_3_method_1_code 1 = .ok (.invokespecial 3, 3) := by decide +kernel
theorem di1_4 : decode prog_3_method_1_code 4 = .ok (.aload_n 0, 1) := by decide +kernel
theorem di1_5 : decode prog_3_method_1_code 5 = .ok (.bipush 32, 2) := by decide +kernel
theorem di1_7 : decode prog_3_method_1_code 7 = .ok (.newarray .int, 2) := by decide +kernel
theorem di1_9 : decode prog_3_method_1_code 9 = .ok (.putfield 9, 3) := by decide +kernel
theorem di1_12 : decode prog_3_method_1_code 12 = .ok (.aload_n 0, 1) := by decide +kernel
theorem di1_13 : decode prog_3_method_1_code 13 = .ok (.bipush 32, 2) := by decide +kernel
theorem di1_15 : decode prog_3_method_1_code 15 = .ok (.newarray .int, 2) := by decide +kernel
theorem di1_17 : decode prog_3_method_1_code 17 = .ok (.putfield 15, 3) := by decide +kernel
theorem di1_20 : decode prog_3_method_1_code 20 = .ok (.aload_n 0, 1) := by decide +kernel
theorem di1_21 : decode prog_3_method_1_code 21 = .ok (.bipush 32, 2) := by decide +kernel
theorem di1_23 : decode prog_3_method_1_code 23 = .ok (.newarray .int, 2) := by decide +kernel
theorem di1_25 : decode prog_3_method_1_code 25 = .ok (.putfield 18, 3) := by decide +kernel
theorem di1_28 : decode prog_3_method_1_code 28 = .ok (.return_, 1) := by decide +kernel
def yi_1 : MethodName := ⟨RX1, "<init>", "()V"⟩
abbrev rm_1 : Room := { frames := 1, cells := 3, slots := 96, locals := 12 }
theorem gi_1 : GoodIn mGd (Cond.code yi_1 prog_3_method_1_code 1 none :: mGd) := fun w hw => by
  rcases List.mem_cons.mp hw with rfl | hw
  · exact mGd_good (mGd_in (i := 272) (by decide +kernel) rfl)
  · exact mGd_good hw
set_option maxHeartbeats 4000000 in
set_option maxRecDepth 100000 in
theorem ci_1 (l : Launch) (dC : Nat → ClassId) (dI : Nat → Nat → Nat) (aI aB : ClassId) (h0 sz : Nat) : Met l yi_1 (Cond.code yi_1 prog_3_method_1_code 1 none :: mGd) rm_1 (va_Pc [.ref h0] (fun U => U.heap.size = sz ∧ va_P (dC, dI) mCLS [(h0, .inr (1, [.null, .null, .null, .int 0, .int 0]))] U.heap ∧ va_K (dC, dI) mCLS [(aI, .int), (aB, .byte)] U ∧ va_D (fun _ => True) [(h0, .inr (1, [.null, .null, .null, .int 0, .int 0]))])) (va_Qv (fun u : Nat → Nat => u 10 = h0) (fun (u : Nat → Nat) t => va_P (dC, dI) mCLS (wLG aI u) t.heap ∧ va_D (va_A [(h0, .inr (1, [.null, .null, .null, .int 0, .int 0]))] sz) (wLG aI u)) (va_A [(h0, .inr (1, [.null, .null, .null, .int 0, .int 0]))] sz)) 3 96 (va_A [(h0, .inr (1, [.null, .null, .null, .int 0, .int 0]))] sz) := by
  refine Met.ofW (cc := prog_3_method_1_code) (maxL := 1) (ret := none) (by decide) rfl ?_
  intro p e s m args below meth c s₁ B hml hv
  obtain ⟨rfl, hsz, hP, hK, hD0⟩ := hv
  have hx := B.exec
  have hb := B.bytes
  have hr := B.returns
  have hts := atoms_spec (ws := Cond.code yi_1 prog_3_method_1_code 1 none :: mGd) B.pre
  have hg : ∀ w ∈ mGd, w.before _ s = true := fun w hw => hts w (List.mem_cons_of_mem _ hw)
  have hown : s.vm.findClass RX1 = some m.cls := findClass_of_methodNamed B.named
  have hlocks := B.notSynchronized
  have hin : meth.name = "<init>" := (name_of_methodNamed B.named B.method).1
  subst hsz
  have hD := hD0.self (sz := s.heap.size)
  generalize hAe : va_A [(h0, .inr (1, [.null, .null, .null, .int 0, .int 0]))] s.heap.size = A at hD ⊢
  have hA : ∀ q : Nat, s.heap.size ≤ q → A q := fun q h => by rw [← hAe]; exact Or.inr h
  have hS : va_S A s.heap s.heap [] := va_S.rf
  have hP : va_P (dC, dI) mCLS [(h0, .inr (1, [.null, .null, .null, .int 0, .int 0]))] s.heap := hP
  have hl := lv_entry ([.ref h0]) (n := 1) (Nat.le_of_ble_eq_true rfl)
  rw [lg_entry_eq]
  generalize (lg_sl ([.ref h0]) ++ List.replicate (1 - (lg_sl ([.ref h0])).length) Slot.unset).toArray = ls at hl ⊢
  have hl : lv_has ls 1 [(0, .ref h0)] := hl
  have hP : va_P (dC, dI) mCLS ((h0, .inr (1, [.null, .null, .null, .int 0, .int 0])) :: ([] : va_W)) s.heap := hP
  have hD : va_D A ((h0, .inr (1, [.null, .null, .null, .int 0, .int 0])) :: ([] : va_W)) := hD
  refine lv_aload_n hx hb di1_0 rfl (lv_at hl 0 rfl) ?_
  refine W.objInit hx hb hown (hg (.methodLink RX1 3 objectInit) (mGd_in (i := 273) (by decide +kernel) rfl)) (hg (.instanceMethod objectInit) (mGd_in (i := 109) (by decide +kernel) rfl)) (hg (.code objectInit ⟨#[0xb1]⟩ 1 none) (mGd_in (i := 110) (by decide +kernel) rfl)) rfl (by rw [hml]; exact hl.1) rfl di1_1 (Nat.le_of_ble_eq_true rfl) (Nat.le_of_ble_eq_true rfl) ?_
  refine W.eq (g2 := F0 m 4 ls []) rfl ?_
  refine lv_aload_n hx hb di1_4 rfl (lv_at hl 0 rfl) ?_
  refine lv_bipush (v := 32) hx hb di1_5 (by decide) ?_
  refine va_newa (atype := .int) (ty := .int) (N' := 32) (a0 := ni 32) hx hb (hg (.arrayClass .int) (mGd_in (i := 175) (by decide +kernel) rfl)) rfl hK hP hD hS hA (fun _ => rfl) (by decide) (by decide) (Nat.le_of_ble_eq_true rfl) (Nat.le_of_ble_eq_true rfl) (Nat.le_of_ble_eq_true rfl) di1_7 (fun q7 cA H hK hP hD hS => ?_)
  have hcA := aI_eq hK
  subst hcA
  have hK := hK.sub (tys' := [(_, .int), (_, .byte)]) [0, 1] rfl
  have hP : va_P (dC, dI) mCLS ((h0, .inr (1, [.null, .null, .null, .int 0, .int 0])) :: (([] : va_W) ++ [(q7, .inl (aI, ni 32))])) H := hP
  have hD : va_D A ((h0, .inr (1, [.null, .null, .null, .int 0, .int 0])) :: (([] : va_W) ++ [(q7, .inl (aI, ni 32))])) := hD
  refine W.widen (k := 1) (n := 32) (by omega) (by omega) ?_
  refine va_putF (D := (dC, dI)) (ci := 1) (v := .ref q7) (ty := (.array .int)) (C := RX1) (T := TX1) (N := 5) hx hb hg uw_1 tyX1 tyX1_ok nmX1 hown hK hP hD hS 0 rfl rfl 0 (by decide) (hg (.fieldLink RX1 9 "RingedLights$Log" "kinds" "[I") (mGd_in (i := 274) (by decide +kernel) rfl)) (fun _ h9 => h9) rfl hin rfl (by decide +kernel) rfl rfl (Nat.le_of_ble_eq_true rfl) di1_9 (fun H locs hP hD hS => ?_)
  have hP : va_P (dC, dI) mCLS ((h0, .inr (1, [.ref q7, .null, .null, .int 0, .int 0])) :: (([] : va_W) ++ [(q7, .inl (aI, ni 32))])) H := hP
  have hD : va_D A ((h0, .inr (1, [.ref q7, .null, .null, .int 0, .int 0])) :: (([] : va_W) ++ [(q7, .inl (aI, ni 32))])) := hD
  refine lv_aload_n hx hb di1_12 rfl (lv_at hl 0 rfl) ?_
  refine lv_bipush (v := 32) hx hb di1_13 (by decide) ?_
  refine va_newa (atype := .int) (ty := .int) (N' := 32) (a0 := ni 32) hx hb (hg (.arrayClass .int) (mGd_in (i := 175) (by decide +kernel) rfl)) rfl hK hP hD hS hA (fun _ => rfl) (by decide) (by decide) (Nat.le_of_ble_eq_true rfl) (Nat.le_of_ble_eq_true rfl) (Nat.le_of_ble_eq_true rfl) di1_15 (fun q15 cA H hK hP hD hS => ?_)
  have hcA := aI_eq hK
  subst hcA
  have hK := hK.sub (tys' := [(_, .int), (_, .byte)]) [0, 1] rfl
  have hP : va_P (dC, dI) mCLS ((h0, .inr (1, [.ref q7, .null, .null, .int 0, .int 0])) :: ((([] : va_W) ++ [(q7, .inl (aI, ni 32))]) ++ [(q15, .inl (aI, ni 32))])) H := hP
  have hD : va_D A ((h0, .inr (1, [.ref q7, .null, .null, .int 0, .int 0])) :: ((([] : va_W) ++ [(q7, .inl (aI, ni 32))]) ++ [(q15, .inl (aI, ni 32))])) := hD
  refine W.widen (k := 2) (n := 64) (by omega) (by omega) ?_
  refine va_putF (D := (dC, dI)) (ci := 1) (v := .ref q15) (ty := (.array .int)) (C := RX1) (T := TX1) (N := 5) hx hb hg uw_1 tyX1 tyX1_ok nmX1 hown hK hP hD hS 0 rfl rfl 1 (by decide) (hg (.fieldLink RX1 15 "RingedLights$Log" "ticks" "[I") (mGd_in (i := 275) (by decide +kernel) rfl)) (fun _ h9 => h9) rfl hin rfl (by decide +kernel) rfl rfl (Nat.le_of_ble_eq_true rfl) di1_17 (fun H locs hP hD hS => ?_)
  have hP : va_P (dC, dI) mCLS ((h0, .inr (1, [.ref q7, .ref q15, .null, .int 0, .int 0])) :: ((([] : va_W) ++ [(q7, .inl (aI, ni 32))]) ++ [(q15, .inl (aI, ni 32))])) H := hP
  have hD : va_D A ((h0, .inr (1, [.ref q7, .ref q15, .null, .int 0, .int 0])) :: ((([] : va_W) ++ [(q7, .inl (aI, ni 32))]) ++ [(q15, .inl (aI, ni 32))])) := hD
  refine lv_aload_n hx hb di1_20 rfl (lv_at hl 0 rfl) ?_
  refine lv_bipush (v := 32) hx hb di1_21 (by decide) ?_
  refine va_newa (atype := .int) (ty := .int) (N' := 32) (a0 := ni 32) hx hb (hg (.arrayClass .int) (mGd_in (i := 175) (by decide +kernel) rfl)) rfl hK hP hD hS hA (fun _ => rfl) (by decide) (by decide) (Nat.le_of_ble_eq_true rfl) (Nat.le_of_ble_eq_true rfl) (Nat.le_of_ble_eq_true rfl) di1_23 (fun q23 cA H hK hP hD hS => ?_)
  have hcA := aI_eq hK
  subst hcA
  have hK := hK.sub (tys' := [(_, .int), (_, .byte)]) [0, 1] rfl
  have hP : va_P (dC, dI) mCLS ((h0, .inr (1, [.ref q7, .ref q15, .null, .int 0, .int 0])) :: (((([] : va_W) ++ [(q7, .inl (aI, ni 32))]) ++ [(q15, .inl (aI, ni 32))]) ++ [(q23, .inl (aI, ni 32))])) H := hP
  have hD : va_D A ((h0, .inr (1, [.ref q7, .ref q15, .null, .int 0, .int 0])) :: (((([] : va_W) ++ [(q7, .inl (aI, ni 32))]) ++ [(q15, .inl (aI, ni 32))]) ++ [(q23, .inl (aI, ni 32))])) := hD
  refine W.widen (k := 3) (n := 96) (by omega) (by omega) ?_
  refine va_putF (D := (dC, dI)) (ci := 1) (v := .ref q23) (ty := (.array .int)) (C := RX1) (T := TX1) (N := 5) hx hb hg uw_1 tyX1 tyX1_ok nmX1 hown hK hP hD hS 0 rfl rfl 2 (by decide) (hg (.fieldLink RX1 18 "RingedLights$Log" "whiches" "[I") (mGd_in (i := 276) (by decide +kernel) rfl)) (fun _ h9 => h9) rfl hin rfl (by decide +kernel) rfl rfl (Nat.le_of_ble_eq_true rfl) di1_25 (fun H locs hP hD hS => ?_)
  have hP : va_P (dC, dI) mCLS ((h0, .inr (1, [.ref q7, .ref q15, .ref q23, .int 0, .int 0])) :: (((([] : va_W) ++ [(q7, .inl (aI, ni 32))]) ++ [(q15, .inl (aI, ni 32))]) ++ [(q23, .inl (aI, ni 32))])) H := hP
  have hD : va_D A ((h0, .inr (1, [.ref q7, .ref q15, .ref q23, .int 0, .int 0])) :: (((([] : va_W) ++ [(q7, .inl (aI, ni 32))]) ++ [(q15, .inl (aI, ni 32))]) ++ [(q23, .inl (aI, ni 32))])) := hD
  exact W.vret hx hb hr (fun t ht hW => ⟨⟨(fun j => match j with | 10 => h0 | 11 => q7 | 12 => q15 | 13 => q23 | _ => 0), rfl, rfl, by rw [ht]; exact hP, hD⟩, hS.F ht⟩) hS.2.2 di1_28
theorem di0_0 : decode prog_2_method_1_code 0 = .ok (.aload_n 0, 1) := by decide +kernel
theorem di0_1 : decode prog_2_method_1_code 1 = .ok (.invokespecial 3, 3) := by decide +kernel
theorem di0_4 : decode prog_2_method_1_code 4 = .ok (.aload_n 0, 1) := by decide +kernel
theorem di0_5 : decode prog_2_method_1_code 5 = .ok (.new 9, 3) := by decide +kernel
theorem di0_8 : decode prog_2_method_1_code 8 = .ok (.dup, 1) := by decide +kernel
theorem di0_9 : decode prog_2_method_1_code 9 = .ok (.invokespecial 11, 3) := by decide +kernel
theorem di0_12 : decode prog_2_method_1_code 12 = .ok (.putfield 12, 3) := by decide +kernel
theorem di0_15 : decode prog_2_method_1_code 15 = .ok (.aload_n 0, 1) := by decide +kernel
theorem di0_16 : decode prog_2_method_1_code 16 = .ok (.new 18, 3) := by decide +kernel
theorem di0_19 : decode prog_2_method_1_code 19 = .ok (.dup, 1) := by decide +kernel
theorem di0_20 : decode prog_2_method_1_code 20 = .ok (.iconst 0, 1) := by decide +kernel
theorem di0_21 : decode prog_2_method_1_code 21 = .ok (.invokespecial 20, 3) := by decide +kernel
theorem di0_24 : decode prog_2_method_1_code 24 = .ok (.putfield 23, 3) := by decide +kernel
theorem di0_27 : decode prog_2_method_1_code 27 = .ok (.aload_n 0, 1) := by decide +kernel
theorem di0_28 : decode prog_2_method_1_code 28 = .ok (.new 18, 3) := by decide +kernel
theorem di0_31 : decode prog_2_method_1_code 31 = .ok (.dup, 1) := by decide +kernel
theorem di0_32 : decode prog_2_method_1_code 32 = .ok (.iconst 1, 1) := by decide +kernel
theorem di0_33 : decode prog_2_method_1_code 33 = .ok (.invokespecial 20, 3) := by decide +kernel
theorem di0_36 : decode prog_2_method_1_code 36 = .ok (.putfield 27, 3) := by decide +kernel
theorem di0_39 : decode prog_2_method_1_code 39 = .ok (.aload_n 0, 1) := by decide +kernel
theorem di0_40 : decode prog_2_method_1_code 40 = .ok (.new 30, 3) := by decide +kernel
theorem di0_43 : decode prog_2_method_1_code 43 = .ok (.dup, 1) := by decide +kernel
theorem di0_44 : decode prog_2_method_1_code 44 = .ok (.invokespecial 32, 3) := by decide +kernel
theorem di0_47 : decode prog_2_method_1_code 47 = .ok (.putfield 33, 3) := by decide +kernel
theorem di0_50 : decode prog_2_method_1_code 50 = .ok (.aload_n 0, 1) := by decide +kernel
theorem di0_51 : decode prog_2_method_1_code 51 = .ok (.bipush 8, 2) := by decide +kernel
theorem di0_53 : decode prog_2_method_1_code 53 = .ok (.newarray .int, 2) := by decide +kernel
theorem di0_55 : decode prog_2_method_1_code 55 = .ok (.putfield 37, 3) := by decide +kernel
theorem di0_58 : decode prog_2_method_1_code 58 = .ok (.aload_n 0, 1) := by decide +kernel
theorem di0_59 : decode prog_2_method_1_code 59 = .ok (.bipush 8, 2) := by decide +kernel
theorem di0_61 : decode prog_2_method_1_code 61 = .ok (.newarray .int, 2) := by decide +kernel
theorem di0_63 : decode prog_2_method_1_code 63 = .ok (.putfield 41, 3) := by decide +kernel
theorem di0_66 : decode prog_2_method_1_code 66 = .ok (.aload_n 0, 1) := by decide +kernel
theorem di0_67 : decode prog_2_method_1_code 67 = .ok (.iconst (-1), 1) := by decide +kernel
theorem di0_68 : decode prog_2_method_1_code 68 = .ok (.putfield 44, 3) := by decide +kernel
theorem di0_71 : decode prog_2_method_1_code 71 = .ok (.return_, 1) := by decide +kernel
def yi_0 : MethodName := ⟨RX0, "<init>", "()V"⟩
abbrev rm_0 : Room := { frames := 2, cells := 15, slots := 265, locals := 33 }
theorem gi_0 : GoodIn mGd (Cond.code yi_0 prog_2_method_1_code 1 none :: mGd) := fun w hw => by
  rcases List.mem_cons.mp hw with rfl | hw
  · exact mGd_good (mGd_in (i := 221) (by decide +kernel) rfl)
  · exact mGd_good hw
set_option maxHeartbeats 4000000 in
set_option maxRecDepth 100000 in
theorem ci_0 (l : Launch) (dC : Nat → ClassId) (dI : Nat → Nat → Nat) (aI aB : ClassId) (h0 sz : Nat) : Met l yi_0 (Cond.code yi_0 prog_2_method_1_code 1 none :: mGd) rm_0 (va_Pc [.ref h0] (fun U => U.heap.size = sz ∧ va_P (dC, dI) mCLS [(h0, .inr (0, [.null, .null, .null, .null, .null, .null, .int 0, .int 0, .int 0, .int 0, .int 0, .int 0, .int 0, .int 0, .int 0, .int 0, .int 0, .int 0, .int 0]))] U.heap ∧ va_K (dC, dI) mCLS [(aI, .int), (aB, .byte)] U ∧ va_D (fun _ => True) [(h0, .inr (0, [.null, .null, .null, .null, .null, .null, .int 0, .int 0, .int 0, .int 0, .int 0, .int 0, .int 0, .int 0, .int 0, .int 0, .int 0, .int 0, .int 0]))])) (va_Qv (fun u : Nat → Nat => u 0 = h0) (fun (u : Nat → Nat) t => va_P (dC, dI) mCLS (wCR aI u) t.heap ∧ va_D (va_A [(h0, .inr (0, [.null, .null, .null, .null, .null, .null, .int 0, .int 0, .int 0, .int 0, .int 0, .int 0, .int 0, .int 0, .int 0, .int 0, .int 0, .int 0, .int 0]))] sz) (wCR aI u)) (va_A [(h0, .inr (0, [.null, .null, .null, .null, .null, .null, .int 0, .int 0, .int 0, .int 0, .int 0, .int 0, .int 0, .int 0, .int 0, .int 0, .int 0, .int 0, .int 0]))] sz)) 15 265 (va_A [(h0, .inr (0, [.null, .null, .null, .null, .null, .null, .int 0, .int 0, .int 0, .int 0, .int 0, .int 0, .int 0, .int 0, .int 0, .int 0, .int 0, .int 0, .int 0]))] sz) := by
  refine Met.ofW (cc := prog_2_method_1_code) (maxL := 1) (ret := none) (by decide) rfl ?_
  intro p e s m args below meth c s₁ B hml hv
  obtain ⟨rfl, hsz, hP, hK, hD0⟩ := hv
  have hx := B.exec
  have hb := B.bytes
  have hr := B.returns
  have hts := atoms_spec (ws := Cond.code yi_0 prog_2_method_1_code 1 none :: mGd) B.pre
  have hg : ∀ w ∈ mGd, w.before _ s = true := fun w hw => hts w (List.mem_cons_of_mem _ hw)
  have hown : s.vm.findClass RX0 = some m.cls := findClass_of_methodNamed B.named
  have hlocks := B.notSynchronized
  have hin : meth.name = "<init>" := (name_of_methodNamed B.named B.method).1
  subst hsz
  have hD := hD0.self (sz := s.heap.size)
  generalize hAe : va_A [(h0, .inr (0, [.null, .null, .null, .null, .null, .null, .int 0, .int 0, .int 0, .int 0, .int 0, .int 0, .int 0, .int 0, .int 0, .int 0, .int 0, .int 0, .int 0]))] s.heap.size = A at hD ⊢
  have hA : ∀ q : Nat, s.heap.size ≤ q → A q := fun q h => by rw [← hAe]; exact Or.inr h
  have hS : va_S A s.heap s.heap [] := va_S.rf
  have hP : va_P (dC, dI) mCLS [(h0, .inr (0, [.null, .null, .null, .null, .null, .null, .int 0, .int 0, .int 0, .int 0, .int 0, .int 0, .int 0, .int 0, .int 0, .int 0, .int 0, .int 0, .int 0]))] s.heap := hP
  have hl := lv_entry ([.ref h0]) (n := 1) (Nat.le_of_ble_eq_true rfl)
  rw [lg_entry_eq]
  generalize (lg_sl ([.ref h0]) ++ List.replicate (1 - (lg_sl ([.ref h0])).length) Slot.unset).toArray = ls at hl ⊢
  have hl : lv_has ls 1 [(0, .ref h0)] := hl
  have hP : va_P (dC, dI) mCLS ((h0, .inr (0, [.null, .null, .null, .null, .null, .null, .int 0, .int 0, .int 0, .int 0, .int 0, .int 0, .int 0, .int 0, .int 0, .int 0, .int 0, .int 0, .int 0])) :: ([] : va_W)) s.heap := hP
  have hD : va_D A ((h0, .inr (0, [.null, .null, .null, .null, .null, .null, .int 0, .int 0, .int 0, .int 0, .int 0, .int 0, .int 0, .int 0, .int 0, .int 0, .int 0, .int 0, .int 0])) :: ([] : va_W)) := hD
  refine lv_aload_n hx hb di0_0 rfl (lv_at hl 0 rfl) ?_
  refine W.objInit hx hb hown (hg (.methodLink RX0 3 objectInit) (mGd_in (i := 222) (by decide +kernel) rfl)) (hg (.instanceMethod objectInit) (mGd_in (i := 109) (by decide +kernel) rfl)) (hg (.code objectInit ⟨#[0xb1]⟩ 1 none) (mGd_in (i := 110) (by decide +kernel) rfl)) rfl (by rw [hml]; exact hl.1) rfl di0_1 (Nat.le_of_ble_eq_true rfl) (Nat.le_of_ble_eq_true rfl) ?_
  refine W.eq (g2 := F0 m 4 ls []) rfl ?_
  refine lv_aload_n hx hb di0_4 rfl (lv_at hl 0 rfl) ?_
  refine va_new (ci := 2) (fs := [.int 0, .int 0, .int 0, .null, .null, .null, .null, .null, .null, .int 0, .int 0, .int 0]) (C := RX2) (T := TX2) (N := 12) hx hb hg uw_2 tyX2 tyX2_ok hown (hg (.classLink RX0 9 RX2) (mGd_in (i := 223) (by decide +kernel) rfl)) (hg (.instantiable RX2 12) (mGd_in (i := 118) (by decide +kernel) rfl)) (hg (.initialized RX2) (mGd_in (i := 92) (by decide +kernel) rfl)) hK hP hD hS hA rfl (by intro j hj; rcases (show j = 0 ∨ j = 1 ∨ j = 2 ∨ j = 3 ∨ j = 4 ∨ j = 5 ∨ j = 6 ∨ j = 7 ∨ j = 8 ∨ j = 9 ∨ j = 10 ∨ j = 11 by omega) with rfl | rfl | rfl | rfl | rfl | rfl | rfl | rfl | rfl | rfl | rfl | rfl <;> rfl) (Nat.le_of_ble_eq_true rfl) (Nat.le_of_ble_eq_true rfl) di0_5 (fun q5 H hP hD hS => ?_)
  have hP : va_P (dC, dI) mCLS (((h0, .inr (0, [.null, .null, .null, .null, .null, .null, .int 0, .int 0, .int 0, .int 0, .int 0, .int 0, .int 0, .int 0, .int 0, .int 0, .int 0, .int 0, .int 0])) :: ([] : va_W)) ++ [(q5, .inr (2, [.int 0, .int 0, .int 0, .null, .null, .null, .null, .null, .null, .int 0, .int 0, .int 0]))]) H := hP
  have hD : va_D A (((h0, .inr (0, [.null, .null, .null, .null, .null, .null, .int 0, .int 0, .int 0, .int 0, .int 0, .int 0, .int 0, .int 0, .int 0, .int 0, .int 0, .int 0, .int 0])) :: ([] : va_W)) ++ [(q5, .inr (2, [.int 0, .int 0, .int 0, .null, .null, .null, .null, .null, .null, .int 0, .int 0, .int 0]))]) := hD
  refine W.widen (k := 1) (n := 12) (by omega) (by omega) ?_
  refine lv_dup hx hb di0_8 rfl ?_
  have hPc := lst_P hP
  have hDc := lst_D hD
  have hFc := fr1 hD hS hA
  refine va_callv (va_runI (As := []) (rest := [.ref q5, .ref h0]) ⟨hx, hb, hml, hown, hg⟩ (ci_2 l dC dI aI aB q5 H.size) (cwI 0 hg gi_2 rfl rfl rfl (hg (.initialized RX2) (mGd_in (i := 92) (by decide +kernel) rfl)) (hg (.methodLink RX0 11 yi_2) (mGd_in (i := 224) (by decide +kernel) rfl)) (hg (.instanceMethod yi_2) (mGd_in (i := 120) (by decide +kernel) rfl)) rfl (by decide +kernel) ⟨Nat.le_of_ble_eq_true rfl, Nat.le_of_ble_eq_true rfl⟩) ⟨fun a U g mk q => by obtain ⟨q0, q1, qP, qK, qD⟩ := q; exact ⟨q0, q1, qP, va_K.moved (u := U) (U := U.calling g mk a) (Vm.Alike.refl U.vm) qK, qD⟩, fun U hU hW => ⟨rfl, by rw [hU], by rw [hU]; exact hPc, va_K.moved hW.alike hK, hDc.weaken (fun _ _ _ _ => trivial)⟩⟩ rfl rfl hl.1 rfl (lv_room (Nat.le_of_ble_eq_true rfl)) di0_9 ⟨Nat.le_of_ble_eq_true rfl, Nat.le_of_ble_eq_true rfl⟩) hS (fun q _ h => hFc q h) hFc (fun u9 t H1 locs ht hvm hw9 hB hz1 hk1 hS => ?_)
  obtain ⟨hP1, hD1⟩ := hB
  rw [ht] at hP1
  obtain ⟨hP, hD⟩ := jn hP hD hk1 hFc hP1 hD1
  generalize H1 = H at hP hS ⊢
  have hP : va_P (dC, dI) mCLS ((h0, .inr (0, [.null, .null, .null, .null, .null, .null, .int 0, .int 0, .int 0, .int 0, .int 0, .int 0, .int 0, .int 0, .int 0, .int 0, .int 0, .int 0, .int 0])) :: (([] : va_W) ++ wPL aI u9)) H := hP
  have hD : va_D A ((h0, .inr (0, [.null, .null, .null, .null, .null, .null, .int 0, .int 0, .int 0, .int 0, .int 0, .int 0, .int 0, .int 0, .int 0, .int 0, .int 0, .int 0, .int 0])) :: (([] : va_W) ++ wPL aI u9)) := hD
  refine W.widen (k := 7) (n := 130) (by omega) (by omega) ?_
  refine va_putF (D := (dC, dI)) (ci := 0) (v := .ref q5) (ty := (.object "RingedLights$Plan")) (C := RX0) (T := TX0) (N := 19) hx hb hg uw_0 tyX0 tyX0_ok nmX0 hown hK hP hD hS 0 rfl rfl 0 (by decide) (hg (.fieldLink RX0 12 "RingedLights$Crossing" "plan" "LRingedLights$Plan;") (mGd_in (i := 291) (by decide +kernel) rfl)) (fun _ h9 => h9) rfl hin rfl (by decide +kernel) rfl rfl (Nat.le_of_ble_eq_true rfl) di0_12 (fun H locs hP hD hS => ?_)
  have hP : va_P (dC, dI) mCLS ((h0, .inr (0, [.ref q5, .null, .null, .null, .null, .null, .int 0, .int 0, .int 0, .int 0, .int 0, .int 0, .int 0, .int 0, .int 0, .int 0, .int 0, .int 0, .int 0])) :: (([] : va_W) ++ wPL aI u9)) H := hP
  have hD : va_D A ((h0, .inr (0, [.ref q5, .null, .null, .null, .null, .null, .int 0, .int 0, .int 0, .int 0, .int 0, .int 0, .int 0, .int 0, .int 0, .int 0, .int 0, .int 0, .int 0])) :: (([] : va_W) ++ wPL aI u9)) := hD
  refine lv_aload_n hx hb di0_15 rfl (lv_at hl 0 rfl) ?_
  refine va_new (ci := 4) (fs := [.int 0, .int 0, .int 0, .int 0, .int 0, .int 0, .int 0, .int 0, .int 0]) (C := RX4) (T := TX4) (N := 9) hx hb hg uw_4 tyX4 tyX4_ok hown (hg (.classLink RX0 18 RX4) (mGd_in (i := 225) (by decide +kernel) rfl)) (hg (.instantiable RX4 9) (mGd_in (i := 226) (by decide +kernel) rfl)) (hg (.initialized RX4) (mGd_in (i := 94) (by decide +kernel) rfl)) hK hP hD hS hA rfl (by intro j hj; rcases (show j = 0 ∨ j = 1 ∨ j = 2 ∨ j = 3 ∨ j = 4 ∨ j = 5 ∨ j = 6 ∨ j = 7 ∨ j = 8 by omega) with rfl | rfl | rfl | rfl | rfl | rfl | rfl | rfl | rfl <;> rfl) (Nat.le_of_ble_eq_true rfl) (Nat.le_of_ble_eq_true rfl) di0_16 (fun q16 H hP hD hS => ?_)
  have hP : va_P (dC, dI) mCLS (((h0, .inr (0, [.ref q5, .null, .null, .null, .null, .null, .int 0, .int 0, .int 0, .int 0, .int 0, .int 0, .int 0, .int 0, .int 0, .int 0, .int 0, .int 0, .int 0])) :: (([] : va_W) ++ wPL aI u9)) ++ [(q16, .inr (4, [.int 0, .int 0, .int 0, .int 0, .int 0, .int 0, .int 0, .int 0, .int 0]))]) H := hP
  have hD : va_D A (((h0, .inr (0, [.ref q5, .null, .null, .null, .null, .null, .int 0, .int 0, .int 0, .int 0, .int 0, .int 0, .int 0, .int 0, .int 0, .int 0, .int 0, .int 0, .int 0])) :: (([] : va_W) ++ wPL aI u9)) ++ [(q16, .inr (4, [.int 0, .int 0, .int 0, .int 0, .int 0, .int 0, .int 0, .int 0, .int 0]))]) := hD
  refine W.widen (k := 8) (n := 139) (by omega) (by omega) ?_
  refine lv_dup hx hb di0_19 rfl ?_
  refine lv_iconst (v := 0) hx hb di0_20 (by decide) ?_
  have hPc := lst_P hP
  have hDc := lst_D hD
  have hFc := fr1 hD hS hA
  refine va_callv (va_runI (As := [.int 0]) (rest := [.ref q16, .ref h0]) ⟨hx, hb, hml, hown, hg⟩ (ci_4 l dC dI aI aB q16 H.size 0) (cwI 1 hg gi_4 rfl rfl rfl (hg (.initialized RX4) (mGd_in (i := 94) (by decide +kernel) rfl)) (hg (.methodLink RX0 20 yi_4) (mGd_in (i := 227) (by decide +kernel) rfl)) (hg (.instanceMethod yi_4) (mGd_in (i := 228) (by decide +kernel) rfl)) rfl (by decide +kernel) ⟨Nat.le_of_ble_eq_true rfl, Nat.le_of_ble_eq_true rfl⟩) ⟨fun a U g mk q => by obtain ⟨q0, q1, qP, qK, qD⟩ := q; exact ⟨q0, q1, qP, va_K.moved (u := U) (U := U.calling g mk a) (Vm.Alike.refl U.vm) qK, qD⟩, fun U hU hW => ⟨rfl, by rw [hU], by rw [hU]; exact hPc, va_K.moved hW.alike hK, hDc.weaken (fun _ _ _ _ => trivial)⟩⟩ rfl rfl hl.1 rfl (lv_room (Nat.le_of_ble_eq_true rfl)) di0_21 ⟨Nat.le_of_ble_eq_true rfl, Nat.le_of_ble_eq_true rfl⟩) hS (fun q _ h => hFc q h) hFc (fun u21 t H1 locs ht hvm hw21 hB hz1 hk1 hS => ?_)
  obtain ⟨hP1, hD1⟩ := hB
  rw [ht] at hP1
  obtain ⟨hP, hD⟩ := jn hP hD hk1 hFc hP1 hD1
  generalize H1 = H at hP hS ⊢
  have hP : va_P (dC, dI) mCLS ((h0, .inr (0, [.ref q5, .null, .null, .null, .null, .null, .int 0, .int 0, .int 0, .int 0, .int 0, .int 0, .int 0, .int 0, .int 0, .int 0, .int 0, .int 0, .int 0])) :: ((([] : va_W) ++ wPL aI u9) ++ wRG q16 0)) H := hP
  have hD : va_D A ((h0, .inr (0, [.ref q5, .null, .null, .null, .null, .null, .int 0, .int 0, .int 0, .int 0, .int 0, .int 0, .int 0, .int 0, .int 0, .int 0, .int 0, .int 0, .int 0])) :: ((([] : va_W) ++ wPL aI u9) ++ wRG q16 0)) := hD
  refine W.widen (k := 8) (n := 139) (by omega) (by omega) ?_
  refine va_putF (D := (dC, dI)) (ci := 0) (v := .ref q16) (ty := (.object "RingedLights$Ring")) (C := RX0) (T := TX0) (N := 19) hx hb hg uw_0 tyX0 tyX0_ok nmX0 hown hK hP hD hS 0 rfl rfl 1 (by decide) (hg (.fieldLink RX0 23 "RingedLights$Crossing" "ring0" "LRingedLights$Ring;") (mGd_in (i := 293) (by decide +kernel) rfl)) (fun _ h9 => h9) rfl hin rfl (by decide +kernel) rfl rfl (Nat.le_of_ble_eq_true rfl) di0_24 (fun H locs hP hD hS => ?_)
  have hP : va_P (dC, dI) mCLS ((h0, .inr (0, [.ref q5, .ref q16, .null, .null, .null, .null, .int 0, .int 0, .int 0, .int 0, .int 0, .int 0, .int 0, .int 0, .int 0, .int 0, .int 0, .int 0, .int 0])) :: ((([] : va_W) ++ wPL aI u9) ++ wRG q16 0)) H := hP
  have hD : va_D A ((h0, .inr (0, [.ref q5, .ref q16, .null, .null, .null, .null, .int 0, .int 0, .int 0, .int 0, .int 0, .int 0, .int 0, .int 0, .int 0, .int 0, .int 0, .int 0, .int 0])) :: ((([] : va_W) ++ wPL aI u9) ++ wRG q16 0)) := hD
  refine lv_aload_n hx hb di0_27 rfl (lv_at hl 0 rfl) ?_
  refine va_new (ci := 4) (fs := [.int 0, .int 0, .int 0, .int 0, .int 0, .int 0, .int 0, .int 0, .int 0]) (C := RX4) (T := TX4) (N := 9) hx hb hg uw_4 tyX4 tyX4_ok hown (hg (.classLink RX0 18 RX4) (mGd_in (i := 225) (by decide +kernel) rfl)) (hg (.instantiable RX4 9) (mGd_in (i := 226) (by decide +kernel) rfl)) (hg (.initialized RX4) (mGd_in (i := 94) (by decide +kernel) rfl)) hK hP hD hS hA rfl (by intro j hj; rcases (show j = 0 ∨ j = 1 ∨ j = 2 ∨ j = 3 ∨ j = 4 ∨ j = 5 ∨ j = 6 ∨ j = 7 ∨ j = 8 by omega) with rfl | rfl | rfl | rfl | rfl | rfl | rfl | rfl | rfl <;> rfl) (Nat.le_of_ble_eq_true rfl) (Nat.le_of_ble_eq_true rfl) di0_28 (fun q28 H hP hD hS => ?_)
  have hP : va_P (dC, dI) mCLS (((h0, .inr (0, [.ref q5, .ref q16, .null, .null, .null, .null, .int 0, .int 0, .int 0, .int 0, .int 0, .int 0, .int 0, .int 0, .int 0, .int 0, .int 0, .int 0, .int 0])) :: ((([] : va_W) ++ wPL aI u9) ++ wRG q16 0)) ++ [(q28, .inr (4, [.int 0, .int 0, .int 0, .int 0, .int 0, .int 0, .int 0, .int 0, .int 0]))]) H := hP
  have hD : va_D A (((h0, .inr (0, [.ref q5, .ref q16, .null, .null, .null, .null, .int 0, .int 0, .int 0, .int 0, .int 0, .int 0, .int 0, .int 0, .int 0, .int 0, .int 0, .int 0, .int 0])) :: ((([] : va_W) ++ wPL aI u9) ++ wRG q16 0)) ++ [(q28, .inr (4, [.int 0, .int 0, .int 0, .int 0, .int 0, .int 0, .int 0, .int 0, .int 0]))]) := hD
  refine W.widen (k := 9) (n := 148) (by omega) (by omega) ?_
  refine lv_dup hx hb di0_31 rfl ?_
  refine lv_iconst (v := 1) hx hb di0_32 (by decide) ?_
  have hPc := lst_P hP
  have hDc := lst_D hD
  have hFc := fr1 hD hS hA
  refine va_callv (va_runI (As := [.int 1]) (rest := [.ref q28, .ref h0]) ⟨hx, hb, hml, hown, hg⟩ (ci_4 l dC dI aI aB q28 H.size 1) (cwI 1 hg gi_4 rfl rfl rfl (hg (.initialized RX4) (mGd_in (i := 94) (by decide +kernel) rfl)) (hg (.methodLink RX0 20 yi_4) (mGd_in (i := 227) (by decide +kernel) rfl)) (hg (.instanceMethod yi_4) (mGd_in (i := 228) (by decide +kernel) rfl)) rfl (by decide +kernel) ⟨Nat.le_of_ble_eq_true rfl, Nat.le_of_ble_eq_true rfl⟩) ⟨fun a U g mk q => by obtain ⟨q0, q1, qP, qK, qD⟩ := q; exact ⟨q0, q1, qP, va_K.moved (u := U) (U := U.calling g mk a) (Vm.Alike.refl U.vm) qK, qD⟩, fun U hU hW => ⟨rfl, by rw [hU], by rw [hU]; exact hPc, va_K.moved hW.alike hK, hDc.weaken (fun _ _ _ _ => trivial)⟩⟩ rfl rfl hl.1 rfl (lv_room (Nat.le_of_ble_eq_true rfl)) di0_33 ⟨Nat.le_of_ble_eq_true rfl, Nat.le_of_ble_eq_true rfl⟩) hS (fun q _ h => hFc q h) hFc (fun u33 t H1 locs ht hvm hw33 hB hz1 hk1 hS => ?_)
  obtain ⟨hP1, hD1⟩ := hB
  rw [ht] at hP1
  obtain ⟨hP, hD⟩ := jn hP hD hk1 hFc hP1 hD1
  generalize H1 = H at hP hS ⊢
  have hP : va_P (dC, dI) mCLS ((h0, .inr (0, [.ref q5, .ref q16, .null, .null, .null, .null, .int 0, .int 0, .int 0, .int 0, .int 0, .int 0, .int 0, .int 0, .int 0, .int 0, .int 0, .int 0, .int 0])) :: (((([] : va_W) ++ wPL aI u9) ++ wRG q16 0) ++ wRG q28 1)) H := hP
  have hD : va_D A ((h0, .inr (0, [.ref q5, .ref q16, .null, .null, .null, .null, .int 0, .int 0, .int 0, .int 0, .int 0, .int 0, .int 0, .int 0, .int 0, .int 0, .int 0, .int 0, .int 0])) :: (((([] : va_W) ++ wPL aI u9) ++ wRG q16 0) ++ wRG q28 1)) := hD
  refine W.widen (k := 9) (n := 148) (by omega) (by omega) ?_
  refine va_putF (D := (dC, dI)) (ci := 0) (v := .ref q28) (ty := (.object "RingedLights$Ring")) (C := RX0) (T := TX0) (N := 19) hx hb hg uw_0 tyX0 tyX0_ok nmX0 hown hK hP hD hS 0 rfl rfl 2 (by decide) (hg (.fieldLink RX0 27 "RingedLights$Crossing" "ring1" "LRingedLights$Ring;") (mGd_in (i := 295) (by decide +kernel) rfl)) (fun _ h9 => h9) rfl hin rfl (by decide +kernel) rfl rfl (Nat.le_of_ble_eq_true rfl) di0_36 (fun H locs hP hD hS => ?_)
  have hP : va_P (dC, dI) mCLS ((h0, .inr (0, [.ref q5, .ref q16, .ref q28, .null, .null, .null, .int 0, .int 0, .int 0, .int 0, .int 0, .int 0, .int 0, .int 0, .int 0, .int 0, .int 0, .int 0, .int 0])) :: (((([] : va_W) ++ wPL aI u9) ++ wRG q16 0) ++ wRG q28 1)) H := hP
  have hD : va_D A ((h0, .inr (0, [.ref q5, .ref q16, .ref q28, .null, .null, .null, .int 0, .int 0, .int 0, .int 0, .int 0, .int 0, .int 0, .int 0, .int 0, .int 0, .int 0, .int 0, .int 0])) :: (((([] : va_W) ++ wPL aI u9) ++ wRG q16 0) ++ wRG q28 1)) := hD
  refine lv_aload_n hx hb di0_39 rfl (lv_at hl 0 rfl) ?_
  refine va_new (ci := 1) (fs := [.null, .null, .null, .int 0, .int 0]) (C := RX1) (T := TX1) (N := 5) hx hb hg uw_1 tyX1 tyX1_ok hown (hg (.classLink RX0 30 RX1) (mGd_in (i := 268) (by decide +kernel) rfl)) (hg (.instantiable RX1 5) (mGd_in (i := 269) (by decide +kernel) rfl)) (hg (.initialized RX1) (mGd_in (i := 95) (by decide +kernel) rfl)) hK hP hD hS hA rfl (by intro j hj; rcases (show j = 0 ∨ j = 1 ∨ j = 2 ∨ j = 3 ∨ j = 4 by omega) with rfl | rfl | rfl | rfl | rfl <;> rfl) (Nat.le_of_ble_eq_true rfl) (Nat.le_of_ble_eq_true rfl) di0_40 (fun q40 H hP hD hS => ?_)
  have hP : va_P (dC, dI) mCLS (((h0, .inr (0, [.ref q5, .ref q16, .ref q28, .null, .null, .null, .int 0, .int 0, .int 0, .int 0, .int 0, .int 0, .int 0, .int 0, .int 0, .int 0, .int 0, .int 0, .int 0])) :: (((([] : va_W) ++ wPL aI u9) ++ wRG q16 0) ++ wRG q28 1)) ++ [(q40, .inr (1, [.null, .null, .null, .int 0, .int 0]))]) H := hP
  have hD : va_D A (((h0, .inr (0, [.ref q5, .ref q16, .ref q28, .null, .null, .null, .int 0, .int 0, .int 0, .int 0, .int 0, .int 0, .int 0, .int 0, .int 0, .int 0, .int 0, .int 0, .int 0])) :: (((([] : va_W) ++ wPL aI u9) ++ wRG q16 0) ++ wRG q28 1)) ++ [(q40, .inr (1, [.null, .null, .null, .int 0, .int 0]))]) := hD
  refine W.widen (k := 10) (n := 153) (by omega) (by omega) ?_
  refine lv_dup hx hb di0_43 rfl ?_
  have hPc := lst_P hP
  have hDc := lst_D hD
  have hFc := fr1 hD hS hA
  refine va_callv (va_runI (As := []) (rest := [.ref q40, .ref h0]) ⟨hx, hb, hml, hown, hg⟩ (ci_1 l dC dI aI aB q40 H.size) (cwI 0 hg gi_1 rfl rfl rfl (hg (.initialized RX1) (mGd_in (i := 95) (by decide +kernel) rfl)) (hg (.methodLink RX0 32 yi_1) (mGd_in (i := 270) (by decide +kernel) rfl)) (hg (.instanceMethod yi_1) (mGd_in (i := 271) (by decide +kernel) rfl)) rfl (by decide +kernel) ⟨Nat.le_of_ble_eq_true rfl, Nat.le_of_ble_eq_true rfl⟩) ⟨fun a U g mk q => by obtain ⟨q0, q1, qP, qK, qD⟩ := q; exact ⟨q0, q1, qP, va_K.moved (u := U) (U := U.calling g mk a) (Vm.Alike.refl U.vm) qK, qD⟩, fun U hU hW => ⟨rfl, by rw [hU], by rw [hU]; exact hPc, va_K.moved hW.alike hK, hDc.weaken (fun _ _ _ _ => trivial)⟩⟩ rfl rfl hl.1 rfl (lv_room (Nat.le_of_ble_eq_true rfl)) di0_44 ⟨Nat.le_of_ble_eq_true rfl, Nat.le_of_ble_eq_true rfl⟩) hS (fun q _ h => hFc q h) hFc (fun u44 t H1 locs ht hvm hw44 hB hz1 hk1 hS => ?_)
  obtain ⟨hP1, hD1⟩ := hB
  rw [ht] at hP1
  obtain ⟨hP, hD⟩ := jn hP hD hk1 hFc hP1 hD1
  generalize H1 = H at hP hS ⊢
  have hP : va_P (dC, dI) mCLS ((h0, .inr (0, [.ref q5, .ref q16, .ref q28, .null, .null, .null, .int 0, .int 0, .int 0, .int 0, .int 0, .int 0, .int 0, .int 0, .int 0, .int 0, .int 0, .int 0, .int 0])) :: ((((([] : va_W) ++ wPL aI u9) ++ wRG q16 0) ++ wRG q28 1) ++ wLG aI u44)) H := hP
  have hD : va_D A ((h0, .inr (0, [.ref q5, .ref q16, .ref q28, .null, .null, .null, .int 0, .int 0, .int 0, .int 0, .int 0, .int 0, .int 0, .int 0, .int 0, .int 0, .int 0, .int 0, .int 0])) :: ((((([] : va_W) ++ wPL aI u9) ++ wRG q16 0) ++ wRG q28 1) ++ wLG aI u44)) := hD
  refine W.widen (k := 13) (n := 249) (by omega) (by omega) ?_
  refine va_putF (D := (dC, dI)) (ci := 0) (v := .ref q40) (ty := (.object "RingedLights$Log")) (C := RX0) (T := TX0) (N := 19) hx hb hg uw_0 tyX0 tyX0_ok nmX0 hown hK hP hD hS 0 rfl rfl 3 (by decide) (hg (.fieldLink RX0 33 "RingedLights$Crossing" "log" "LRingedLights$Log;") (mGd_in (i := 297) (by decide +kernel) rfl)) (fun _ h9 => h9) rfl hin rfl (by decide +kernel) rfl rfl (Nat.le_of_ble_eq_true rfl) di0_47 (fun H locs hP hD hS => ?_)
  have hP : va_P (dC, dI) mCLS ((h0, .inr (0, [.ref q5, .ref q16, .ref q28, .ref q40, .null, .null, .int 0, .int 0, .int 0, .int 0, .int 0, .int 0, .int 0, .int 0, .int 0, .int 0, .int 0, .int 0, .int 0])) :: ((((([] : va_W) ++ wPL aI u9) ++ wRG q16 0) ++ wRG q28 1) ++ wLG aI u44)) H := hP
  have hD : va_D A ((h0, .inr (0, [.ref q5, .ref q16, .ref q28, .ref q40, .null, .null, .int 0, .int 0, .int 0, .int 0, .int 0, .int 0, .int 0, .int 0, .int 0, .int 0, .int 0, .int 0, .int 0])) :: ((((([] : va_W) ++ wPL aI u9) ++ wRG q16 0) ++ wRG q28 1) ++ wLG aI u44)) := hD
  refine lv_aload_n hx hb di0_50 rfl (lv_at hl 0 rfl) ?_
  refine lv_bipush (v := 8) hx hb di0_51 (by decide) ?_
  refine va_newa (atype := .int) (ty := .int) (N' := 8) (a0 := ni 8) hx hb (hg (.arrayClass .int) (mGd_in (i := 175) (by decide +kernel) rfl)) rfl hK hP hD hS hA (fun _ => rfl) (by decide) (by decide) (Nat.le_of_ble_eq_true rfl) (Nat.le_of_ble_eq_true rfl) (Nat.le_of_ble_eq_true rfl) di0_53 (fun q53 cA H hK hP hD hS => ?_)
  have hcA := aI_eq hK
  subst hcA
  have hK := hK.sub (tys' := [(_, .int), (_, .byte)]) [0, 1] rfl
  have hP : va_P (dC, dI) mCLS ((h0, .inr (0, [.ref q5, .ref q16, .ref q28, .ref q40, .null, .null, .int 0, .int 0, .int 0, .int 0, .int 0, .int 0, .int 0, .int 0, .int 0, .int 0, .int 0, .int 0, .int 0])) :: (((((([] : va_W) ++ wPL aI u9) ++ wRG q16 0) ++ wRG q28 1) ++ wLG aI u44) ++ [(q53, .inl (aI, ni 8))])) H := hP
  have hD : va_D A ((h0, .inr (0, [.ref q5, .ref q16, .ref q28, .ref q40, .null, .null, .int 0, .int 0, .int 0, .int 0, .int 0, .int 0, .int 0, .int 0, .int 0, .int 0, .int 0, .int 0, .int 0])) :: (((((([] : va_W) ++ wPL aI u9) ++ wRG q16 0) ++ wRG q28 1) ++ wLG aI u44) ++ [(q53, .inl (aI, ni 8))])) := hD
  refine W.widen (k := 14) (n := 257) (by omega) (by omega) ?_
  refine va_putF (D := (dC, dI)) (ci := 0) (v := .ref q53) (ty := (.array .int)) (C := RX0) (T := TX0) (N := 19) hx hb hg uw_0 tyX0 tyX0_ok nmX0 hown hK hP hD hS 0 rfl rfl 4 (by decide) (hg (.fieldLink RX0 37 "RingedLights$Crossing" "queues" "[I") (mGd_in (i := 299) (by decide +kernel) rfl)) (fun _ h9 => h9) rfl hin rfl (by decide +kernel) rfl rfl (Nat.le_of_ble_eq_true rfl) di0_55 (fun H locs hP hD hS => ?_)
  have hP : va_P (dC, dI) mCLS ((h0, .inr (0, [.ref q5, .ref q16, .ref q28, .ref q40, .ref q53, .null, .int 0, .int 0, .int 0, .int 0, .int 0, .int 0, .int 0, .int 0, .int 0, .int 0, .int 0, .int 0, .int 0])) :: (((((([] : va_W) ++ wPL aI u9) ++ wRG q16 0) ++ wRG q28 1) ++ wLG aI u44) ++ [(q53, .inl (aI, ni 8))])) H := hP
  have hD : va_D A ((h0, .inr (0, [.ref q5, .ref q16, .ref q28, .ref q40, .ref q53, .null, .int 0, .int 0, .int 0, .int 0, .int 0, .int 0, .int 0, .int 0, .int 0, .int 0, .int 0, .int 0, .int 0])) :: (((((([] : va_W) ++ wPL aI u9) ++ wRG q16 0) ++ wRG q28 1) ++ wLG aI u44) ++ [(q53, .inl (aI, ni 8))])) := hD
  refine lv_aload_n hx hb di0_58 rfl (lv_at hl 0 rfl) ?_
  refine lv_bipush (v := 8) hx hb di0_59 (by decide) ?_
  refine va_newa (atype := .int) (ty := .int) (N' := 8) (a0 := ni 8) hx hb (hg (.arrayClass .int) (mGd_in (i := 175) (by decide +kernel) rfl)) rfl hK hP hD hS hA (fun _ => rfl) (by decide) (by decide) (Nat.le_of_ble_eq_true rfl) (Nat.le_of_ble_eq_true rfl) (Nat.le_of_ble_eq_true rfl) di0_61 (fun q61 cA H hK hP hD hS => ?_)
  have hcA := aI_eq hK
  subst hcA
  have hK := hK.sub (tys' := [(_, .int), (_, .byte)]) [0, 1] rfl
  have hP : va_P (dC, dI) mCLS ((h0, .inr (0, [.ref q5, .ref q16, .ref q28, .ref q40, .ref q53, .null, .int 0, .int 0, .int 0, .int 0, .int 0, .int 0, .int 0, .int 0, .int 0, .int 0, .int 0, .int 0, .int 0])) :: ((((((([] : va_W) ++ wPL aI u9) ++ wRG q16 0) ++ wRG q28 1) ++ wLG aI u44) ++ [(q53, .inl (aI, ni 8))]) ++ [(q61, .inl (aI, ni 8))])) H := hP
  have hD : va_D A ((h0, .inr (0, [.ref q5, .ref q16, .ref q28, .ref q40, .ref q53, .null, .int 0, .int 0, .int 0, .int 0, .int 0, .int 0, .int 0, .int 0, .int 0, .int 0, .int 0, .int 0, .int 0])) :: ((((((([] : va_W) ++ wPL aI u9) ++ wRG q16 0) ++ wRG q28 1) ++ wLG aI u44) ++ [(q53, .inl (aI, ni 8))]) ++ [(q61, .inl (aI, ni 8))])) := hD
  refine W.widen (k := 15) (n := 265) (by omega) (by omega) ?_
  refine va_putF (D := (dC, dI)) (ci := 0) (v := .ref q61) (ty := (.array .int)) (C := RX0) (T := TX0) (N := 19) hx hb hg uw_0 tyX0 tyX0_ok nmX0 hown hK hP hD hS 0 rfl rfl 5 (by decide) (hg (.fieldLink RX0 41 "RingedLights$Crossing" "letGo" "[I") (mGd_in (i := 301) (by decide +kernel) rfl)) (fun _ h9 => h9) rfl hin rfl (by decide +kernel) rfl rfl (Nat.le_of_ble_eq_true rfl) di0_63 (fun H locs hP hD hS => ?_)
  have hP : va_P (dC, dI) mCLS ((h0, .inr (0, [.ref q5, .ref q16, .ref q28, .ref q40, .ref q53, .ref q61, .int 0, .int 0, .int 0, .int 0, .int 0, .int 0, .int 0, .int 0, .int 0, .int 0, .int 0, .int 0, .int 0])) :: ((((((([] : va_W) ++ wPL aI u9) ++ wRG q16 0) ++ wRG q28 1) ++ wLG aI u44) ++ [(q53, .inl (aI, ni 8))]) ++ [(q61, .inl (aI, ni 8))])) H := hP
  have hD : va_D A ((h0, .inr (0, [.ref q5, .ref q16, .ref q28, .ref q40, .ref q53, .ref q61, .int 0, .int 0, .int 0, .int 0, .int 0, .int 0, .int 0, .int 0, .int 0, .int 0, .int 0, .int 0, .int 0])) :: ((((((([] : va_W) ++ wPL aI u9) ++ wRG q16 0) ++ wRG q28 1) ++ wLG aI u44) ++ [(q53, .inl (aI, ni 8))]) ++ [(q61, .inl (aI, ni 8))])) := hD
  refine lv_aload_n hx hb di0_66 rfl (lv_at hl 0 rfl) ?_
  refine lv_iconst (v := (-1)) hx hb di0_67 (by decide) ?_
  refine va_put (D := (dC, dI)) (ci := 0) (v := .int (-1)) (ty := .int) (C := RX0) (T := TX0) (N := 19) hx hb hg uw_0 tyX0 tyX0_ok nmX0 hown hK hP hD hS 0 rfl rfl 16 (by decide) (hg (.fieldLink RX0 44 "RingedLights$Crossing" "begun" "I") (mGd_in (i := 321) (by decide +kernel) rfl)) (fun _ h9 => h9) rfl (by decide +kernel) rfl rfl (Nat.le_of_ble_eq_true rfl) di0_68 (fun H locs hP hD hS => ?_)
  have hP : va_P (dC, dI) mCLS ((h0, .inr (0, [.ref q5, .ref q16, .ref q28, .ref q40, .ref q53, .ref q61, .int 0, .int 0, .int 0, .int 0, .int 0, .int 0, .int 0, .int 0, .int 0, .int 0, .int (-1), .int 0, .int 0])) :: ((((((([] : va_W) ++ wPL aI u9) ++ wRG q16 0) ++ wRG q28 1) ++ wLG aI u44) ++ [(q53, .inl (aI, ni 8))]) ++ [(q61, .inl (aI, ni 8))])) H := hP
  have hD : va_D A ((h0, .inr (0, [.ref q5, .ref q16, .ref q28, .ref q40, .ref q53, .ref q61, .int 0, .int 0, .int 0, .int 0, .int 0, .int 0, .int 0, .int 0, .int 0, .int 0, .int (-1), .int 0, .int 0])) :: ((((((([] : va_W) ++ wPL aI u9) ++ wRG q16 0) ++ wRG q28 1) ++ wLG aI u44) ++ [(q53, .inl (aI, ni 8))]) ++ [(q61, .inl (aI, ni 8))])) := hD
  (try dsimp only at hw9)
  subst hw9
  (try dsimp only at hw44)
  subst hw44
  exact W.vret hx hb hr (fun t ht hW => ⟨⟨(fun j => match j with | 0 => h0 | 1 => u9 1 | 2 => u9 2 | 3 => u9 3 | 4 => u9 4 | 5 => u9 5 | 6 => u9 6 | 7 => u9 7 | 8 => q16 | 9 => q28 | 10 => u44 10 | 11 => u44 11 | 12 => u44 12 | 13 => u44 13 | 14 => q53 | 15 => q61 | _ => 0), rfl, rfl, by rw [ht]; exact hP, hD⟩, hS.F ht⟩) hS.2.2 di0_71
theorem di3_0 : decode prog_5_method_1_code 0 = .ok (.aload_n 0, 1) := by decide +kernel
theorem di3_1 : decode prog_5_method_1_code 1 = .ok (.invokespecial 3, 3) := by decide +kernel
theorem di3_4 : decode prog_5_method_1_code 4 = .ok (.aload_n 0, 1) := by decide +kernel
theorem di3_5 : decode prog_5_method_1_code 5 = .ok (.sipush 700, 3) := by decide +kernel
theorem di3_8 : decode prog_5_method_1_code 8 = .ok (.newarray .byte, 2) := by decide +kernel
theorem di3_10 : decode prog_5_method_1_code 10 = .ok (.putfield 9, 3) := by decide +kernel
theorem di3_13 : decode prog_5_method_1_code 13 = .ok (.aload_n 0, 1) := by decide +kernel
theorem di3_14 : decode prog_5_method_1_code 14 = .ok (.new 15, 3) := by decide +kernel
theorem di3_17 : decode prog_5_method_1_code 17 = .ok (.dup, 1) := by decide +kernel
theorem di3_18 : decode prog_5_method_1_code 18 = .ok (.invokespecial 17, 3) := by decide +kernel
theorem di3_21 : decode prog_5_method_1_code 21 = .ok (.putfield 18, 3) := by decide +kernel
theorem di3_24 : decode prog_5_method_1_code 24 = .ok (.return_, 1) := by decide +kernel
def yi_3 : MethodName := ⟨RX3, "<init>", "()V"⟩
abbrev rm_3 : Room := { frames := 2, cells := 8, slots := 830, locals := 32 }
theorem gi_3 : GoodIn mGd (Cond.code yi_3 prog_5_method_1_code 1 none :: mGd) := fun w hw => by
  rcases List.mem_cons.mp hw with rfl | hw
  · exact mGd_good (mGd_in (i := 115) (by decide +kernel) rfl)
  · exact mGd_good hw
set_option maxHeartbeats 4000000 in
set_option maxRecDepth 100000 in
theorem ci_3 (l : Launch) (dC : Nat → ClassId) (dI : Nat → Nat → Nat) (aI aB : ClassId) (h0 sz : Nat) : Met l yi_3 (Cond.code yi_3 prog_5_method_1_code 1 none :: mGd) rm_3 (va_Pc [.ref h0] (fun U => U.heap.size = sz ∧ va_P (dC, dI) mCLS [(h0, .inr (3, [.null, .null, .int 0, .int 0, .int 0, .int 0, .int 0, .int 0, .int 0, .int 0, .int 0, .int 0]))] U.heap ∧ va_K (dC, dI) mCLS [(aI, .int), (aB, .byte)] U ∧ va_D (fun _ => True) [(h0, .inr (3, [.null, .null, .int 0, .int 0, .int 0, .int 0, .int 0, .int 0, .int 0, .int 0, .int 0, .int 0]))])) (va_Qv (fun u : Nat → Nat => u 16 = h0) (fun (u : Nat → Nat) t => va_P (dC, dI) mCLS (wRD aI aB u) t.heap ∧ va_D (va_A [(h0, .inr (3, [.null, .null, .int 0, .int 0, .int 0, .int 0, .int 0, .int 0, .int 0, .int 0, .int 0, .int 0]))] sz) (wRD aI aB u)) (va_A [(h0, .inr (3, [.null, .null, .int 0, .int 0, .int 0, .int 0, .int 0, .int 0, .int 0, .int 0, .int 0, .int 0]))] sz)) 8 830 (va_A [(h0, .inr (3, [.null, .null, .int 0, .int 0, .int 0, .int 0, .int 0, .int 0, .int 0, .int 0, .int 0, .int 0]))] sz) := by
  refine Met.ofW (cc := prog_5_method_1_code) (maxL := 1) (ret := none) (by decide) rfl ?_
  intro p e s m args below meth c s₁ B hml hv
  obtain ⟨rfl, hsz, hP, hK, hD0⟩ := hv
  have hx := B.exec
  have hb := B.bytes
  have hr := B.returns
  have hts := atoms_spec (ws := Cond.code yi_3 prog_5_method_1_code 1 none :: mGd) B.pre
  have hg : ∀ w ∈ mGd, w.before _ s = true := fun w hw => hts w (List.mem_cons_of_mem _ hw)
  have hown : s.vm.findClass RX3 = some m.cls := findClass_of_methodNamed B.named
  have hlocks := B.notSynchronized
  have hin : meth.name = "<init>" := (name_of_methodNamed B.named B.method).1
  subst hsz
  have hD := hD0.self (sz := s.heap.size)
  generalize hAe : va_A [(h0, .inr (3, [.null, .null, .int 0, .int 0, .int 0, .int 0, .int 0, .int 0, .int 0, .int 0, .int 0, .int 0]))] s.heap.size = A at hD ⊢
  have hA : ∀ q : Nat, s.heap.size ≤ q → A q := fun q h => by rw [← hAe]; exact Or.inr h
  have hS : va_S A s.heap s.heap [] := va_S.rf
  have hP : va_P (dC, dI) mCLS [(h0, .inr (3, [.null, .null, .int 0, .int 0, .int 0, .int 0, .int 0, .int 0, .int 0, .int 0, .int 0, .int 0]))] s.heap := hP
  have hl := lv_entry ([.ref h0]) (n := 1) (Nat.le_of_ble_eq_true rfl)
  rw [lg_entry_eq]
  generalize (lg_sl ([.ref h0]) ++ List.replicate (1 - (lg_sl ([.ref h0])).length) Slot.unset).toArray = ls at hl ⊢
  have hl : lv_has ls 1 [(0, .ref h0)] := hl
  have hP : va_P (dC, dI) mCLS ((h0, .inr (3, [.null, .null, .int 0, .int 0, .int 0, .int 0, .int 0, .int 0, .int 0, .int 0, .int 0, .int 0])) :: ([] : va_W)) s.heap := hP
  have hD : va_D A ((h0, .inr (3, [.null, .null, .int 0, .int 0, .int 0, .int 0, .int 0, .int 0, .int 0, .int 0, .int 0, .int 0])) :: ([] : va_W)) := hD
  refine lv_aload_n hx hb di3_0 rfl (lv_at hl 0 rfl) ?_
  refine W.objInit hx hb hown (hg (.methodLink RX3 3 objectInit) (mGd_in (i := 116) (by decide +kernel) rfl)) (hg (.instanceMethod objectInit) (mGd_in (i := 109) (by decide +kernel) rfl)) (hg (.code objectInit ⟨#[0xb1]⟩ 1 none) (mGd_in (i := 110) (by decide +kernel) rfl)) rfl (by rw [hml]; exact hl.1) rfl di3_1 (Nat.le_of_ble_eq_true rfl) (Nat.le_of_ble_eq_true rfl) ?_
  refine W.eq (g2 := F0 m 4 ls []) rfl ?_
  refine lv_aload_n hx hb di3_4 rfl (lv_at hl 0 rfl) ?_
  refine lv_sipush (v := 700) hx hb di3_5 (by decide) ?_
  refine va_newa (atype := .byte) (ty := .byte) (N' := 700) (a0 := ni 700) hx hb (hg (.arrayClass .byte) (mGd_in (i := 174) (by decide +kernel) rfl)) rfl hK hP hD hS hA (fun _ => rfl) (by decide) (by decide) (Nat.le_of_ble_eq_true rfl) (Nat.le_of_ble_eq_true rfl) (Nat.le_of_ble_eq_true rfl) di3_8 (fun q8 cA H hK hP hD hS => ?_)
  have hcA := aB_eq hK
  subst hcA
  have hK := hK.sub (tys' := [(_, .int), (_, .byte)]) [0, 1] rfl
  have hP : va_P (dC, dI) mCLS ((h0, .inr (3, [.null, .null, .int 0, .int 0, .int 0, .int 0, .int 0, .int 0, .int 0, .int 0, .int 0, .int 0])) :: (([] : va_W) ++ [(q8, .inl (aB, ni 700))])) H := hP
  have hD : va_D A ((h0, .inr (3, [.null, .null, .int 0, .int 0, .int 0, .int 0, .int 0, .int 0, .int 0, .int 0, .int 0, .int 0])) :: (([] : va_W) ++ [(q8, .inl (aB, ni 700))])) := hD
  refine W.widen (k := 1) (n := 700) (by omega) (by omega) ?_
  refine va_putF (D := (dC, dI)) (ci := 3) (v := .ref q8) (ty := (.array .byte)) (C := RX3) (T := TX3) (N := 12) hx hb hg uw_3 tyX3 tyX3_ok nmX3 hown hK hP hD hS 0 rfl rfl 0 (by decide) (hg (.fieldLink RX3 9 "RingedLights$Reader" "tape" "[B") (mGd_in (i := 176) (by decide +kernel) rfl)) (fun _ h9 => h9) rfl hin rfl (by decide +kernel) rfl rfl (Nat.le_of_ble_eq_true rfl) di3_10 (fun H locs hP hD hS => ?_)
  have hP : va_P (dC, dI) mCLS ((h0, .inr (3, [.ref q8, .null, .int 0, .int 0, .int 0, .int 0, .int 0, .int 0, .int 0, .int 0, .int 0, .int 0])) :: (([] : va_W) ++ [(q8, .inl (aB, ni 700))])) H := hP
  have hD : va_D A ((h0, .inr (3, [.ref q8, .null, .int 0, .int 0, .int 0, .int 0, .int 0, .int 0, .int 0, .int 0, .int 0, .int 0])) :: (([] : va_W) ++ [(q8, .inl (aB, ni 700))])) := hD
  refine lv_aload_n hx hb di3_13 rfl (lv_at hl 0 rfl) ?_
  refine va_new (ci := 2) (fs := [.int 0, .int 0, .int 0, .null, .null, .null, .null, .null, .null, .int 0, .int 0, .int 0]) (C := RX2) (T := TX2) (N := 12) hx hb hg uw_2 tyX2 tyX2_ok hown (hg (.classLink RX3 15 RX2) (mGd_in (i := 117) (by decide +kernel) rfl)) (hg (.instantiable RX2 12) (mGd_in (i := 118) (by decide +kernel) rfl)) (hg (.initialized RX2) (mGd_in (i := 92) (by decide +kernel) rfl)) hK hP hD hS hA rfl (by intro j hj; rcases (show j = 0 ∨ j = 1 ∨ j = 2 ∨ j = 3 ∨ j = 4 ∨ j = 5 ∨ j = 6 ∨ j = 7 ∨ j = 8 ∨ j = 9 ∨ j = 10 ∨ j = 11 by omega) with rfl | rfl | rfl | rfl | rfl | rfl | rfl | rfl | rfl | rfl | rfl | rfl <;> rfl) (Nat.le_of_ble_eq_true rfl) (Nat.le_of_ble_eq_true rfl) di3_14 (fun q14 H hP hD hS => ?_)
  have hP : va_P (dC, dI) mCLS (((h0, .inr (3, [.ref q8, .null, .int 0, .int 0, .int 0, .int 0, .int 0, .int 0, .int 0, .int 0, .int 0, .int 0])) :: (([] : va_W) ++ [(q8, .inl (aB, ni 700))])) ++ [(q14, .inr (2, [.int 0, .int 0, .int 0, .null, .null, .null, .null, .null, .null, .int 0, .int 0, .int 0]))]) H := hP
  have hD : va_D A (((h0, .inr (3, [.ref q8, .null, .int 0, .int 0, .int 0, .int 0, .int 0, .int 0, .int 0, .int 0, .int 0, .int 0])) :: (([] : va_W) ++ [(q8, .inl (aB, ni 700))])) ++ [(q14, .inr (2, [.int 0, .int 0, .int 0, .null, .null, .null, .null, .null, .null, .int 0, .int 0, .int 0]))]) := hD
  refine W.widen (k := 2) (n := 712) (by omega) (by omega) ?_
  refine lv_dup hx hb di3_17 rfl ?_
  have hPc := lst_P hP
  have hDc := lst_D hD
  have hFc := fr1 hD hS hA
  refine va_callv (va_runI (As := []) (rest := [.ref q14, .ref h0]) ⟨hx, hb, hml, hown, hg⟩ (ci_2 l dC dI aI aB q14 H.size) (cwI 0 hg gi_2 rfl rfl rfl (hg (.initialized RX2) (mGd_in (i := 92) (by decide +kernel) rfl)) (hg (.methodLink RX3 17 yi_2) (mGd_in (i := 119) (by decide +kernel) rfl)) (hg (.instanceMethod yi_2) (mGd_in (i := 120) (by decide +kernel) rfl)) rfl (by decide +kernel) ⟨Nat.le_of_ble_eq_true rfl, Nat.le_of_ble_eq_true rfl⟩) ⟨fun a U g mk q => by obtain ⟨q0, q1, qP, qK, qD⟩ := q; exact ⟨q0, q1, qP, va_K.moved (u := U) (U := U.calling g mk a) (Vm.Alike.refl U.vm) qK, qD⟩, fun U hU hW => ⟨rfl, by rw [hU], by rw [hU]; exact hPc, va_K.moved hW.alike hK, hDc.weaken (fun _ _ _ _ => trivial)⟩⟩ rfl rfl hl.1 rfl (lv_room (Nat.le_of_ble_eq_true rfl)) di3_18 ⟨Nat.le_of_ble_eq_true rfl, Nat.le_of_ble_eq_true rfl⟩) hS (fun q _ h => hFc q h) hFc (fun u18 t H1 locs ht hvm hw18 hB hz1 hk1 hS => ?_)
  obtain ⟨hP1, hD1⟩ := hB
  rw [ht] at hP1
  obtain ⟨hP, hD⟩ := jn hP hD hk1 hFc hP1 hD1
  generalize H1 = H at hP hS ⊢
  have hP : va_P (dC, dI) mCLS ((h0, .inr (3, [.ref q8, .null, .int 0, .int 0, .int 0, .int 0, .int 0, .int 0, .int 0, .int 0, .int 0, .int 0])) :: ((([] : va_W) ++ [(q8, .inl (aB, ni 700))]) ++ wPL aI u18)) H := hP
  have hD : va_D A ((h0, .inr (3, [.ref q8, .null, .int 0, .int 0, .int 0, .int 0, .int 0, .int 0, .int 0, .int 0, .int 0, .int 0])) :: ((([] : va_W) ++ [(q8, .inl (aB, ni 700))]) ++ wPL aI u18)) := hD
  refine W.widen (k := 8) (n := 830) (by omega) (by omega) ?_
  refine va_putF (D := (dC, dI)) (ci := 3) (v := .ref q14) (ty := (.object "RingedLights$Plan")) (C := RX3) (T := TX3) (N := 12) hx hb hg uw_3 tyX3 tyX3_ok nmX3 hown hK hP hD hS 0 rfl rfl 1 (by decide) (hg (.fieldLink RX3 18 "RingedLights$Reader" "plan" "LRingedLights$Plan;") (mGd_in (i := 177) (by decide +kernel) rfl)) (fun _ h9 => h9) rfl hin rfl (by decide +kernel) rfl rfl (Nat.le_of_ble_eq_true rfl) di3_21 (fun H locs hP hD hS => ?_)
  have hP : va_P (dC, dI) mCLS ((h0, .inr (3, [.ref q8, .ref q14, .int 0, .int 0, .int 0, .int 0, .int 0, .int 0, .int 0, .int 0, .int 0, .int 0])) :: ((([] : va_W) ++ [(q8, .inl (aB, ni 700))]) ++ wPL aI u18)) H := hP
  have hD : va_D A ((h0, .inr (3, [.ref q8, .ref q14, .int 0, .int 0, .int 0, .int 0, .int 0, .int 0, .int 0, .int 0, .int 0, .int 0])) :: ((([] : va_W) ++ [(q8, .inl (aB, ni 700))]) ++ wPL aI u18)) := hD
  (try dsimp only at hw18)
  subst hw18
  exact W.vret hx hb hr (fun t ht hW => ⟨⟨(fun j => match j with | 16 => h0 | 19 => q8 | 1 => u18 1 | 2 => u18 2 | 3 => u18 3 | 4 => u18 4 | 5 => u18 5 | 6 => u18 6 | 7 => u18 7 | _ => 0), rfl, rfl, by rw [ht]; exact hP, hD⟩, hS.F ht⟩) hS.2.2 di3_24
theorem di5_0 : decode prog_1_method_1_code 0 = .ok (.aload_n 0, 1) := by decide +kernel
theorem di5_1 : decode prog_1_method_1_code 1 = .ok (.invokespecial 1, 3) := by decide +kernel
theorem di5_4 : decode prog_1_method_1_code 4 = .ok (.aload_n 0, 1) := by decide +kernel
theorem di5_5 : decode prog_1_method_1_code 5 = .ok (.new 7, 3) := by decide +kernel
theorem di5_8 : decode prog_1_method_1_code 8 = .ok (.dup, 1) := by decide +kernel
theorem di5_9 : decode prog_1_method_1_code 9 = .ok (.invokespecial 9, 3) := by decide +kernel
theorem di5_12 : decode prog_1_method_1_code 12 = .ok (.putfield 10, 3) := by decide +kernel
theorem di5_15 : decode prog_1_method_1_code 15 = .ok (.aload_n 0, 1) := by decide +kernel
theorem di5_16 : decode prog_1_method_1_code 16 = .ok (.new 16, 3) := by decide +kernel
theorem di5_19 : decode prog_1_method_1_code 19 = .ok (.dup, 1) := by decide +kernel
theorem di5_20 : decode prog_1_method_1_code 20 = .ok (.invokespecial 18, 3) := by decide +kernel
theorem di5_23 : decode prog_1_method_1_code 23 = .ok (.putfield 19, 3) := by decide +kernel
theorem di5_26 : decode prog_1_method_1_code 26 = .ok (.aload_n 0, 1) := by decide +kernel
theorem di5_27 : decode prog_1_method_1_code 27 = .ok (.new 16, 3) := by decide +kernel
theorem di5_30 : decode prog_1_method_1_code 30 = .ok (.dup, 1) := by decide +kernel
theorem di5_31 : decode prog_1_method_1_code 31 = .ok (.invokespecial 18, 3) := by decide +kernel
theorem di5_34 : decode prog_1_method_1_code 34 = .ok (.putfield 23, 3) := by decide +kernel
theorem di5_37 : decode prog_1_method_1_code 37 = .ok (.aload_n 0, 1) := by decide +kernel
theorem di5_38 : decode prog_1_method_1_code 38 = .ok (.new 16, 3) := by decide +kernel
theorem di5_41 : decode prog_1_method_1_code 41 = .ok (.dup, 1) := by decide +kernel
theorem di5_42 : decode prog_1_method_1_code 42 = .ok (.invokespecial 18, 3) := by decide +kernel
theorem di5_45 : decode prog_1_method_1_code 45 = .ok (.putfield 26, 3) := by decide +kernel
theorem di5_48 : decode prog_1_method_1_code 48 = .ok (.aload_n 0, 1) := by decide +kernel
theorem di5_49 : decode prog_1_method_1_code 49 = .ok (.new 16, 3) := by decide +kernel
theorem di5_52 : decode prog_1_method_1_code 52 = .ok (.dup, 1) := by decide +kernel
theorem di5_53 : decode prog_1_method_1_code 53 = .ok (.invokespecial 18, 3) := by decide +kernel
theorem di5_56 : decode prog_1_method_1_code 56 = .ok (.putfield 29, 3) := by decide +kernel
theorem di5_59 : decode prog_1_method_1_code 59 = .ok (.aload_n 0, 1) := by decide +kernel
theorem di5_60 : decode prog_1_method_1_code 60 = .ok (.new 16, 3) := by decide +kernel
theorem di5_63 : decode prog_1_method_1_code 63 = .ok (.dup, 1) := by decide +kernel
theorem di5_64 : decode prog_1_method_1_code 64 = .ok (.invokespecial 18, 3) := by decide +kernel
theorem di5_67 : decode prog_1_method_1_code 67 = .ok (.putfield 32, 3) := by decide +kernel
theorem di5_70 : decode prog_1_method_1_code 70 = .ok (.aload_n 0, 1) := by decide +kernel
theorem di5_71 : decode prog_1_method_1_code 71 = .ok (.iconst 0, 1) := by decide +kernel
theorem di5_72 : decode prog_1_method_1_code 72 = .ok (.putfield 35, 3) := by decide +kernel
theorem di5_75 : decode prog_1_method_1_code 75 = .ok (.aload_n 0, 1) := by decide +kernel
theorem di5_76 : decode prog_1_method_1_code 76 = .ok (.iconst 0, 1) := by decide +kernel
theorem di5_77 : decode prog_1_method_1_code 77 = .ok (.putfield 39, 3) := by decide +kernel
theorem di5_80 : decode prog_1_method_1_code 80 = .ok (.aload_n 0, 1) := by decide +kernel
theorem di5_81 : decode prog_1_method_1_code 81 = .ok (.iconst 0, 1) := by decide +kernel
theorem di5_82 : decode prog_1_method_1_code 82 = .ok (.putfield 42, 3) := by decide +kernel
theorem di5_85 : decode prog_1_method_1_code 85 = .ok (.aload_n 0, 1) := by decide +kernel
theorem di5_86 : decode prog_1_method_1_code 86 = .ok (.iconst 0, 1) := by decide +kernel
theorem di5_87 : decode prog_1_method_1_code 87 = .ok (.putfield 46, 3) := by decide +kernel
theorem di5_90 : decode prog_1_method_1_code 90 = .ok (.return_, 1) := by decide +kernel
def yi_5 : MethodName := ⟨RX5, "<init>", "()V"⟩
abbrev rm_5 : Room := { frames := 3, cells := 89, slots := 2262, locals := 53 }
theorem gi_5 : GoodIn mGd (Cond.code yi_5 prog_1_method_1_code 1 none :: mGd) := fun w hw => by
  rcases List.mem_cons.mp hw with rfl | hw
  · exact mGd_good (mGd_in (i := 107) (by decide +kernel) rfl)
  · exact mGd_good hw
set_option maxHeartbeats 4000000 in
set_option maxRecDepth 100000 in
theorem ci_5 (l : Launch) (dC : Nat → ClassId) (dI : Nat → Nat → Nat) (aI aB : ClassId) (h0 sz : Nat) : Met l yi_5 (Cond.code yi_5 prog_1_method_1_code 1 none :: mGd) rm_5 (va_Pc [.ref h0] (fun U => U.heap.size = sz ∧ va_P (dC, dI) mCLS [(h0, .inr (5, [.null, .null, .null, .null, .null, .null, .int 0, .int 0, .int 0, .int 0]))] U.heap ∧ va_K (dC, dI) mCLS [(aI, .int), (aB, .byte)] U ∧ va_D (fun _ => True) [(h0, .inr (5, [.null, .null, .null, .null, .null, .null, .int 0, .int 0, .int 0, .int 0]))])) (va_Qv (fun u : Nat → Nat → Nat => u 6 18 = h0) (fun (u : Nat → Nat → Nat) t => va_P (dC, dI) mCLS (wRL aI aB u) t.heap ∧ va_D (va_A [(h0, .inr (5, [.null, .null, .null, .null, .null, .null, .int 0, .int 0, .int 0, .int 0]))] sz) (wRL aI aB u)) (va_A [(h0, .inr (5, [.null, .null, .null, .null, .null, .null, .int 0, .int 0, .int 0, .int 0]))] sz)) 89 2262 (va_A [(h0, .inr (5, [.null, .null, .null, .null, .null, .null, .int 0, .int 0, .int 0, .int 0]))] sz) := by
  refine Met.ofW (cc := prog_1_method_1_code) (maxL := 1) (ret := none) (by decide) rfl ?_
  intro p e s m args below meth c s₁ B hml hv
  obtain ⟨rfl, hsz, hP, hK, hD0⟩ := hv
  have hx := B.exec
  have hb := B.bytes
  have hr := B.returns
  have hts := atoms_spec (ws := Cond.code yi_5 prog_1_method_1_code 1 none :: mGd) B.pre
  have hg : ∀ w ∈ mGd, w.before _ s = true := fun w hw => hts w (List.mem_cons_of_mem _ hw)
  have hown : s.vm.findClass RX5 = some m.cls := findClass_of_methodNamed B.named
  have hlocks := B.notSynchronized
  have hin : meth.name = "<init>" := (name_of_methodNamed B.named B.method).1
  subst hsz
  have hD := hD0.self (sz := s.heap.size)
  generalize hAe : va_A [(h0, .inr (5, [.null, .null, .null, .null, .null, .null, .int 0, .int 0, .int 0, .int 0]))] s.heap.size = A at hD ⊢
  have hA : ∀ q : Nat, s.heap.size ≤ q → A q := fun q h => by rw [← hAe]; exact Or.inr h
  have hS : va_S A s.heap s.heap [] := va_S.rf
  have hP : va_P (dC, dI) mCLS [(h0, .inr (5, [.null, .null, .null, .null, .null, .null, .int 0, .int 0, .int 0, .int 0]))] s.heap := hP
  have hl := lv_entry ([.ref h0]) (n := 1) (Nat.le_of_ble_eq_true rfl)
  rw [lg_entry_eq]
  generalize (lg_sl ([.ref h0]) ++ List.replicate (1 - (lg_sl ([.ref h0])).length) Slot.unset).toArray = ls at hl ⊢
  have hl : lv_has ls 1 [(0, .ref h0)] := hl
  have hP : va_P (dC, dI) mCLS ((h0, .inr (5, [.null, .null, .null, .null, .null, .null, .int 0, .int 0, .int 0, .int 0])) :: ([] : va_W)) s.heap := hP
  have hD : va_D A ((h0, .inr (5, [.null, .null, .null, .null, .null, .null, .int 0, .int 0, .int 0, .int 0])) :: ([] : va_W)) := hD
  refine lv_aload_n hx hb di5_0 rfl (lv_at hl 0 rfl) ?_
  refine W.objInit hx hb hown (hg (.methodLink RX5 1 objectInit) (mGd_in (i := 108) (by decide +kernel) rfl)) (hg (.instanceMethod objectInit) (mGd_in (i := 109) (by decide +kernel) rfl)) (hg (.code objectInit ⟨#[0xb1]⟩ 1 none) (mGd_in (i := 110) (by decide +kernel) rfl)) rfl (by rw [hml]; exact hl.1) rfl di5_1 (Nat.le_of_ble_eq_true rfl) (Nat.le_of_ble_eq_true rfl) ?_
  refine W.eq (g2 := F0 m 4 ls []) rfl ?_
  refine lv_aload_n hx hb di5_4 rfl (lv_at hl 0 rfl) ?_
  refine va_new (ci := 3) (fs := [.null, .null, .int 0, .int 0, .int 0, .int 0, .int 0, .int 0, .int 0, .int 0, .int 0, .int 0]) (C := RX3) (T := TX3) (N := 12) hx hb hg uw_3 tyX3 tyX3_ok hown (hg (.classLink RX5 7 RX3) (mGd_in (i := 111) (by decide +kernel) rfl)) (hg (.instantiable RX3 12) (mGd_in (i := 112) (by decide +kernel) rfl)) (hg (.initialized RX3) (mGd_in (i := 91) (by decide +kernel) rfl)) hK hP hD hS hA rfl (by intro j hj; rcases (show j = 0 ∨ j = 1 ∨ j = 2 ∨ j = 3 ∨ j = 4 ∨ j = 5 ∨ j = 6 ∨ j = 7 ∨ j = 8 ∨ j = 9 ∨ j = 10 ∨ j = 11 by omega) with rfl | rfl | rfl | rfl | rfl | rfl | rfl | rfl | rfl | rfl | rfl | rfl <;> rfl) (Nat.le_of_ble_eq_true rfl) (Nat.le_of_ble_eq_true rfl) di5_5 (fun q5 H hP hD hS => ?_)
  have hP : va_P (dC, dI) mCLS (((h0, .inr (5, [.null, .null, .null, .null, .null, .null, .int 0, .int 0, .int 0, .int 0])) :: ([] : va_W)) ++ [(q5, .inr (3, [.null, .null, .int 0, .int 0, .int 0, .int 0, .int 0, .int 0, .int 0, .int 0, .int 0, .int 0]))]) H := hP
  have hD : va_D A (((h0, .inr (5, [.null, .null, .null, .null, .null, .null, .int 0, .int 0, .int 0, .int 0])) :: ([] : va_W)) ++ [(q5, .inr (3, [.null, .null, .int 0, .int 0, .int 0, .int 0, .int 0, .int 0, .int 0, .int 0, .int 0, .int 0]))]) := hD
  refine W.widen (k := 1) (n := 12) (by omega) (by omega) ?_
  refine lv_dup hx hb di5_8 rfl ?_
  have hPc := lst_P hP
  have hDc := lst_D hD
  have hFc := fr1 hD hS hA
  refine va_callv (va_runI (As := []) (rest := [.ref q5, .ref h0]) ⟨hx, hb, hml, hown, hg⟩ (ci_3 l dC dI aI aB q5 H.size) (cwI 0 hg gi_3 rfl rfl rfl (hg (.initialized RX3) (mGd_in (i := 91) (by decide +kernel) rfl)) (hg (.methodLink RX5 9 yi_3) (mGd_in (i := 113) (by decide +kernel) rfl)) (hg (.instanceMethod yi_3) (mGd_in (i := 114) (by decide +kernel) rfl)) rfl (by decide +kernel) ⟨Nat.le_of_ble_eq_true rfl, Nat.le_of_ble_eq_true rfl⟩) ⟨fun a U g mk q => by obtain ⟨q0, q1, qP, qK, qD⟩ := q; exact ⟨q0, q1, qP, va_K.moved (u := U) (U := U.calling g mk a) (Vm.Alike.refl U.vm) qK, qD⟩, fun U hU hW => ⟨rfl, by rw [hU], by rw [hU]; exact hPc, va_K.moved hW.alike hK, hDc.weaken (fun _ _ _ _ => trivial)⟩⟩ rfl rfl hl.1 rfl (lv_room (Nat.le_of_ble_eq_true rfl)) di5_9 ⟨Nat.le_of_ble_eq_true rfl, Nat.le_of_ble_eq_true rfl⟩) hS (fun q _ h => hFc q h) hFc (fun u9 t H1 locs ht hvm hw9 hB hz1 hk1 hS => ?_)
  obtain ⟨hP1, hD1⟩ := hB
  rw [ht] at hP1
  obtain ⟨hP, hD⟩ := jn hP hD hk1 hFc hP1 hD1
  generalize H1 = H at hP hS ⊢
  have hP : va_P (dC, dI) mCLS ((h0, .inr (5, [.null, .null, .null, .null, .null, .null, .int 0, .int 0, .int 0, .int 0])) :: (([] : va_W) ++ wRD aI aB u9)) H := hP
  have hD : va_D A ((h0, .inr (5, [.null, .null, .null, .null, .null, .null, .int 0, .int 0, .int 0, .int 0])) :: (([] : va_W) ++ wRD aI aB u9)) := hD
  refine W.widen (k := 9) (n := 842) (by omega) (by omega) ?_
  refine va_putF (D := (dC, dI)) (ci := 5) (v := .ref q5) (ty := (.object "RingedLights$Reader")) (C := RX5) (T := TX5) (N := 10) hx hb hg uw_5 tyX5 tyX5_ok nmX5 hown hK hP hD hS 0 rfl rfl 0 (by decide) (hg (.fieldLink RX5 10 "RingedLights" "reader" "LRingedLights$Reader;") (mGd_in (i := 366) (by decide +kernel) rfl)) (fun _ h9 => h9) rfl hin rfl (by decide +kernel) rfl rfl (Nat.le_of_ble_eq_true rfl) di5_12 (fun H locs hP hD hS => ?_)
  have hP : va_P (dC, dI) mCLS ((h0, .inr (5, [.ref q5, .null, .null, .null, .null, .null, .int 0, .int 0, .int 0, .int 0])) :: (([] : va_W) ++ wRD aI aB u9)) H := hP
  have hD : va_D A ((h0, .inr (5, [.ref q5, .null, .null, .null, .null, .null, .int 0, .int 0, .int 0, .int 0])) :: (([] : va_W) ++ wRD aI aB u9)) := hD
  refine lv_aload_n hx hb di5_15 rfl (lv_at hl 0 rfl) ?_
  refine va_new (ci := 0) (fs := [.null, .null, .null, .null, .null, .null, .int 0, .int 0, .int 0, .int 0, .int 0, .int 0, .int 0, .int 0, .int 0, .int 0, .int 0, .int 0, .int 0]) (C := RX0) (T := TX0) (N := 19) hx hb hg uw_0 tyX0 tyX0_ok hown (hg (.classLink RX5 16 RX0) (mGd_in (i := 217) (by decide +kernel) rfl)) (hg (.instantiable RX0 19) (mGd_in (i := 218) (by decide +kernel) rfl)) (hg (.initialized RX0) (mGd_in (i := 93) (by decide +kernel) rfl)) hK hP hD hS hA rfl (by intro j hj; rcases (show j = 0 ∨ j = 1 ∨ j = 2 ∨ j = 3 ∨ j = 4 ∨ j = 5 ∨ j = 6 ∨ j = 7 ∨ j = 8 ∨ j = 9 ∨ j = 10 ∨ j = 11 ∨ j = 12 ∨ j = 13 ∨ j = 14 ∨ j = 15 ∨ j = 16 ∨ j = 17 ∨ j = 18 by omega) with rfl | rfl | rfl | rfl | rfl | rfl | rfl | rfl | rfl | rfl | rfl | rfl | rfl | rfl | rfl | rfl | rfl | rfl | rfl <;> rfl) (Nat.le_of_ble_eq_true rfl) (Nat.le_of_ble_eq_true rfl) di5_16 (fun q16 H hP hD hS => ?_)
  have hP : va_P (dC, dI) mCLS (((h0, .inr (5, [.ref q5, .null, .null, .null, .null, .null, .int 0, .int 0, .int 0, .int 0])) :: (([] : va_W) ++ wRD aI aB u9)) ++ [(q16, .inr (0, [.null, .null, .null, .null, .null, .null, .int 0, .int 0, .int 0, .int 0, .int 0, .int 0, .int 0, .int 0, .int 0, .int 0, .int 0, .int 0, .int 0]))]) H := hP
  have hD : va_D A (((h0, .inr (5, [.ref q5, .null, .null, .null, .null, .null, .int 0, .int 0, .int 0, .int 0])) :: (([] : va_W) ++ wRD aI aB u9)) ++ [(q16, .inr (0, [.null, .null, .null, .null, .null, .null, .int 0, .int 0, .int 0, .int 0, .int 0, .int 0, .int 0, .int 0, .int 0, .int 0, .int 0, .int 0, .int 0]))]) := hD
  refine W.widen (k := 10) (n := 861) (by omega) (by omega) ?_
  refine lv_dup hx hb di5_19 rfl ?_
  have hPc := lst_P hP
  have hDc := lst_D hD
  have hFc := fr1 hD hS hA
  refine va_callv (va_runI (As := []) (rest := [.ref q16, .ref h0]) ⟨hx, hb, hml, hown, hg⟩ (ci_0 l dC dI aI aB q16 H.size) (cwI 0 hg gi_0 rfl rfl rfl (hg (.initialized RX0) (mGd_in (i := 93) (by decide +kernel) rfl)) (hg (.methodLink RX5 18 yi_0) (mGd_in (i := 219) (by decide +kernel) rfl)) (hg (.instanceMethod yi_0) (mGd_in (i := 220) (by decide +kernel) rfl)) rfl (by decide +kernel) ⟨Nat.le_of_ble_eq_true rfl, Nat.le_of_ble_eq_true rfl⟩) ⟨fun a U g mk q => by obtain ⟨q0, q1, qP, qK, qD⟩ := q; exact ⟨q0, q1, qP, va_K.moved (u := U) (U := U.calling g mk a) (Vm.Alike.refl U.vm) qK, qD⟩, fun U hU hW => ⟨rfl, by rw [hU], by rw [hU]; exact hPc, va_K.moved hW.alike hK, hDc.weaken (fun _ _ _ _ => trivial)⟩⟩ rfl rfl hl.1 rfl (lv_room (Nat.le_of_ble_eq_true rfl)) di5_20 ⟨Nat.le_of_ble_eq_true rfl, Nat.le_of_ble_eq_true rfl⟩) hS (fun q _ h => hFc q h) hFc (fun u20 t H1 locs ht hvm hw20 hB hz1 hk1 hS => ?_)
  obtain ⟨hP1, hD1⟩ := hB
  rw [ht] at hP1
  obtain ⟨hP, hD⟩ := jn hP hD hk1 hFc hP1 hD1
  generalize H1 = H at hP hS ⊢
  have hP : va_P (dC, dI) mCLS ((h0, .inr (5, [.ref q5, .null, .null, .null, .null, .null, .int 0, .int 0, .int 0, .int 0])) :: ((([] : va_W) ++ wRD aI aB u9) ++ wCR aI u20)) H := hP
  have hD : va_D A ((h0, .inr (5, [.ref q5, .null, .null, .null, .null, .null, .int 0, .int 0, .int 0, .int 0])) :: ((([] : va_W) ++ wRD aI aB u9) ++ wCR aI u20)) := hD
  refine W.widen (k := 25) (n := 1126) (by omega) (by omega) ?_
  refine va_putF (D := (dC, dI)) (ci := 5) (v := .ref q16) (ty := (.object "RingedLights$Crossing")) (C := RX5) (T := TX5) (N := 10) hx hb hg uw_5 tyX5 tyX5_ok nmX5 hown hK hP hD hS 0 rfl rfl 1 (by decide) (hg (.fieldLink RX5 19 "RingedLights" "now" "LRingedLights$Crossing;") (mGd_in (i := 367) (by decide +kernel) rfl)) (fun _ h9 => h9) rfl hin rfl (by decide +kernel) rfl rfl (Nat.le_of_ble_eq_true rfl) di5_23 (fun H locs hP hD hS => ?_)
  have hP : va_P (dC, dI) mCLS ((h0, .inr (5, [.ref q5, .ref q16, .null, .null, .null, .null, .int 0, .int 0, .int 0, .int 0])) :: ((([] : va_W) ++ wRD aI aB u9) ++ wCR aI u20)) H := hP
  have hD : va_D A ((h0, .inr (5, [.ref q5, .ref q16, .null, .null, .null, .null, .int 0, .int 0, .int 0, .int 0])) :: ((([] : va_W) ++ wRD aI aB u9) ++ wCR aI u20)) := hD
  refine lv_aload_n hx hb di5_26 rfl (lv_at hl 0 rfl) ?_
  refine va_new (ci := 0) (fs := [.null, .null, .null, .null, .null, .null, .int 0, .int 0, .int 0, .int 0, .int 0, .int 0, .int 0, .int 0, .int 0, .int 0, .int 0, .int 0, .int 0]) (C := RX0) (T := TX0) (N := 19) hx hb hg uw_0 tyX0 tyX0_ok hown (hg (.classLink RX5 16 RX0) (mGd_in (i := 217) (by decide +kernel) rfl)) (hg (.instantiable RX0 19) (mGd_in (i := 218) (by decide +kernel) rfl)) (hg (.initialized RX0) (mGd_in (i := 93) (by decide +kernel) rfl)) hK hP hD hS hA rfl (by intro j hj; rcases (show j = 0 ∨ j = 1 ∨ j = 2 ∨ j = 3 ∨ j = 4 ∨ j = 5 ∨ j = 6 ∨ j = 7 ∨ j = 8 ∨ j = 9 ∨ j = 10 ∨ j = 11 ∨ j = 12 ∨ j = 13 ∨ j = 14 ∨ j = 15 ∨ j = 16 ∨ j = 17 ∨ j = 18 by omega) with rfl | rfl | rfl | rfl | rfl | rfl | rfl | rfl | rfl | rfl | rfl | rfl | rfl | rfl | rfl | rfl | rfl | rfl | rfl <;> rfl) (Nat.le_of_ble_eq_true rfl) (Nat.le_of_ble_eq_true rfl) di5_27 (fun q27 H hP hD hS => ?_)
  have hP : va_P (dC, dI) mCLS (((h0, .inr (5, [.ref q5, .ref q16, .null, .null, .null, .null, .int 0, .int 0, .int 0, .int 0])) :: ((([] : va_W) ++ wRD aI aB u9) ++ wCR aI u20)) ++ [(q27, .inr (0, [.null, .null, .null, .null, .null, .null, .int 0, .int 0, .int 0, .int 0, .int 0, .int 0, .int 0, .int 0, .int 0, .int 0, .int 0, .int 0, .int 0]))]) H := hP
  have hD : va_D A (((h0, .inr (5, [.ref q5, .ref q16, .null, .null, .null, .null, .int 0, .int 0, .int 0, .int 0])) :: ((([] : va_W) ++ wRD aI aB u9) ++ wCR aI u20)) ++ [(q27, .inr (0, [.null, .null, .null, .null, .null, .null, .int 0, .int 0, .int 0, .int 0, .int 0, .int 0, .int 0, .int 0, .int 0, .int 0, .int 0, .int 0, .int 0]))]) := hD
  refine W.widen (k := 26) (n := 1145) (by omega) (by omega) ?_
  refine lv_dup hx hb di5_30 rfl ?_
  have hPc := lst_P hP
  have hDc := lst_D hD
  have hFc := fr1 hD hS hA
  refine va_callv (va_runI (As := []) (rest := [.ref q27, .ref h0]) ⟨hx, hb, hml, hown, hg⟩ (ci_0 l dC dI aI aB q27 H.size) (cwI 0 hg gi_0 rfl rfl rfl (hg (.initialized RX0) (mGd_in (i := 93) (by decide +kernel) rfl)) (hg (.methodLink RX5 18 yi_0) (mGd_in (i := 219) (by decide +kernel) rfl)) (hg (.instanceMethod yi_0) (mGd_in (i := 220) (by decide +kernel) rfl)) rfl (by decide +kernel) ⟨Nat.le_of_ble_eq_true rfl, Nat.le_of_ble_eq_true rfl⟩) ⟨fun a U g mk q => by obtain ⟨q0, q1, qP, qK, qD⟩ := q; exact ⟨q0, q1, qP, va_K.moved (u := U) (U := U.calling g mk a) (Vm.Alike.refl U.vm) qK, qD⟩, fun U hU hW => ⟨rfl, by rw [hU], by rw [hU]; exact hPc, va_K.moved hW.alike hK, hDc.weaken (fun _ _ _ _ => trivial)⟩⟩ rfl rfl hl.1 rfl (lv_room (Nat.le_of_ble_eq_true rfl)) di5_31 ⟨Nat.le_of_ble_eq_true rfl, Nat.le_of_ble_eq_true rfl⟩) hS (fun q _ h => hFc q h) hFc (fun u31 t H1 locs ht hvm hw31 hB hz1 hk1 hS => ?_)
  obtain ⟨hP1, hD1⟩ := hB
  rw [ht] at hP1
  obtain ⟨hP, hD⟩ := jn hP hD hk1 hFc hP1 hD1
  generalize H1 = H at hP hS ⊢
  have hP : va_P (dC, dI) mCLS ((h0, .inr (5, [.ref q5, .ref q16, .null, .null, .null, .null, .int 0, .int 0, .int 0, .int 0])) :: (((([] : va_W) ++ wRD aI aB u9) ++ wCR aI u20) ++ wCR aI u31)) H := hP
  have hD : va_D A ((h0, .inr (5, [.ref q5, .ref q16, .null, .null, .null, .null, .int 0, .int 0, .int 0, .int 0])) :: (((([] : va_W) ++ wRD aI aB u9) ++ wCR aI u20) ++ wCR aI u31)) := hD
  refine W.widen (k := 41) (n := 1410) (by omega) (by omega) ?_
  refine va_putF (D := (dC, dI)) (ci := 5) (v := .ref q27) (ty := (.object "RingedLights$Crossing")) (C := RX5) (T := TX5) (N := 10) hx hb hg uw_5 tyX5 tyX5_ok nmX5 hown hK hP hD hS 0 rfl rfl 2 (by decide) (hg (.fieldLink RX5 23 "RingedLights" "spare" "LRingedLights$Crossing;") (mGd_in (i := 368) (by decide +kernel) rfl)) (fun _ h9 => h9) rfl hin rfl (by decide +kernel) rfl rfl (Nat.le_of_ble_eq_true rfl) di5_34 (fun H locs hP hD hS => ?_)
  have hP : va_P (dC, dI) mCLS ((h0, .inr (5, [.ref q5, .ref q16, .ref q27, .null, .null, .null, .int 0, .int 0, .int 0, .int 0])) :: (((([] : va_W) ++ wRD aI aB u9) ++ wCR aI u20) ++ wCR aI u31)) H := hP
  have hD : va_D A ((h0, .inr (5, [.ref q5, .ref q16, .ref q27, .null, .null, .null, .int 0, .int 0, .int 0, .int 0])) :: (((([] : va_W) ++ wRD aI aB u9) ++ wCR aI u20) ++ wCR aI u31)) := hD
  refine lv_aload_n hx hb di5_37 rfl (lv_at hl 0 rfl) ?_
  refine va_new (ci := 0) (fs := [.null, .null, .null, .null, .null, .null, .int 0, .int 0, .int 0, .int 0, .int 0, .int 0, .int 0, .int 0, .int 0, .int 0, .int 0, .int 0, .int 0]) (C := RX0) (T := TX0) (N := 19) hx hb hg uw_0 tyX0 tyX0_ok hown (hg (.classLink RX5 16 RX0) (mGd_in (i := 217) (by decide +kernel) rfl)) (hg (.instantiable RX0 19) (mGd_in (i := 218) (by decide +kernel) rfl)) (hg (.initialized RX0) (mGd_in (i := 93) (by decide +kernel) rfl)) hK hP hD hS hA rfl (by intro j hj; rcases (show j = 0 ∨ j = 1 ∨ j = 2 ∨ j = 3 ∨ j = 4 ∨ j = 5 ∨ j = 6 ∨ j = 7 ∨ j = 8 ∨ j = 9 ∨ j = 10 ∨ j = 11 ∨ j = 12 ∨ j = 13 ∨ j = 14 ∨ j = 15 ∨ j = 16 ∨ j = 17 ∨ j = 18 by omega) with rfl | rfl | rfl | rfl | rfl | rfl | rfl | rfl | rfl | rfl | rfl | rfl | rfl | rfl | rfl | rfl | rfl | rfl | rfl <;> rfl) (Nat.le_of_ble_eq_true rfl) (Nat.le_of_ble_eq_true rfl) di5_38 (fun q38 H hP hD hS => ?_)
  have hP : va_P (dC, dI) mCLS (((h0, .inr (5, [.ref q5, .ref q16, .ref q27, .null, .null, .null, .int 0, .int 0, .int 0, .int 0])) :: (((([] : va_W) ++ wRD aI aB u9) ++ wCR aI u20) ++ wCR aI u31)) ++ [(q38, .inr (0, [.null, .null, .null, .null, .null, .null, .int 0, .int 0, .int 0, .int 0, .int 0, .int 0, .int 0, .int 0, .int 0, .int 0, .int 0, .int 0, .int 0]))]) H := hP
  have hD : va_D A (((h0, .inr (5, [.ref q5, .ref q16, .ref q27, .null, .null, .null, .int 0, .int 0, .int 0, .int 0])) :: (((([] : va_W) ++ wRD aI aB u9) ++ wCR aI u20) ++ wCR aI u31)) ++ [(q38, .inr (0, [.null, .null, .null, .null, .null, .null, .int 0, .int 0, .int 0, .int 0, .int 0, .int 0, .int 0, .int 0, .int 0, .int 0, .int 0, .int 0, .int 0]))]) := hD
  refine W.widen (k := 42) (n := 1429) (by omega) (by omega) ?_
  refine lv_dup hx hb di5_41 rfl ?_
  have hPc := lst_P hP
  have hDc := lst_D hD
  have hFc := fr1 hD hS hA
  refine va_callv (va_runI (As := []) (rest := [.ref q38, .ref h0]) ⟨hx, hb, hml, hown, hg⟩ (ci_0 l dC dI aI aB q38 H.size) (cwI 0 hg gi_0 rfl rfl rfl (hg (.initialized RX0) (mGd_in (i := 93) (by decide +kernel) rfl)) (hg (.methodLink RX5 18 yi_0) (mGd_in (i := 219) (by decide +kernel) rfl)) (hg (.instanceMethod yi_0) (mGd_in (i := 220) (by decide +kernel) rfl)) rfl (by decide +kernel) ⟨Nat.le_of_ble_eq_true rfl, Nat.le_of_ble_eq_true rfl⟩) ⟨fun a U g mk q => by obtain ⟨q0, q1, qP, qK, qD⟩ := q; exact ⟨q0, q1, qP, va_K.moved (u := U) (U := U.calling g mk a) (Vm.Alike.refl U.vm) qK, qD⟩, fun U hU hW => ⟨rfl, by rw [hU], by rw [hU]; exact hPc, va_K.moved hW.alike hK, hDc.weaken (fun _ _ _ _ => trivial)⟩⟩ rfl rfl hl.1 rfl (lv_room (Nat.le_of_ble_eq_true rfl)) di5_42 ⟨Nat.le_of_ble_eq_true rfl, Nat.le_of_ble_eq_true rfl⟩) hS (fun q _ h => hFc q h) hFc (fun u42 t H1 locs ht hvm hw42 hB hz1 hk1 hS => ?_)
  obtain ⟨hP1, hD1⟩ := hB
  rw [ht] at hP1
  obtain ⟨hP, hD⟩ := jn hP hD hk1 hFc hP1 hD1
  generalize H1 = H at hP hS ⊢
  have hP : va_P (dC, dI) mCLS ((h0, .inr (5, [.ref q5, .ref q16, .ref q27, .null, .null, .null, .int 0, .int 0, .int 0, .int 0])) :: ((((([] : va_W) ++ wRD aI aB u9) ++ wCR aI u20) ++ wCR aI u31) ++ wCR aI u42)) H := hP
  have hD : va_D A ((h0, .inr (5, [.ref q5, .ref q16, .ref q27, .null, .null, .null, .int 0, .int 0, .int 0, .int 0])) :: ((((([] : va_W) ++ wRD aI aB u9) ++ wCR aI u20) ++ wCR aI u31) ++ wCR aI u42)) := hD
  refine W.widen (k := 57) (n := 1694) (by omega) (by omega) ?_
  refine va_putF (D := (dC, dI)) (ci := 5) (v := .ref q38) (ty := (.object "RingedLights$Crossing")) (C := RX5) (T := TX5) (N := 10) hx hb hg uw_5 tyX5 tyX5_ok nmX5 hown hK hP hD hS 0 rfl rfl 3 (by decide) (hg (.fieldLink RX5 26 "RingedLights" "firstKept" "LRingedLights$Crossing;") (mGd_in (i := 369) (by decide +kernel) rfl)) (fun _ h9 => h9) rfl hin rfl (by decide +kernel) rfl rfl (Nat.le_of_ble_eq_true rfl) di5_45 (fun H locs hP hD hS => ?_)
  have hP : va_P (dC, dI) mCLS ((h0, .inr (5, [.ref q5, .ref q16, .ref q27, .ref q38, .null, .null, .int 0, .int 0, .int 0, .int 0])) :: ((((([] : va_W) ++ wRD aI aB u9) ++ wCR aI u20) ++ wCR aI u31) ++ wCR aI u42)) H := hP
  have hD : va_D A ((h0, .inr (5, [.ref q5, .ref q16, .ref q27, .ref q38, .null, .null, .int 0, .int 0, .int 0, .int 0])) :: ((((([] : va_W) ++ wRD aI aB u9) ++ wCR aI u20) ++ wCR aI u31) ++ wCR aI u42)) := hD
  refine lv_aload_n hx hb di5_48 rfl (lv_at hl 0 rfl) ?_
  refine va_new (ci := 0) (fs := [.null, .null, .null, .null, .null, .null, .int 0, .int 0, .int 0, .int 0, .int 0, .int 0, .int 0, .int 0, .int 0, .int 0, .int 0, .int 0, .int 0]) (C := RX0) (T := TX0) (N := 19) hx hb hg uw_0 tyX0 tyX0_ok hown (hg (.classLink RX5 16 RX0) (mGd_in (i := 217) (by decide +kernel) rfl)) (hg (.instantiable RX0 19) (mGd_in (i := 218) (by decide +kernel) rfl)) (hg (.initialized RX0) (mGd_in (i := 93) (by decide +kernel) rfl)) hK hP hD hS hA rfl (by intro j hj; rcases (show j = 0 ∨ j = 1 ∨ j = 2 ∨ j = 3 ∨ j = 4 ∨ j = 5 ∨ j = 6 ∨ j = 7 ∨ j = 8 ∨ j = 9 ∨ j = 10 ∨ j = 11 ∨ j = 12 ∨ j = 13 ∨ j = 14 ∨ j = 15 ∨ j = 16 ∨ j = 17 ∨ j = 18 by omega) with rfl | rfl | rfl | rfl | rfl | rfl | rfl | rfl | rfl | rfl | rfl | rfl | rfl | rfl | rfl | rfl | rfl | rfl | rfl <;> rfl) (Nat.le_of_ble_eq_true rfl) (Nat.le_of_ble_eq_true rfl) di5_49 (fun q49 H hP hD hS => ?_)
  have hP : va_P (dC, dI) mCLS (((h0, .inr (5, [.ref q5, .ref q16, .ref q27, .ref q38, .null, .null, .int 0, .int 0, .int 0, .int 0])) :: ((((([] : va_W) ++ wRD aI aB u9) ++ wCR aI u20) ++ wCR aI u31) ++ wCR aI u42)) ++ [(q49, .inr (0, [.null, .null, .null, .null, .null, .null, .int 0, .int 0, .int 0, .int 0, .int 0, .int 0, .int 0, .int 0, .int 0, .int 0, .int 0, .int 0, .int 0]))]) H := hP
  have hD : va_D A (((h0, .inr (5, [.ref q5, .ref q16, .ref q27, .ref q38, .null, .null, .int 0, .int 0, .int 0, .int 0])) :: ((((([] : va_W) ++ wRD aI aB u9) ++ wCR aI u20) ++ wCR aI u31) ++ wCR aI u42)) ++ [(q49, .inr (0, [.null, .null, .null, .null, .null, .null, .int 0, .int 0, .int 0, .int 0, .int 0, .int 0, .int 0, .int 0, .int 0, .int 0, .int 0, .int 0, .int 0]))]) := hD
  refine W.widen (k := 58) (n := 1713) (by omega) (by omega) ?_
  refine lv_dup hx hb di5_52 rfl ?_
  have hPc := lst_P hP
  have hDc := lst_D hD
  have hFc := fr1 hD hS hA
  refine va_callv (va_runI (As := []) (rest := [.ref q49, .ref h0]) ⟨hx, hb, hml, hown, hg⟩ (ci_0 l dC dI aI aB q49 H.size) (cwI 0 hg gi_0 rfl rfl rfl (hg (.initialized RX0) (mGd_in (i := 93) (by decide +kernel) rfl)) (hg (.methodLink RX5 18 yi_0) (mGd_in (i := 219) (by decide +kernel) rfl)) (hg (.instanceMethod yi_0) (mGd_in (i := 220) (by decide +kernel) rfl)) rfl (by decide +kernel) ⟨Nat.le_of_ble_eq_true rfl, Nat.le_of_ble_eq_true rfl⟩) ⟨fun a U g mk q => by obtain ⟨q0, q1, qP, qK, qD⟩ := q; exact ⟨q0, q1, qP, va_K.moved (u := U) (U := U.calling g mk a) (Vm.Alike.refl U.vm) qK, qD⟩, fun U hU hW => ⟨rfl, by rw [hU], by rw [hU]; exact hPc, va_K.moved hW.alike hK, hDc.weaken (fun _ _ _ _ => trivial)⟩⟩ rfl rfl hl.1 rfl (lv_room (Nat.le_of_ble_eq_true rfl)) di5_53 ⟨Nat.le_of_ble_eq_true rfl, Nat.le_of_ble_eq_true rfl⟩) hS (fun q _ h => hFc q h) hFc (fun u53 t H1 locs ht hvm hw53 hB hz1 hk1 hS => ?_)
  obtain ⟨hP1, hD1⟩ := hB
  rw [ht] at hP1
  obtain ⟨hP, hD⟩ := jn hP hD hk1 hFc hP1 hD1
  generalize H1 = H at hP hS ⊢
  have hP : va_P (dC, dI) mCLS ((h0, .inr (5, [.ref q5, .ref q16, .ref q27, .ref q38, .null, .null, .int 0, .int 0, .int 0, .int 0])) :: (((((([] : va_W) ++ wRD aI aB u9) ++ wCR aI u20) ++ wCR aI u31) ++ wCR aI u42) ++ wCR aI u53)) H := hP
  have hD : va_D A ((h0, .inr (5, [.ref q5, .ref q16, .ref q27, .ref q38, .null, .null, .int 0, .int 0, .int 0, .int 0])) :: (((((([] : va_W) ++ wRD aI aB u9) ++ wCR aI u20) ++ wCR aI u31) ++ wCR aI u42) ++ wCR aI u53)) := hD
  refine W.widen (k := 73) (n := 1978) (by omega) (by omega) ?_
  refine va_putF (D := (dC, dI)) (ci := 5) (v := .ref q49) (ty := (.object "RingedLights$Crossing")) (C := RX5) (T := TX5) (N := 10) hx hb hg uw_5 tyX5 tyX5_ok nmX5 hown hK hP hD hS 0 rfl rfl 4 (by decide) (hg (.fieldLink RX5 29 "RingedLights" "secondKept" "LRingedLights$Crossing;") (mGd_in (i := 370) (by decide +kernel) rfl)) (fun _ h9 => h9) rfl hin rfl (by decide +kernel) rfl rfl (Nat.le_of_ble_eq_true rfl) di5_56 (fun H locs hP hD hS => ?_)
  have hP : va_P (dC, dI) mCLS ((h0, .inr (5, [.ref q5, .ref q16, .ref q27, .ref q38, .ref q49, .null, .int 0, .int 0, .int 0, .int 0])) :: (((((([] : va_W) ++ wRD aI aB u9) ++ wCR aI u20) ++ wCR aI u31) ++ wCR aI u42) ++ wCR aI u53)) H := hP
  have hD : va_D A ((h0, .inr (5, [.ref q5, .ref q16, .ref q27, .ref q38, .ref q49, .null, .int 0, .int 0, .int 0, .int 0])) :: (((((([] : va_W) ++ wRD aI aB u9) ++ wCR aI u20) ++ wCR aI u31) ++ wCR aI u42) ++ wCR aI u53)) := hD
  refine lv_aload_n hx hb di5_59 rfl (lv_at hl 0 rfl) ?_
  refine va_new (ci := 0) (fs := [.null, .null, .null, .null, .null, .null, .int 0, .int 0, .int 0, .int 0, .int 0, .int 0, .int 0, .int 0, .int 0, .int 0, .int 0, .int 0, .int 0]) (C := RX0) (T := TX0) (N := 19) hx hb hg uw_0 tyX0 tyX0_ok hown (hg (.classLink RX5 16 RX0) (mGd_in (i := 217) (by decide +kernel) rfl)) (hg (.instantiable RX0 19) (mGd_in (i := 218) (by decide +kernel) rfl)) (hg (.initialized RX0) (mGd_in (i := 93) (by decide +kernel) rfl)) hK hP hD hS hA rfl (by intro j hj; rcases (show j = 0 ∨ j = 1 ∨ j = 2 ∨ j = 3 ∨ j = 4 ∨ j = 5 ∨ j = 6 ∨ j = 7 ∨ j = 8 ∨ j = 9 ∨ j = 10 ∨ j = 11 ∨ j = 12 ∨ j = 13 ∨ j = 14 ∨ j = 15 ∨ j = 16 ∨ j = 17 ∨ j = 18 by omega) with rfl | rfl | rfl | rfl | rfl | rfl | rfl | rfl | rfl | rfl | rfl | rfl | rfl | rfl | rfl | rfl | rfl | rfl | rfl <;> rfl) (Nat.le_of_ble_eq_true rfl) (Nat.le_of_ble_eq_true rfl) di5_60 (fun q60 H hP hD hS => ?_)
  have hP : va_P (dC, dI) mCLS (((h0, .inr (5, [.ref q5, .ref q16, .ref q27, .ref q38, .ref q49, .null, .int 0, .int 0, .int 0, .int 0])) :: (((((([] : va_W) ++ wRD aI aB u9) ++ wCR aI u20) ++ wCR aI u31) ++ wCR aI u42) ++ wCR aI u53)) ++ [(q60, .inr (0, [.null, .null, .null, .null, .null, .null, .int 0, .int 0, .int 0, .int 0, .int 0, .int 0, .int 0, .int 0, .int 0, .int 0, .int 0, .int 0, .int 0]))]) H := hP
  have hD : va_D A (((h0, .inr (5, [.ref q5, .ref q16, .ref q27, .ref q38, .ref q49, .null, .int 0, .int 0, .int 0, .int 0])) :: (((((([] : va_W) ++ wRD aI aB u9) ++ wCR aI u20) ++ wCR aI u31) ++ wCR aI u42) ++ wCR aI u53)) ++ [(q60, .inr (0, [.null, .null, .null, .null, .null, .null, .int 0, .int 0, .int 0, .int 0, .int 0, .int 0, .int 0, .int 0, .int 0, .int 0, .int 0, .int 0, .int 0]))]) := hD
  refine W.widen (k := 74) (n := 1997) (by omega) (by omega) ?_
  refine lv_dup hx hb di5_63 rfl ?_
  have hPc := lst_P hP
  have hDc := lst_D hD
  have hFc := fr1 hD hS hA
  refine va_callv (va_runI (As := []) (rest := [.ref q60, .ref h0]) ⟨hx, hb, hml, hown, hg⟩ (ci_0 l dC dI aI aB q60 H.size) (cwI 0 hg gi_0 rfl rfl rfl (hg (.initialized RX0) (mGd_in (i := 93) (by decide +kernel) rfl)) (hg (.methodLink RX5 18 yi_0) (mGd_in (i := 219) (by decide +kernel) rfl)) (hg (.instanceMethod yi_0) (mGd_in (i := 220) (by decide +kernel) rfl)) rfl (by decide +kernel) ⟨Nat.le_of_ble_eq_true rfl, Nat.le_of_ble_eq_true rfl⟩) ⟨fun a U g mk q => by obtain ⟨q0, q1, qP, qK, qD⟩ := q; exact ⟨q0, q1, qP, va_K.moved (u := U) (U := U.calling g mk a) (Vm.Alike.refl U.vm) qK, qD⟩, fun U hU hW => ⟨rfl, by rw [hU], by rw [hU]; exact hPc, va_K.moved hW.alike hK, hDc.weaken (fun _ _ _ _ => trivial)⟩⟩ rfl rfl hl.1 rfl (lv_room (Nat.le_of_ble_eq_true rfl)) di5_64 ⟨Nat.le_of_ble_eq_true rfl, Nat.le_of_ble_eq_true rfl⟩) hS (fun q _ h => hFc q h) hFc (fun u64 t H1 locs ht hvm hw64 hB hz1 hk1 hS => ?_)
  obtain ⟨hP1, hD1⟩ := hB
  rw [ht] at hP1
  obtain ⟨hP, hD⟩ := jn hP hD hk1 hFc hP1 hD1
  generalize H1 = H at hP hS ⊢
  have hP : va_P (dC, dI) mCLS ((h0, .inr (5, [.ref q5, .ref q16, .ref q27, .ref q38, .ref q49, .null, .int 0, .int 0, .int 0, .int 0])) :: ((((((([] : va_W) ++ wRD aI aB u9) ++ wCR aI u20) ++ wCR aI u31) ++ wCR aI u42) ++ wCR aI u53) ++ wCR aI u64)) H := hP
  have hD : va_D A ((h0, .inr (5, [.ref q5, .ref q16, .ref q27, .ref q38, .ref q49, .null, .int 0, .int 0, .int 0, .int 0])) :: ((((((([] : va_W) ++ wRD aI aB u9) ++ wCR aI u20) ++ wCR aI u31) ++ wCR aI u42) ++ wCR aI u53) ++ wCR aI u64)) := hD
  refine W.widen (k := 89) (n := 2262) (by omega) (by omega) ?_
  refine va_putF (D := (dC, dI)) (ci := 5) (v := .ref q60) (ty := (.object "RingedLights$Crossing")) (C := RX5) (T := TX5) (N := 10) hx hb hg uw_5 tyX5 tyX5_ok nmX5 hown hK hP hD hS 0 rfl rfl 5 (by decide) (hg (.fieldLink RX5 32 "RingedLights" "thirdKept" "LRingedLights$Crossing;") (mGd_in (i := 371) (by decide +kernel) rfl)) (fun _ h9 => h9) rfl hin rfl (by decide +kernel) rfl rfl (Nat.le_of_ble_eq_true rfl) di5_67 (fun H locs hP hD hS => ?_)
  have hP : va_P (dC, dI) mCLS ((h0, .inr (5, [.ref q5, .ref q16, .ref q27, .ref q38, .ref q49, .ref q60, .int 0, .int 0, .int 0, .int 0])) :: ((((((([] : va_W) ++ wRD aI aB u9) ++ wCR aI u20) ++ wCR aI u31) ++ wCR aI u42) ++ wCR aI u53) ++ wCR aI u64)) H := hP
  have hD : va_D A ((h0, .inr (5, [.ref q5, .ref q16, .ref q27, .ref q38, .ref q49, .ref q60, .int 0, .int 0, .int 0, .int 0])) :: ((((((([] : va_W) ++ wRD aI aB u9) ++ wCR aI u20) ++ wCR aI u31) ++ wCR aI u42) ++ wCR aI u53) ++ wCR aI u64)) := hD
  refine lv_aload_n hx hb di5_70 rfl (lv_at hl 0 rfl) ?_
  refine lv_iconst (v := 0) hx hb di5_71 (by decide) ?_
  refine va_put (D := (dC, dI)) (ci := 5) (v := .int 0) (ty := .int) (C := RX5) (T := TX5) (N := 10) hx hb hg uw_5 tyX5 tyX5_ok nmX5 hown hK hP hD hS 0 rfl rfl 6 (by decide) (hg (.fieldLink RX5 35 "RingedLights" "kept" "I") (mGd_in (i := 372) (by decide +kernel) rfl)) (fun _ h9 => h9) rfl (by decide +kernel) rfl rfl (Nat.le_of_ble_eq_true rfl) di5_72 (fun H locs hP hD hS => ?_)
  have hP : va_P (dC, dI) mCLS ((h0, .inr (5, [.ref q5, .ref q16, .ref q27, .ref q38, .ref q49, .ref q60, .int 0, .int 0, .int 0, .int 0])) :: ((((((([] : va_W) ++ wRD aI aB u9) ++ wCR aI u20) ++ wCR aI u31) ++ wCR aI u42) ++ wCR aI u53) ++ wCR aI u64)) H := hP
  have hD : va_D A ((h0, .inr (5, [.ref q5, .ref q16, .ref q27, .ref q38, .ref q49, .ref q60, .int 0, .int 0, .int 0, .int 0])) :: ((((((([] : va_W) ++ wRD aI aB u9) ++ wCR aI u20) ++ wCR aI u31) ++ wCR aI u42) ++ wCR aI u53) ++ wCR aI u64)) := hD
  refine lv_aload_n hx hb di5_75 rfl (lv_at hl 0 rfl) ?_
  refine lv_iconst (v := 0) hx hb di5_76 (by decide) ?_
  refine va_put (D := (dC, dI)) (ci := 5) (v := .int 0) (ty := .int) (C := RX5) (T := TX5) (N := 10) hx hb hg uw_5 tyX5 tyX5_ok nmX5 hown hK hP hD hS 0 rfl rfl 7 (by decide) (hg (.fieldLink RX5 39 "RingedLights" "taped" "I") (mGd_in (i := 373) (by decide +kernel) rfl)) (fun _ h9 => h9) rfl (by decide +kernel) rfl rfl (Nat.le_of_ble_eq_true rfl) di5_77 (fun H locs hP hD hS => ?_)
  have hP : va_P (dC, dI) mCLS ((h0, .inr (5, [.ref q5, .ref q16, .ref q27, .ref q38, .ref q49, .ref q60, .int 0, .int 0, .int 0, .int 0])) :: ((((((([] : va_W) ++ wRD aI aB u9) ++ wCR aI u20) ++ wCR aI u31) ++ wCR aI u42) ++ wCR aI u53) ++ wCR aI u64)) H := hP
  have hD : va_D A ((h0, .inr (5, [.ref q5, .ref q16, .ref q27, .ref q38, .ref q49, .ref q60, .int 0, .int 0, .int 0, .int 0])) :: ((((((([] : va_W) ++ wRD aI aB u9) ++ wCR aI u20) ++ wCR aI u31) ++ wCR aI u42) ++ wCR aI u53) ++ wCR aI u64)) := hD
  refine lv_aload_n hx hb di5_80 rfl (lv_at hl 0 rfl) ?_
  refine lv_iconst (v := 0) hx hb di5_81 (by decide) ?_
  refine va_put (D := (dC, dI)) (ci := 5) (v := .int 0) (ty := .boolean) (C := RX5) (T := TX5) (N := 10) hx hb hg uw_5 tyX5 tyX5_ok nmX5 hown hK hP hD hS 0 rfl rfl 8 (by decide) (hg (.fieldLink RX5 42 "RingedLights" "everRead" "Z") (mGd_in (i := 374) (by decide +kernel) rfl)) (fun _ h9 => h9) rfl (by decide +kernel) rfl rfl (Nat.le_of_ble_eq_true rfl) di5_82 (fun H locs hP hD hS => ?_)
  have hP : va_P (dC, dI) mCLS ((h0, .inr (5, [.ref q5, .ref q16, .ref q27, .ref q38, .ref q49, .ref q60, .int 0, .int 0, .int 0, .int 0])) :: ((((((([] : va_W) ++ wRD aI aB u9) ++ wCR aI u20) ++ wCR aI u31) ++ wCR aI u42) ++ wCR aI u53) ++ wCR aI u64)) H := hP
  have hD : va_D A ((h0, .inr (5, [.ref q5, .ref q16, .ref q27, .ref q38, .ref q49, .ref q60, .int 0, .int 0, .int 0, .int 0])) :: ((((((([] : va_W) ++ wRD aI aB u9) ++ wCR aI u20) ++ wCR aI u31) ++ wCR aI u42) ++ wCR aI u53) ++ wCR aI u64)) := hD
  refine lv_aload_n hx hb di5_85 rfl (lv_at hl 0 rfl) ?_
  refine lv_iconst (v := 0) hx hb di5_86 (by decide) ?_
  refine va_put (D := (dC, dI)) (ci := 5) (v := .int 0) (ty := .int) (C := RX5) (T := TX5) (N := 10) hx hb hg uw_5 tyX5 tyX5_ok nmX5 hown hK hP hD hS 0 rfl rfl 9 (by decide) (hg (.fieldLink RX5 46 "RingedLights" "status" "I") (mGd_in (i := 375) (by decide +kernel) rfl)) (fun _ h9 => h9) rfl (by decide +kernel) rfl rfl (Nat.le_of_ble_eq_true rfl) di5_87 (fun H locs hP hD hS => ?_)
  have hP : va_P (dC, dI) mCLS ((h0, .inr (5, [.ref q5, .ref q16, .ref q27, .ref q38, .ref q49, .ref q60, .int 0, .int 0, .int 0, .int 0])) :: ((((((([] : va_W) ++ wRD aI aB u9) ++ wCR aI u20) ++ wCR aI u31) ++ wCR aI u42) ++ wCR aI u53) ++ wCR aI u64)) H := hP
  have hD : va_D A ((h0, .inr (5, [.ref q5, .ref q16, .ref q27, .ref q38, .ref q49, .ref q60, .int 0, .int 0, .int 0, .int 0])) :: ((((((([] : va_W) ++ wRD aI aB u9) ++ wCR aI u20) ++ wCR aI u31) ++ wCR aI u42) ++ wCR aI u53) ++ wCR aI u64)) := hD
  (try dsimp only at hw9)
  subst hw9
  (try dsimp only at hw20)
  subst hw20
  (try dsimp only at hw31)
  subst hw31
  (try dsimp only at hw42)
  subst hw42
  (try dsimp only at hw53)
  subst hw53
  (try dsimp only at hw64)
  subst hw64
  exact W.vret hx hb hr (fun t ht hW => ⟨⟨(fun i => match i with | 5 => u9 | 6 => (fun _ => h0) | 0 => u20 | 1 => u31 | 2 => u42 | 3 => u53 | 4 => u64 | _ => (fun _ => 0)), rfl, rfl, by rw [ht]; exact hP, hD⟩, hS.F ht⟩) hS.2.2 di5_90
