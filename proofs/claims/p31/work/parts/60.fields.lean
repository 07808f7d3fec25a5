/-! the words of the classes' fields; lemmas for the constructors -/
theorem uw_0 : ∀ w ∈ u_ws RX0 TX0 19, w ∈ mGd := by
  show ∀ w ∈ ([u_lay RX0 TX0 0, u_lay RX0 TX0 1, u_lay RX0 TX0 2, u_lay RX0 TX0 3, u_lay RX0 TX0 4, u_lay RX0 TX0 5, u_lay RX0 TX0 6, u_lay RX0 TX0 7, u_lay RX0 TX0 8, u_lay RX0 TX0 9, u_lay RX0 TX0 10, u_lay RX0 TX0 11, u_lay RX0 TX0 12, u_lay RX0 TX0 13, u_lay RX0 TX0 14, u_lay RX0 TX0 15, u_lay RX0 TX0 16, u_lay RX0 TX0 17, u_lay RX0 TX0 18] : List Cond), w ∈ mGd
  exact List.forall_mem_cons.mpr ⟨mGd_in (i := 327) (by decide +kernel) rfl, List.forall_mem_cons.mpr ⟨mGd_in (i := 329) (by decide +kernel) rfl, List.forall_mem_cons.mpr ⟨mGd_in (i := 331) (by decide +kernel) rfl, List.forall_mem_cons.mpr ⟨mGd_in (i := 333) (by decide +kernel) rfl, List.forall_mem_cons.mpr ⟨mGd_in (i := 335) (by decide +kernel) rfl, List.forall_mem_cons.mpr ⟨mGd_in (i := 337) (by decide +kernel) rfl, List.forall_mem_cons.mpr ⟨mGd_in (i := 339) (by decide +kernel) rfl, List.forall_mem_cons.mpr ⟨mGd_in (i := 341) (by decide +kernel) rfl, List.forall_mem_cons.mpr ⟨mGd_in (i := 343) (by decide +kernel) rfl, List.forall_mem_cons.mpr ⟨mGd_in (i := 345) (by decide +kernel) rfl, List.forall_mem_cons.mpr ⟨mGd_in (i := 347) (by decide +kernel) rfl, List.forall_mem_cons.mpr ⟨mGd_in (i := 349) (by decide +kernel) rfl, List.forall_mem_cons.mpr ⟨mGd_in (i := 351) (by decide +kernel) rfl, List.forall_mem_cons.mpr ⟨mGd_in (i := 353) (by decide +kernel) rfl, List.forall_mem_cons.mpr ⟨mGd_in (i := 355) (by decide +kernel) rfl, List.forall_mem_cons.mpr ⟨mGd_in (i := 357) (by decide +kernel) rfl, List.forall_mem_cons.mpr ⟨mGd_in (i := 359) (by decide +kernel) rfl, List.forall_mem_cons.mpr ⟨mGd_in (i := 361) (by decide +kernel) rfl, List.forall_mem_cons.mpr ⟨mGd_in (i := 363) (by decide +kernel) rfl, fun _ h => absurd h List.not_mem_nil⟩⟩⟩⟩⟩⟩⟩⟩⟩⟩⟩⟩⟩⟩⟩⟩⟩⟩⟩
theorem uw_1 : ∀ w ∈ u_ws RX1 TX1 5, w ∈ mGd := by
  show ∀ w ∈ ([u_lay RX1 TX1 0, u_lay RX1 TX1 1, u_lay RX1 TX1 2, u_lay RX1 TX1 3, u_lay RX1 TX1 4] : List Cond), w ∈ mGd
  exact List.forall_mem_cons.mpr ⟨mGd_in (i := 280) (by decide +kernel) rfl, List.forall_mem_cons.mpr ⟨mGd_in (i := 282) (by decide +kernel) rfl, List.forall_mem_cons.mpr ⟨mGd_in (i := 284) (by decide +kernel) rfl, List.forall_mem_cons.mpr ⟨mGd_in (i := 286) (by decide +kernel) rfl, List.forall_mem_cons.mpr ⟨mGd_in (i := 288) (by decide +kernel) rfl, fun _ h => absurd h List.not_mem_nil⟩⟩⟩⟩⟩
theorem uw_2 : ∀ w ∈ u_ws RX2 TX2 12, w ∈ mGd := by
  show ∀ w ∈ ([u_lay RX2 TX2 0, u_lay RX2 TX2 1, u_lay RX2 TX2 2, u_lay RX2 TX2 3, u_lay RX2 TX2 4, u_lay RX2 TX2 5, u_lay RX2 TX2 6, u_lay RX2 TX2 7, u_lay RX2 TX2 8, u_lay RX2 TX2 9, u_lay RX2 TX2 10, u_lay RX2 TX2 11] : List Cond), w ∈ mGd
  exact List.forall_mem_cons.mpr ⟨mGd_in (i := 149) (by decide +kernel) rfl, List.forall_mem_cons.mpr ⟨mGd_in (i := 151) (by decide +kernel) rfl, List.forall_mem_cons.mpr ⟨mGd_in (i := 153) (by decide +kernel) rfl, List.forall_mem_cons.mpr ⟨mGd_in (i := 155) (by decide +kernel) rfl, List.forall_mem_cons.mpr ⟨mGd_in (i := 157) (by decide +kernel) rfl, List.forall_mem_cons.mpr ⟨mGd_in (i := 159) (by decide +kernel) rfl, List.forall_mem_cons.mpr ⟨mGd_in (i := 161) (by decide +kernel) rfl, List.forall_mem_cons.mpr ⟨mGd_in (i := 163) (by decide +kernel) rfl, List.forall_mem_cons.mpr ⟨mGd_in (i := 165) (by decide +kernel) rfl, List.forall_mem_cons.mpr ⟨mGd_in (i := 167) (by decide +kernel) rfl, List.forall_mem_cons.mpr ⟨mGd_in (i := 169) (by decide +kernel) rfl, List.forall_mem_cons.mpr ⟨mGd_in (i := 171) (by decide +kernel) rfl, fun _ h => absurd h List.not_mem_nil⟩⟩⟩⟩⟩⟩⟩⟩⟩⟩⟩⟩
theorem uw_3 : ∀ w ∈ u_ws RX3 TX3 12, w ∈ mGd := by
  show ∀ w ∈ ([u_lay RX3 TX3 0, u_lay RX3 TX3 1, u_lay RX3 TX3 2, u_lay RX3 TX3 3, u_lay RX3 TX3 4, u_lay RX3 TX3 5, u_lay RX3 TX3 6, u_lay RX3 TX3 7, u_lay RX3 TX3 8, u_lay RX3 TX3 9, u_lay RX3 TX3 10, u_lay RX3 TX3 11] : List Cond), w ∈ mGd
  exact List.forall_mem_cons.mpr ⟨mGd_in (i := 192) (by decide +kernel) rfl, List.forall_mem_cons.mpr ⟨mGd_in (i := 194) (by decide +kernel) rfl, List.forall_mem_cons.mpr ⟨mGd_in (i := 196) (by decide +kernel) rfl, List.forall_mem_cons.mpr ⟨mGd_in (i := 198) (by decide +kernel) rfl, List.forall_mem_cons.mpr ⟨mGd_in (i := 200) (by decide +kernel) rfl, List.forall_mem_cons.mpr ⟨mGd_in (i := 202) (by decide +kernel) rfl, List.forall_mem_cons.mpr ⟨mGd_in (i := 204) (by decide +kernel) rfl, List.forall_mem_cons.mpr ⟨mGd_in (i := 206) (by decide +kernel) rfl, List.forall_mem_cons.mpr ⟨mGd_in (i := 208) (by decide +kernel) rfl, List.forall_mem_cons.mpr ⟨mGd_in (i := 210) (by decide +kernel) rfl, List.forall_mem_cons.mpr ⟨mGd_in (i := 212) (by decide +kernel) rfl, List.forall_mem_cons.mpr ⟨mGd_in (i := 214) (by decide +kernel) rfl, fun _ h => absurd h List.not_mem_nil⟩⟩⟩⟩⟩⟩⟩⟩⟩⟩⟩⟩
theorem uw_4 : ∀ w ∈ u_ws RX4 TX4 9, w ∈ mGd := by
  show ∀ w ∈ ([u_lay RX4 TX4 0, u_lay RX4 TX4 1, u_lay RX4 TX4 2, u_lay RX4 TX4 3, u_lay RX4 TX4 4, u_lay RX4 TX4 5, u_lay RX4 TX4 6, u_lay RX4 TX4 7, u_lay RX4 TX4 8] : List Cond), w ∈ mGd
  exact List.forall_mem_cons.mpr ⟨mGd_in (i := 249) (by decide +kernel) rfl, List.forall_mem_cons.mpr ⟨mGd_in (i := 251) (by decide +kernel) rfl, List.forall_mem_cons.mpr ⟨mGd_in (i := 253) (by decide +kernel) rfl, List.forall_mem_cons.mpr ⟨mGd_in (i := 255) (by decide +kernel) rfl, List.forall_mem_cons.mpr ⟨mGd_in (i := 257) (by decide +kernel) rfl, List.forall_mem_cons.mpr ⟨mGd_in (i := 259) (by decide +kernel) rfl, List.forall_mem_cons.mpr ⟨mGd_in (i := 261) (by decide +kernel) rfl, List.forall_mem_cons.mpr ⟨mGd_in (i := 263) (by decide +kernel) rfl, List.forall_mem_cons.mpr ⟨mGd_in (i := 265) (by decide +kernel) rfl, fun _ h => absurd h List.not_mem_nil⟩⟩⟩⟩⟩⟩⟩⟩⟩
theorem uw_5 : ∀ w ∈ u_ws RX5 TX5 10, w ∈ mGd := by
  show ∀ w ∈ ([u_lay RX5 TX5 0, u_lay RX5 TX5 1, u_lay RX5 TX5 2, u_lay RX5 TX5 3, u_lay RX5 TX5 4, u_lay RX5 TX5 5, u_lay RX5 TX5 6, u_lay RX5 TX5 7, u_lay RX5 TX5 8, u_lay RX5 TX5 9] : List Cond), w ∈ mGd
  exact List.forall_mem_cons.mpr ⟨mGd_in (i := 376) (by decide +kernel) rfl, List.forall_mem_cons.mpr ⟨mGd_in (i := 378) (by decide +kernel) rfl, List.forall_mem_cons.mpr ⟨mGd_in (i := 380) (by decide +kernel) rfl, List.forall_mem_cons.mpr ⟨mGd_in (i := 382) (by decide +kernel) rfl, List.forall_mem_cons.mpr ⟨mGd_in (i := 384) (by decide +kernel) rfl, List.forall_mem_cons.mpr ⟨mGd_in (i := 386) (by decide +kernel) rfl, List.forall_mem_cons.mpr ⟨mGd_in (i := 388) (by decide +kernel) rfl, List.forall_mem_cons.mpr ⟨mGd_in (i := 390) (by decide +kernel) rfl, List.forall_mem_cons.mpr ⟨mGd_in (i := 392) (by decide +kernel) rfl, List.forall_mem_cons.mpr ⟨mGd_in (i := 394) (by decide +kernel) rfl, fun _ h => absurd h List.not_mem_nil⟩⟩⟩⟩⟩⟩⟩⟩⟩⟩
theorem uw_6 : ∀ w ∈ u_ws RX6 TX6 21, w ∈ mGd := by
  show ∀ w ∈ ([u_lay RX6 TX6 0, u_lay RX6 TX6 1, u_lay RX6 TX6 2, u_lay RX6 TX6 3, u_lay RX6 TX6 4, u_lay RX6 TX6 5, u_lay RX6 TX6 6, u_lay RX6 TX6 7, u_lay RX6 TX6 8, u_lay RX6 TX6 9, u_lay RX6 TX6 10, u_lay RX6 TX6 11, u_lay RX6 TX6 12, u_lay RX6 TX6 13, u_lay RX6 TX6 14, u_lay RX6 TX6 15, u_lay RX6 TX6 16, u_lay RX6 TX6 17, u_lay RX6 TX6 18, u_lay RX6 TX6 19, u_lay RX6 TX6 20] : List Cond), w ∈ mGd
  exact List.forall_mem_cons.mpr ⟨mGd_in (i := 1198) (by decide +kernel) rfl, List.forall_mem_cons.mpr ⟨mGd_in (i := 1200) (by decide +kernel) rfl, List.forall_mem_cons.mpr ⟨mGd_in (i := 1202) (by decide +kernel) rfl, List.forall_mem_cons.mpr ⟨mGd_in (i := 1204) (by decide +kernel) rfl, List.forall_mem_cons.mpr ⟨mGd_in (i := 1206) (by decide +kernel) rfl, List.forall_mem_cons.mpr ⟨mGd_in (i := 1208) (by decide +kernel) rfl, List.forall_mem_cons.mpr ⟨mGd_in (i := 1210) (by decide +kernel) rfl, List.forall_mem_cons.mpr ⟨mGd_in (i := 1212) (by decide +kernel) rfl, List.forall_mem_cons.mpr ⟨mGd_in (i := 1214) (by decide +kernel) rfl, List.forall_mem_cons.mpr ⟨mGd_in (i := 1216) (by decide +kernel) rfl, List.forall_mem_cons.mpr ⟨mGd_in (i := 1218) (by decide +kernel) rfl, List.forall_mem_cons.mpr ⟨mGd_in (i := 1220) (by decide +kernel) rfl, List.forall_mem_cons.mpr ⟨mGd_in (i := 1222) (by decide +kernel) rfl, List.forall_mem_cons.mpr ⟨mGd_in (i := 1224) (by decide +kernel) rfl, List.forall_mem_cons.mpr ⟨mGd_in (i := 1226) (by decide +kernel) rfl, List.forall_mem_cons.mpr ⟨mGd_in (i := 1228) (by decide +kernel) rfl, List.forall_mem_cons.mpr ⟨mGd_in (i := 1230) (by decide +kernel) rfl, List.forall_mem_cons.mpr ⟨mGd_in (i := 1232) (by decide +kernel) rfl, List.forall_mem_cons.mpr ⟨mGd_in (i := 1234) (by decide +kernel) rfl, List.forall_mem_cons.mpr ⟨mGd_in (i := 1236) (by decide +kernel) rfl, List.forall_mem_cons.mpr ⟨mGd_in (i := 1238) (by decide +kernel) rfl, fun _ h => absurd h List.not_mem_nil⟩⟩⟩⟩⟩⟩⟩⟩⟩⟩⟩⟩⟩⟩⟩⟩⟩⟩⟩⟩⟩
theorem mCls_of {j ci : Nat} (h : mCls j = some ci) : (j = 0 ∧ ci = 0) ∨ (j = 1 ∧ ci = 2) ∨ (j = 8 ∧ ci = 4) ∨ (j = 9 ∧ ci = 4) ∨ (j = 10 ∧ ci = 1) ∨ (j = 16 ∧ ci = 3) ∨ (j = 18 ∧ ci = 5) ∨ (j = 20 ∧ ci = 6) := by
  unfold mCls at h
  split at h <;> first | (cases h; simp; done) | cases h
theorem fl_0_0 : ∀ k, k < 19 → mRef 0 0 k = none → (tyX0 k = (if mBoF 0 k then .boolean else .int)) ∧ ((TX0 k).2.2.2 = false ∨ (0 = 4 ∧ k = 0)) := by decide +kernel
theorem fl_1_10 : ∀ k, k < 5 → mRef 0 10 k = none → (tyX1 k = (if mBoF 10 k then .boolean else .int)) ∧ ((TX1 k).2.2.2 = false ∨ (1 = 4 ∧ k = 0)) := by decide +kernel
theorem fl_2_1 : ∀ k, k < 12 → mRef 0 1 k = none → (tyX2 k = (if mBoF 1 k then .boolean else .int)) ∧ ((TX2 k).2.2.2 = false ∨ (2 = 4 ∧ k = 0)) := by decide +kernel
theorem fl_3_16 : ∀ k, k < 12 → mRef 0 16 k = none → (tyX3 k = (if mBoF 16 k then .boolean else .int)) ∧ ((TX3 k).2.2.2 = false ∨ (3 = 4 ∧ k = 0)) := by decide +kernel
theorem fl_4_8 : ∀ k, k < 9 → mRef 0 8 k = none → (tyX4 k = (if mBoF 8 k then .boolean else .int)) ∧ ((TX4 k).2.2.2 = false ∨ (4 = 4 ∧ k = 0)) := by decide +kernel
theorem fl_4_9 : ∀ k, k < 9 → mRef 0 9 k = none → (tyX4 k = (if mBoF 9 k then .boolean else .int)) ∧ ((TX4 k).2.2.2 = false ∨ (4 = 4 ∧ k = 0)) := by decide +kernel
theorem fl_5_18 : ∀ k, k < 10 → mRef 0 18 k = none → (tyX5 k = (if mBoF 18 k then .boolean else .int)) ∧ ((TX5 k).2.2.2 = false ∨ (5 = 4 ∧ k = 0)) := by decide +kernel
theorem fl_6_20 : ∀ k, k < 21 → mRef 0 20 k = none → (tyX6 k = (if mBoF 20 k then .boolean else .int)) ∧ ((TX6 k).2.2.2 = false ∨ (6 = 4 ∧ k = 0)) := by decide +kernel
theorem mFl_ok : mFl := by
  intro ci r hr
  match ci, hr with
  | 0, hr => cases hr; exact ⟨uw_0, nmX0, tyX0, tyX0_ok, fun j k hj hk hi => by rcases mCls_of hj with ⟨rfl, h⟩ | ⟨rfl, h⟩ | ⟨rfl, h⟩ | ⟨rfl, h⟩ | ⟨rfl, h⟩ | ⟨rfl, h⟩ | ⟨rfl, h⟩ | ⟨rfl, h⟩ <;> first | omega | exact fl_0_0 k hk (hi 0)⟩
  | 1, hr => cases hr; exact ⟨uw_1, nmX1, tyX1, tyX1_ok, fun j k hj hk hi => by rcases mCls_of hj with ⟨rfl, h⟩ | ⟨rfl, h⟩ | ⟨rfl, h⟩ | ⟨rfl, h⟩ | ⟨rfl, h⟩ | ⟨rfl, h⟩ | ⟨rfl, h⟩ | ⟨rfl, h⟩ <;> first | omega | exact fl_1_10 k hk (hi 0)⟩
  | 2, hr => cases hr; exact ⟨uw_2, nmX2, tyX2, tyX2_ok, fun j k hj hk hi => by rcases mCls_of hj with ⟨rfl, h⟩ | ⟨rfl, h⟩ | ⟨rfl, h⟩ | ⟨rfl, h⟩ | ⟨rfl, h⟩ | ⟨rfl, h⟩ | ⟨rfl, h⟩ | ⟨rfl, h⟩ <;> first | omega | exact fl_2_1 k hk (hi 0)⟩
  | 3, hr => cases hr; exact ⟨uw_3, nmX3, tyX3, tyX3_ok, fun j k hj hk hi => by rcases mCls_of hj with ⟨rfl, h⟩ | ⟨rfl, h⟩ | ⟨rfl, h⟩ | ⟨rfl, h⟩ | ⟨rfl, h⟩ | ⟨rfl, h⟩ | ⟨rfl, h⟩ | ⟨rfl, h⟩ <;> first | omega | exact fl_3_16 k hk (hi 0)⟩
  | 4, hr => cases hr; exact ⟨uw_4, nmX4, tyX4, tyX4_ok, fun j k hj hk hi => by rcases mCls_of hj with ⟨rfl, h⟩ | ⟨rfl, h⟩ | ⟨rfl, h⟩ | ⟨rfl, h⟩ | ⟨rfl, h⟩ | ⟨rfl, h⟩ | ⟨rfl, h⟩ | ⟨rfl, h⟩ <;> first | omega | exact fl_4_8 k hk (hi 0) | exact fl_4_9 k hk (hi 0)⟩
  | 5, hr => cases hr; exact ⟨uw_5, nmX5, tyX5, tyX5_ok, fun j k hj hk hi => by rcases mCls_of hj with ⟨rfl, h⟩ | ⟨rfl, h⟩ | ⟨rfl, h⟩ | ⟨rfl, h⟩ | ⟨rfl, h⟩ | ⟨rfl, h⟩ | ⟨rfl, h⟩ | ⟨rfl, h⟩ <;> first | omega | exact fl_5_18 k hk (hi 0)⟩
  | 6, hr => cases hr; exact ⟨uw_6, nmX6, tyX6, tyX6_ok, fun j k hj hk hi => by rcases mCls_of hj with ⟨rfl, h⟩ | ⟨rfl, h⟩ | ⟨rfl, h⟩ | ⟨rfl, h⟩ | ⟨rfl, h⟩ | ⟨rfl, h⟩ | ⟨rfl, h⟩ | ⟨rfl, h⟩ <;> first | omega | exact fl_6_20 k hk (hi 0)⟩
  | n + 7, hr => simp [mCLS] at hr
theorem jn {A0 : Nat → Prop} {D : va_G} {cl : List vw_C} {wr wc w1 : va_W} {H H1 : Heap} (hP : va_P D cl (wr ++ wc) H) (hD : va_D A0 (wr ++ wc)) (hk : ∀ q : Nat, q < H.size → ¬ va_A wc H.size q → H1[q]? = H[q]?) (hF : ∀ q, va_A wc H.size q → A0 q) (hP1 : va_P D cl w1 H1) (hD1 : va_D (va_A wc H.size) w1) : va_P D cl (wr ++ w1) H1 ∧ va_D A0 (wr ++ w1) := by
  have left : ∀ (k : Nat) (q : Nat × va_E), wr[k]? = some q → (wr ++ wc)[k]? = some q := fun k q hq => by rw [List.getElem?_append_left (List.getElem?_eq_some_iff.mp hq).1]; exact hq
  have apart : ∀ (k : Nat) (q : Nat × va_E), wr[k]? = some q → q.1 < H.size ∧ ¬ va_A wc H.size q.1 := by
    intro k q hq
    have h2 := left k q hq
    have hl := (hP k q h2).lt
    refine ⟨hl, fun h => ?_⟩
    rcases h with ⟨k2, e, h⟩ | h
    · have h4 : (wr ++ wc)[wr.length + k2]? = some (q.1, e) := by
        rw [List.getElem?_append_right (by omega), show wr.length + k2 - wr.length = k2 by omega]
        exact h
      have h5 := hD.1 _ _ _ _ h2 h4 rfl
      have h6 := (List.getElem?_eq_some_iff.mp hq).1
      omega
    · omega
  refine ⟨va_P.app (fun k q hq => ?_) hP1, va_D.app ⟨fun i j p q h1 h2 e => hD.1 i j p q (left i p h1) (left j q h2) e, fun k q hk => hD.2 k q (left k q hk)⟩ (hD1.weaken (fun k q _ h => hF q.1 h)) (fun i j x y hx hy hxy => ?_)⟩
  · obtain ⟨g1, g2⟩ := apart k q hq
    exact (hP k q (left k q hq)).kept (hk q.1 g1 g2)
  · exact (apart i x hx).2 (by rw [hxy]; exact hD1.2 j y hy)
theorem lst {wr : va_W} {x : Nat × va_E} : (wr ++ [x])[wr.length]? = some x := by
  rw [List.getElem?_append_right (Nat.le_refl _), Nat.sub_self]; rfl
theorem lst_P {D : va_G} {cl : List vw_C} {wr : va_W} {x : Nat × va_E} {H : Heap} (h : va_P D cl (wr ++ [x]) H) : va_P D cl [x] H := fun k q hk => by
  cases k with
  | zero => cases hk; exact h _ _ lst
  | succ k => simp at hk
theorem lst_D {A : Nat → Prop} {wr : va_W} {x : Nat × va_E} (h : va_D A (wr ++ [x])) : va_D A [x] := by
  refine ⟨fun i j p q hi hj _ => ?_, fun k q hk => ?_⟩
  · have h1 := (List.getElem?_eq_some_iff.mp hi).1
    have h2 := (List.getElem?_eq_some_iff.mp hj).1
    simp at h1 h2
    omega
  · cases k with
    | zero => cases hk; exact h.2 _ _ lst
    | succ k => simp at hk
theorem fr1 {A0 : Nat → Prop} {wr : va_W} {a : Nat} {e : va_E} {H0 H : Heap} {locs : List Loc} (hD : va_D A0 (wr ++ [(a, e)])) (hS : va_S A0 H0 H locs) (hA : ∀ q, H0.size ≤ q → A0 q) : ∀ q, va_A [(a, e)] H.size q → A0 q := by
  intro q h
  rcases h with ⟨k, e2, h⟩ | h
  · cases k with
    | zero => cases h; exact hD.2 _ _ lst
    | succ k => simp at h
  · exact hA q (Nat.le_trans hS.1 h)
theorem aI_eq {D : va_G} {cl : List vw_C} {aI aB cA : ClassId} {U : State} (hK : va_K D cl ([(aI, .int), (aB, .byte)] ++ [(cA, .int)]) U) : aI = cA := by
  have h1 : U.vm.findClass ("[" ++ FieldType.int.toString) = some aI := (hK.2 0 _ rfl).2
  have h2 : U.vm.findClass ("[" ++ FieldType.int.toString) = some cA := (hK.2 2 _ rfl).2
  exact Option.some.inj (h1.symm.trans h2)
theorem aB_eq {D : va_G} {cl : List vw_C} {aI aB cA : ClassId} {U : State} (hK : va_K D cl ([(aI, .int), (aB, .byte)] ++ [(cA, .byte)]) U) : aB = cA := by
  have h1 : U.vm.findClass ("[" ++ FieldType.byte.toString) = some aB := (hK.2 1 _ rfl).2
  have h2 : U.vm.findClass ("[" ++ FieldType.byte.toString) = some cA := (hK.2 2 _ rfl).2
  exact Option.some.inj (h1.symm.trans h2)
-- the worlds that the constructors leave
abbrev ni (n : Nat) : vp_A := (n, .inl (fun _ => 0))
def wPL (aI : ClassId) (a : Nat → Nat) : va_W := [(a 1, .inr (2, [.int 0, .int 0, .int 0, .ref (a 2), .ref (a 3), .ref (a 4), .ref (a 5), .ref (a 6), .ref (a 7), .int 0, .int 0, .int 0])), (a 2, .inl (aI, ni 8)), (a 3, .inl (aI, ni 8)), (a 4, .inl (aI, ni 8)), (a 5, .inl (aI, ni 80)), (a 6, .inl (aI, ni 10)), (a 7, .inl (aI, ni 4))]
def wRG (h : Nat) (n : Int32) : va_W := [(h, .inr (4, [.int n, .int (-1), .int 3, .int 0, .int (-1), .int 0, .int 0, .int 0, .int 0]))]
def wLG (aI : ClassId) (a : Nat → Nat) : va_W := [(a 10, .inr (1, [.ref (a 11), .ref (a 12), .ref (a 13), .int 0, .int 0])), (a 11, .inl (aI, ni 32)), (a 12, .inl (aI, ni 32)), (a 13, .inl (aI, ni 32))]
def wCR (aI : ClassId) (a : Nat → Nat) : va_W := (a 0, .inr (0, [.ref (a 1), .ref (a 8), .ref (a 9), .ref (a 10), .ref (a 14), .ref (a 15), .int 0, .int 0, .int 0, .int 0, .int 0, .int 0, .int 0, .int 0, .int 0, .int 0, .int (-1), .int 0, .int 0])) :: (wPL aI a ++ wRG (a 8) 0 ++ wRG (a 9) 1 ++ wLG aI a ++ [(a 14, .inl (aI, ni 8))] ++ [(a 15, .inl (aI, ni 8))])
def wRD (aI aB : ClassId) (a : Nat → Nat) : va_W := (a 16, .inr (3, [.ref (a 19), .ref (a 1), .int 0, .int 0, .int 0, .int 0, .int 0, .int 0, .int 0, .int 0, .int 0, .int 0])) :: ([(a 19, .inl (aB, ni 700))] ++ wPL aI a)
def wRL (aI aB : ClassId) (u : Nat → Nat → Nat) : va_W := (u 6 18, .inr (5, [.ref (u 5 16), .ref (u 0 0), .ref (u 1 0), .ref (u 2 0), .ref (u 3 0), .ref (u 4 0), .int 0, .int 0, .int 0, .int 0])) :: (wRD aI aB (u 5) ++ wCR aI (u 0) ++ wCR aI (u 1) ++ wCR aI (u 2) ++ wCR aI (u 3) ++ wCR aI (u 4))
