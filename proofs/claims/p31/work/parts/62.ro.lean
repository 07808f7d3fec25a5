/-! what the Statement gives of the start: texts, rows of the marks, statics -/
def mTm1 (i : Nat) : Term := .string (mStrL.getD i ("", 0, "", 0)).1 (mStrL.getD i ("", 0, "", 0)).2.1
def mFlat : List Cond := flatC (Jvm.Cond.and given_1 narrow_1)
theorem rs_ex : ∀ i, i < 18 → Cond.exactly (mTm1 i) "java/lang/String" ∈ mFlat := by decide +kernel
theorem rs_co : ∀ i, i < 18 → Cond.eq (.field (mTm1 i) "java/lang/String" "coder" "B") (.int 0) ∈ mFlat := by decide +kernel
theorem rs_ar : ∀ i, i < 18 → Cond.arrayOf (.field (mTm1 i) "java/lang/String" "value" "[B") .byte ∈ mFlat := by decide +kernel
theorem rs_le : ∀ i, i < 18 → Cond.eq (.length (.field (mTm1 i) "java/lang/String" "value" "[B")) (.int (Int32.ofNat (mSL.getD i 0))) ∈ mFlat := by decide +kernel
def elB : List Nat := [52, 200, 220, 242, 264, 287, 311, 61, 69, 79, 89, 103, 117, 131, 146, 164, 182, 334]
def neP : List (List Nat) := [[0, 205, 226, 247, 269, 292, 314, 64, 73, 82, 95, 108, 121, 135, 152, 169, 186, 430], [205, 0, 237, 258, 280, 303, 325, 206, 207, 208, 209, 210, 211, 212, 213, 214, 215, 441], [226, 237, 0, 259, 281, 304, 326, 227, 228, 229, 230, 231, 232, 233, 234, 235, 236, 442], [247, 258, 259, 0, 282, 305, 327, 248, 249, 250, 251, 252, 253, 254, 255, 256, 257, 443], [269, 280, 281, 282, 0, 306, 328, 270, 271, 272, 273, 274, 275, 276, 277, 278, 279, 444], [292, 303, 304, 305, 306, 0, 329, 293, 294, 295, 296, 297, 298, 299, 300, 301, 302, 445], [314, 325, 326, 327, 328, 329, 0, 315, 316, 317, 318, 319, 320, 321, 322, 323, 324, 446], [64, 206, 227, 248, 270, 293, 315, 0, 74, 83, 96, 109, 122, 136, 153, 170, 187, 431], [73, 207, 228, 249, 271, 294, 316, 74, 0, 84, 97, 110, 123, 137, 154, 171, 188, 432], [82, 208, 229, 250, 272, 295, 317, 83, 84, 0, 98, 111, 124, 138, 155, 172, 189, 433], [95, 209, 230, 251, 273, 296, 318, 96, 97, 98, 0, 112, 125, 139, 156, 173, 190, 434], [108, 210, 231, 252, 274, 297, 319, 109, 110, 111, 112, 0, 126, 140, 157, 174, 191, 435], [121, 211, 232, 253, 275, 298, 320, 122, 123, 124, 125, 126, 0, 141, 158, 175, 192, 436], [135, 212, 233, 254, 276, 299, 321, 136, 137, 138, 139, 140, 141, 0, 159, 176, 193, 437], [152, 213, 234, 255, 277, 300, 322, 153, 154, 155, 156, 157, 158, 159, 0, 177, 194, 438], [169, 214, 235, 256, 278, 301, 323, 170, 171, 172, 173, 174, 175, 176, 177, 0, 195, 439], [186, 215, 236, 257, 279, 302, 324, 187, 188, 189, 190, 191, 192, 193, 194, 195, 0, 440], [430, 441, 442, 443, 444, 445, 446, 431, 432, 433, 434, 435, 436, 437, 438, 439, 440, 0]]
theorem rs_el0 : ∀ i, i < 18 → ∀ j, j < mSL.getD i 0 → mFlat[elB.getD i 0 + j]? = some (Cond.eq (.elem (.field (mTm1 i) "java/lang/String" "value" "[B") (.int (Int32.ofNat j))) (.int ((mSB.getD i []).getD j 0))) := by decide +kernel
theorem rs_el : ∀ i, i < 18 → ∀ j, j < mSL.getD i 0 → Cond.eq (.elem (.field (mTm1 i) "java/lang/String" "value" "[B") (.int (Int32.ofNat j))) (.int ((mSB.getD i []).getD j 0)) ∈ mFlat := fun i hi j hj => List.mem_of_getElem? (rs_el0 i hi j hj)
theorem rs_ne0 : ∀ i, i < 18 → ∀ j, j < 18 → i ≠ j → mFlat[(neP.getD i []).getD j 0]? = some (Cond.not (Cond.eq (mTm1 i) (mTm1 j))) ∨ mFlat[(neP.getD i []).getD j 0]? = some (Cond.not (Cond.eq (mTm1 j) (mTm1 i))) := by decide +kernel
theorem rs_ne : ∀ i, i < 18 → ∀ j, j < 18 → i ≠ j → Cond.not (Cond.eq (mTm1 i) (mTm1 j)) ∈ mFlat ∨ Cond.not (Cond.eq (mTm1 j) (mTm1 i)) ∈ mFlat := fun i hi j hj hn => (rs_ne0 i hi j hj hn).imp List.mem_of_getElem? List.mem_of_getElem?
theorem rs_sr : ∀ i, i < 18 → Cond.stringRef (mStrL.getD i ("", 0, "", 0)).1 (mStrL.getD i ("", 0, "", 0)).2.1 (mStrL.getD i ("", 0, "", 0)).2.2.1 ∈ lw_tbl := by decide +kernel
theorem rs_at : ∀ q ∈ mStrL, q.2.2.2 < 18 ∧ mStrL.getD q.2.2.2 ("", 0, "", 0) = q := by decide +kernel
theorem rs_len : ∀ i, i < 18 → mSL.getD i 0 < 2 ^ 31 := by decide +kernel
def mMk (j : Nat) : List Int32 := match j with
  | 27 => mLeast
  | 28 => mMost
  | _ => mUsual
theorem rm_ar : ∀ j, j < 30 → 27 ≤ j → Cond.arrayOf (.static "RingedLights" (mStN j) "[I") .int ∈ mFlat := by decide +kernel
theorem rm_le : ∀ j, j < 30 → 27 ≤ j → Cond.eq (.length (.static "RingedLights" (mStN j) "[I")) (.int (Int32.ofNat 10)) ∈ mFlat := by decide +kernel
theorem rm_el : ∀ j, j < 30 → 27 ≤ j → ∀ k, k < 10 → Cond.eq (.elem (.static "RingedLights" (mStN j) "[I") (.int (Int32.ofNat k))) (.int ((mMk j).getD k 0)) ∈ mFlat := by decide +kernel
theorem rm_ls : ∀ j, j < 30 → 27 ≤ j → Cond.laysStatic "RingedLights" (mStN j) "[I" ∈ lw_tbl := by decide +kernel
theorem rm_in : Cond.initialized "RingedLights" ∈ lw_tbl ∧ Cond.initialized "java/lang/String" ∈ lw_tbl ∧ Cond.initialized "jdk/internal/util/Preconditions" ∈ lw_tbl ∧ Cond.laysStatic "java/lang/String" "COMPACT_STRINGS" "Z" ∈ lw_tbl ∧ Cond.laysStatic "jdk/internal/util/Preconditions" "SIOOBE_FORMATTER" "Ljava/util/function/BiFunction;" ∈ lw_tbl := by decide +kernel
theorem rm_cs : Cond.eq (.static "java/lang/String" "COMPACT_STRINGS" "Z") (.int 1) ∈ mFlat ∧ Cond.isRef (.static "jdk/internal/util/Preconditions" "SIOOBE_FORMATTER" "Ljava/util/function/BiFunction;") ∈ mFlat := by decide +kernel
theorem mIn_ro {i j : Nat} (h : mIn (i, j)) (hj : 25 ≤ j) : (i = 8 ∧ j = 26) ∨ (i = 9 ∧ 27 ≤ j ∧ j ≤ 29) ∨ (i = 99 ∧ j = 99) ∨ (i < 18 ∧ j = 25) := by
  rcases h with h | h
  · have := (mCL_99 _ h).2
    dsimp only at this
    omega
  · have key : ∀ q ∈ mROL, 25 ≤ q.2 → (q.1 = 8 ∧ q.2 = 26) ∨ (q.1 = 9 ∧ 27 ≤ q.2 ∧ q.2 ≤ 29) ∨ (q.1 = 99 ∧ q.2 = 99) ∨ (q.1 < 18 ∧ q.2 = 25) := by decide +kernel
    exact key _ h hj
theorem ro_start {s : State} {b L : Nat} {xs : Nat → Int32} {A : Nat → Prop} (hgv : (Jvm.Cond.and given_1 narrow_1).before #[Value.ref b] s = true) (hts : ∀ w ∈ lw_tbl, w.before #[Value.ref b] s = true) (hX : va_X b L xs s s.heap) (hL : L < 2 ^ 31) (hA : ∀ a : Nat, a < s.heap.size → ¬ A a) :
    ∃ (sK sV st : Nat → Nat) (oq : Value), oq.category = 1 ∧ ∀ ad : Nat → Nat → Nat, (∀ n, n < 18 → ad n 24 = sK n ∧ ad n 25 = sV n) → (∀ j, 27 ≤ j → j ≤ 29 → ad 9 j = st j) → ad 8 26 = b → mRo ad oq (xs, L) A s := by
  have hs : ∀ w ∈ mFlat, w.before #[Value.ref b] s = true := flat_of_before _ hgv
  obtain ⟨sK, sV, hS, hE⟩ := vk_Sof (args := #[Value.ref b]) (s := s) (N := 18) (tm := mTm1) (len := mSL) (byt := mSB) (A := A) rs_len (fun i hi => hs _ (rs_ex i hi)) (fun i hi => hs _ (rs_co i hi)) (fun i hi => hs _ (rs_ar i hi)) (fun i hi => hs _ (rs_le i hi)) (fun i hi j hj => hs _ (rs_el i hi j hj)) (fun i j hi hj hn => (rs_ne i hi j hj hn).imp (hs _) (hs _)) hA
  have hM : ∀ j, ∃ t : Nat, 27 ≤ j → j ≤ 29 → va_T .int t 10 (fun k => .int ((mMk j).getD k 0)) A s s.heap ∧ va_Z "RingedLights" (mStN j) "[I" (.ref t) A s s.heap := by
    intro j
    by_cases h : 27 ≤ j ∧ j ≤ 29
    · obtain ⟨t, h1, h2⟩ := va_Tof (f := fun k => .int ((mMk j).getD k 0)) (A := A) (N := 10) (by decide) (hs _ (rm_ar j (by omega) h.1)) (va_eqt (hs _ (rm_le j (by omega) h.1))) (fun k hk => va_eqt (hs _ (rm_el j (by omega) h.1 k hk))) hA
      exact ⟨t, fun _ _ => ⟨h2, va_Zref (hts _ (rm_ls j (by omega) h.1)) (hts _ rm_in.1) h1 hA⟩⟩
    · exact ⟨0, fun h1 h2 => absurd ⟨h1, h2⟩ h⟩
  obtain ⟨st, hst⟩ := Classical.axiomOfChoice hM
  have hq : ∃ oq : Value, oq.category = 1 ∧ va_Z "jdk/internal/util/Preconditions" "SIOOBE_FORMATTER" "Ljava/util/function/BiFunction;" oq A s s.heap := by
    rcases va_Zqof (A := A) (hts _ rm_in.2.2.2.2) (hts _ rm_in.2.2.1) (hs _ rm_cs.2) hA with h | ⟨t, h⟩
    · exact ⟨.null, rfl, h⟩
    · exact ⟨.ref t, rfl, h⟩
  obtain ⟨oq, hoq, hZ⟩ := hq
  refine ⟨sK, sV, st, oq, hoq, fun ad h1 h2 h3 => ⟨fun i j n bt hij hj ha => ?_, fun n hn => ?_, fun j hj => ?_, va_Zof (hts _ rm_in.2.2.2.1) (hts _ rm_in.2.1) (va_eqi (hs _ rm_cs.1)) hA, hZ, fun q hq => ?_, fun w hw => va_Nw.of (mNest_tab hw) (hts w (List.mem_filter.mp hw).1)⟩⟩
  · rcases mIn_ro hij hj with ⟨rfl, rfl⟩ | ⟨rfl, k1, k2⟩ | ⟨rfl, rfl⟩ | ⟨k1, rfl⟩
    · cases ha
      rw [h3]
      obtain ⟨scr, x1, x2, x3, x4, x5⟩ := hX
      refine ⟨scr, x1, x2, x3, Nat.le_of_eq x4.symm, by rw [x4] <;> rfl, fun j hj => x5 j hj, hA b (Array.getElem?_eq_some_iff.mp x1).1⟩
    · have key := (hst j k1 k2).1
      rw [h2 j k1 k2]
      have : j = 27 ∨ j = 28 ∨ j = 29 := by omega
      rcases this with rfl | rfl | rfl <;> (cases ha; exact key)
    · cases ha
    · cases ha
      rw [(h1 i k1).2]
      exact (hS.1 i k1).2.2.2
  · rw [(h1 n hn).1, (h1 n hn).2]
    exact ⟨(hS.1 n hn).1, (hS.1 n hn).2.1, (hS.1 n hn).2.2.1⟩
  · rw [h2 j hj.1 hj.2]
    exact (hst j hj.1 hj.2).2
  · obtain ⟨k1, k2⟩ := rs_at q hq
    rw [(h1 _ k1).1]
    have e1 := rs_sr q.2.2.2 k1
    have e2 := hE q.2.2.2 k1
    unfold mTm1 at e2
    rw [k2] at e1 e2
    exact vk_R.of (hts _ e1) e2
theorem mRo_cong {ad ad' : Nat → Nat → Nat} {oq : Value} {X : mX} {A : Nat → Prop} {s : State} (h : mRo ad oq X A s) (he : ∀ i j, 24 ≤ j → ad' i j = ad i j) : mRo ad' oq X A s := by
  obtain ⟨h1, h2, h3, h4, h5, h6, h7⟩ := h
  refine ⟨fun i j n b q1 q2 q3 => ?_, fun n hn => ?_, fun j hj => ?_, h4, h5, fun q hq => ?_, h7⟩
  · rw [he i j (by omega)]; exact h1 i j n b q1 q2 q3
  · rw [he n 24 (by omega), he n 25 (by omega)]; exact h2 n hn
  · rw [he 9 j (by omega)]; exact h3 j hj
  · rw [he _ 24 (by omega)]; exact h6 q hq
